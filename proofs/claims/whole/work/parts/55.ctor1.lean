set_option maxHeartbeats 4000000 in
set_option maxRecDepth 100000 in
theorem mJ_fill (l : Launch) (G : kG) (a n : Nat) (hn : n < 2 ^ 31) (f : Nat → Int32) (x : Int32) : KMv l G (fun q => q = a) (fun g : Nat → Int32 => ([(a, .inl (gI G, n, .inl g))] : va_W)) yJ7_fill_53178 cJ7_fill_53178 4 (Option.none : Option FieldType) ({ frames := 0, cells := 0, slots := 0, locals := 0 }) [.ref (a), .int (x)] f (fun g => ∀ j, j < n → g j = x) := by
  refine K_of (by decide) (Nat.le_of_ble_eq_true rfl) ?_
  intro p e s m below meth c X hr hlocks hnm hK hP ls hl
  have hx := X.1
  have hb := X.2.1
  have hown := X.2.2.2.1
  have hts := X.2.2.2.2
  have hS : va_S (fun q => q = a) s.heap s.heap [] := va_S.rf
  have hl : lv_has ls 4 [(0, .ref (a)), (1, .int (x))] := hl
  refine lv_iconst (v := nI 0) hx hb dJ7_fill_53178_0 (by decide) ?_
  refine lv_istore_n (lv' := [(2, .int (nI 0)), (0, .ref (a)), (1, .int (x))]) hx hb dJ7_fill_53178_1 rfl hl (by decide) rfl (fun ls hl => ?_)
  refine lv_aload_n hx hb dJ7_fill_53178_2 rfl (lv_at hl 1 rfl) ?_
  refine va_alen hx hb hK.1 hP 0 0 rfl rfl rfl dJ7_fill_53178_3 ?_
  refine lv_istore_n (lv' := [(3, .int (nI n)), (2, .int (nI 0)), (0, .ref (a)), (1, .int (x))]) hx hb dJ7_fill_53178_4 rfl hl (by decide) rfl (fun ls hl => ?_)
  have loop_5 : ∀ (d_5 : Nat) (i : Nat) (g : Nat → Int32), n - i = d_5 → (i ≤ n) → (∀ j, j < i → g j = x) → ∀ (H : Heap) (locs : List Loc) (ls : Array Slot), va_P (gD G) vwCl ((fun g : Nat → Int32 => ([(a, .inl (gI G, n, .inl g))] : va_W)) g) H → va_S (fun q => q = a) s.heap H locs → lv_has ls 4 [(0, .ref (a)), (1, .int (x)), (3, .int (nI n)), (2, .int (nI i))] → W p l e ({ frames := 0, cells := 0, slots := 0, locals := 0 } : Room) s m ([.ref (a), .int (x)] : List Value).toArray below meth c H locs 0 0 (MQ below (va_Qv (fun g => ∀ j, j < n → g j = x) (KB G (fun g : Nat → Int32 => ([(a, .inl (gI G, n, .inl g))] : va_W))) (fun q => q = a)) ([.ref (a), .int (x)] : List Value).toArray s 0 0 (fun q => q = a)) (F0 m 5 ls []) := by
    intro d_5
    induction d_5 using Nat.strongRecOn with
    | ind d_5 ih_5 =>
      intro i g hd_5 hi hg H locs ls hP hS hl
      refine lv_iload_n hx hb dJ7_fill_53178_5 rfl (lv_at hl 3 rfl) ?_
      refine lv_iload_n hx hb dJ7_fill_53178_6 rfl (lv_at hl 2 rfl) ?_
      refine lv_icmp_ge (tgt := 20) hx hb dJ7_fill_53178_7 (by decide) (fun c_7 => ?_) (fun c_7 => ?_)
      · have c_7 : n ≤ i := cLe c_7 (by omega) (by omega)
        exact k_retv X hr hlocks hP hS dJ7_fill_53178_20 (fun j h => hg j (by omega))
      · have c_7 : i < n := cNle c_7 (by omega) (by omega)
        refine lv_aload_n hx hb dJ7_fill_53178_10 rfl (lv_at hl 0 rfl) ?_
        refine lv_iload_n hx hb dJ7_fill_53178_11 rfl (lv_at hl 3 rfl) ?_
        refine lv_iload_n hx hb dJ7_fill_53178_12 rfl (lv_at hl 1 rfl) ?_
        refine k_ist (wd := (fun g : Nat → Int32 => ([(a, .inl (gI G, n, .inl g))] : va_W))) (A := (fun q => q = a)) (u := g) (k := i) (x := x) X hK hP (D_one rfl) hS (q0 := 0) rfl (by omega) hn (upd (g) i x) rfl dJ7_fill_53178_13 (fun H locs hP hS => ?_)
        refine lv_iinc (v := nI (i + 1)) (lv' := [(2, .int (nI (i + 1))), (0, .ref (a)), (1, .int (x)), (3, .int (nI n))]) hx hb dJ7_fill_53178_14 hl (k := 3) rfl (nI_add i 1) (by decide) rfl (fun ls hl => ?_)
        refine lv_goto (tgt := 5) hx hb dJ7_fill_53178_17 (by decide) ?_
        exact ih_5 (n - (i + 1)) (by omega) (i + 1) (upd (g) i x) rfl (by omega) (fun j h => by
          by_cases e : j = i
          · simp [upd, e]
          · simp [upd, e]; exact hg j (by omega)) _ _ _ hP hS (lv_sub hl [1, 2, 3, 0] rfl)
  exact loop_5 _ 0 f rfl (Nat.zero_le _) (fun j h => absurd h (Nat.not_lt_zero _)) _ _ _ hP hS (lv_sub hl [2, 3, 0, 1] rfl)

set_option maxHeartbeats 1000000 in
set_option maxRecDepth 100000 in
theorem m0_init (l : Launch) (G : kG) (h0 sz : Nat) : Met l yX0_init (.code yX0_init cX0_init 1 none :: WL) ({ frames := 1, cells := 7, slots := 427, locals := 12 }) (KPx G [.ref h0] [(h0, .inr (0, [.null, .null, .null, .null, .null, .null, .null, .int 0]))] sz) (va_Qv (fun _ : Unit => True) (fun _ t => ∃ q7 q15 q23 q31 q39 q47 q55, va_P (gD G) vwCl ([(h0, .inr (0, [.ref q7, .ref q15, .ref q23, .ref q31, .ref q39, .ref q47, .ref q55, .int (nI 1)])), (q7, .inl (gI G, 61, .inl (upd (fun _ => 0) 0 ((-1))))), (q15, .inl (gI G, 61, .inl (fun _ => 0))), (q23, .inl (gI G, 61, .inl (fun _ => 0))), (q31, .inl (gI G, 61, .inl (fun _ => 0))), (q39, .inl (gI G, 61, .inl (upd (fun _ => 0) 0 ((-1))))), (q47, .inl (gJ G, 61, .inr (.inl (vp_updL (fun _ => 0) 0 1)))), (q55, .inl (gI G, 61, .inl (fun _ => 0)))]) t.heap ∧ va_D (va_A [(h0, .inr (0, [.null, .null, .null, .null, .null, .null, .null, .int 0]))] sz) ([(h0, .inr (0, [.ref q7, .ref q15, .ref q23, .ref q31, .ref q39, .ref q47, .ref q55, .int (nI 1)])), (q7, .inl (gI G, 61, .inl (upd (fun _ => 0) 0 ((-1))))), (q15, .inl (gI G, 61, .inl (fun _ => 0))), (q23, .inl (gI G, 61, .inl (fun _ => 0))), (q31, .inl (gI G, 61, .inl (fun _ => 0))), (q39, .inl (gI G, 61, .inl (upd (fun _ => 0) 0 ((-1))))), (q47, .inl (gJ G, 61, .inr (.inl (vp_updL (fun _ => 0) 0 1)))), (q55, .inl (gI G, 61, .inl (fun _ => 0)))])) (va_A [(h0, .inr (0, [.null, .null, .null, .null, .null, .null, .null, .int 0]))] sz)) 7 427 (va_A [(h0, .inr (0, [.null, .null, .null, .null, .null, .null, .null, .int 0]))] sz) := by
  refine K_ofX (by decide) (Nat.le_of_ble_eq_true rfl) ?_
  intro p e s m below meth c X hr hlocks hnm hK hO hP hz ls hl
  have hx := X.1
  have hb := X.2.1
  have hown := X.2.2.2.1
  have hts := X.2.2.2.2
  subst hz
  have hD : va_D (va_A [(h0, .inr (0, [.null, .null, .null, .null, .null, .null, .null, .int 0]))] s.heap.size) [(h0, .inr (0, [.null, .null, .null, .null, .null, .null, .null, .int 0]))] := D_one A_one
  generalize hAe : va_A [(h0, .inr (0, [.null, .null, .null, .null, .null, .null, .null, .int 0]))] s.heap.size = A at hD ⊢
  have hA : ∀ q : Nat, s.heap.size ≤ q → A q := fun q h => by rw [← hAe]; exact Or.inr h
  have hS : va_S A s.heap s.heap [] := va_S.rf
  have hl : lv_has ls 1 [(0, .ref h0)] := hl
  have hnm : meth.name = "<init>" := hnm
  refine lv_aload_n hx hb dX0_init_0 rfl (lv_at hl 0 rfl) ?_
  refine k_obj X tw_1_28 tw_1_15 tw_1_16 hl.1 dX0_init_1 (Nat.le_of_ble_eq_true rfl) (Nat.le_of_ble_eq_true rfl) ?_
  refine lv_aload_n hx hb dX0_init_4 rfl (lv_at hl 0 rfl) ?_
  refine lv_bipush (v := nI 61) hx hb dX0_init_5 (by decide) ?_
  refine k_newa (atype := .int) (ty := .int) (N' := 61) (a0 := (61, .inl (fun _ => 0))) X hK hP hD hS hA rfl tw_1_67 0 rfl (fun _ => rfl) (by decide) (by decide) (by decide) (Nat.le_of_ble_eq_true rfl) (Nat.le_of_ble_eq_true rfl) dX0_init_7 (fun q7 H hP hD hS => ?_)
  have hP : va_P (gD G) vwCl ([(h0, .inr (0, [.null, .null, .null, .null, .null, .null, .null, .int 0])), (q7, .inl (gI G, 61, .inl (fun _ => 0)))]) H := hP
  have hD : va_D A ([(h0, .inr (0, [.null, .null, .null, .null, .null, .null, .null, .int 0])), (q7, .inl (gI G, 61, .inl (fun _ => 0)))]) := hD
  refine W.widen (k := 1) (n := 61) (Nat.le_refl _) (Nat.le_refl _) ?_
  refine k_pF (v := .ref q7) X hK inX0 rfl tyX0_ok nmX0 hP hD hS (q0 := 0) rfl 0 (by decide) tw_1_29 rfl hnm rfl rfl rfl (Nat.le_of_ble_eq_true rfl) ([(h0, .inr (0, [.ref q7, .null, .null, .null, .null, .null, .null, .int 0])), (q7, .inl (gI G, 61, .inl (fun _ => 0)))]) rfl dX0_init_9 (fun H locs hP hD hS => ?_)
  refine lv_aload_n hx hb dX0_init_12 rfl (lv_at hl 0 rfl) ?_
  refine lv_bipush (v := nI 61) hx hb dX0_init_13 (by decide) ?_
  refine k_newa (atype := .int) (ty := .int) (N' := 61) (a0 := (61, .inl (fun _ => 0))) X hK hP hD hS hA rfl tw_1_67 0 rfl (fun _ => rfl) (by decide) (by decide) (by decide) (Nat.le_of_ble_eq_true rfl) (Nat.le_of_ble_eq_true rfl) dX0_init_15 (fun q15 H hP hD hS => ?_)
  have hP : va_P (gD G) vwCl ([(h0, .inr (0, [.ref q7, .null, .null, .null, .null, .null, .null, .int 0])), (q7, .inl (gI G, 61, .inl (fun _ => 0))), (q15, .inl (gI G, 61, .inl (fun _ => 0)))]) H := hP
  have hD : va_D A ([(h0, .inr (0, [.ref q7, .null, .null, .null, .null, .null, .null, .int 0])), (q7, .inl (gI G, 61, .inl (fun _ => 0))), (q15, .inl (gI G, 61, .inl (fun _ => 0)))]) := hD
  refine W.widen (k := 2) (n := 122) (Nat.le_refl _) (Nat.le_refl _) ?_
  refine k_pF (v := .ref q15) X hK inX0 rfl tyX0_ok nmX0 hP hD hS (q0 := 0) rfl 1 (by decide) tw_1_32 rfl hnm rfl rfl rfl (Nat.le_of_ble_eq_true rfl) ([(h0, .inr (0, [.ref q7, .ref q15, .null, .null, .null, .null, .null, .int 0])), (q7, .inl (gI G, 61, .inl (fun _ => 0))), (q15, .inl (gI G, 61, .inl (fun _ => 0)))]) rfl dX0_init_17 (fun H locs hP hD hS => ?_)
  refine lv_aload_n hx hb dX0_init_20 rfl (lv_at hl 0 rfl) ?_
  refine lv_bipush (v := nI 61) hx hb dX0_init_21 (by decide) ?_
  refine k_newa (atype := .int) (ty := .int) (N' := 61) (a0 := (61, .inl (fun _ => 0))) X hK hP hD hS hA rfl tw_1_67 0 rfl (fun _ => rfl) (by decide) (by decide) (by decide) (Nat.le_of_ble_eq_true rfl) (Nat.le_of_ble_eq_true rfl) dX0_init_23 (fun q23 H hP hD hS => ?_)
  have hP : va_P (gD G) vwCl ([(h0, .inr (0, [.ref q7, .ref q15, .null, .null, .null, .null, .null, .int 0])), (q7, .inl (gI G, 61, .inl (fun _ => 0))), (q15, .inl (gI G, 61, .inl (fun _ => 0))), (q23, .inl (gI G, 61, .inl (fun _ => 0)))]) H := hP
  have hD : va_D A ([(h0, .inr (0, [.ref q7, .ref q15, .null, .null, .null, .null, .null, .int 0])), (q7, .inl (gI G, 61, .inl (fun _ => 0))), (q15, .inl (gI G, 61, .inl (fun _ => 0))), (q23, .inl (gI G, 61, .inl (fun _ => 0)))]) := hD
  refine W.widen (k := 3) (n := 183) (Nat.le_refl _) (Nat.le_refl _) ?_
  refine k_pF (v := .ref q23) X hK inX0 rfl tyX0_ok nmX0 hP hD hS (q0 := 0) rfl 2 (by decide) tw_1_35 rfl hnm rfl rfl rfl (Nat.le_of_ble_eq_true rfl) ([(h0, .inr (0, [.ref q7, .ref q15, .ref q23, .null, .null, .null, .null, .int 0])), (q7, .inl (gI G, 61, .inl (fun _ => 0))), (q15, .inl (gI G, 61, .inl (fun _ => 0))), (q23, .inl (gI G, 61, .inl (fun _ => 0)))]) rfl dX0_init_25 (fun H locs hP hD hS => ?_)
  refine lv_aload_n hx hb dX0_init_28 rfl (lv_at hl 0 rfl) ?_
  refine lv_bipush (v := nI 61) hx hb dX0_init_29 (by decide) ?_
  refine k_newa (atype := .int) (ty := .int) (N' := 61) (a0 := (61, .inl (fun _ => 0))) X hK hP hD hS hA rfl tw_1_67 0 rfl (fun _ => rfl) (by decide) (by decide) (by decide) (Nat.le_of_ble_eq_true rfl) (Nat.le_of_ble_eq_true rfl) dX0_init_31 (fun q31 H hP hD hS => ?_)
  have hP : va_P (gD G) vwCl ([(h0, .inr (0, [.ref q7, .ref q15, .ref q23, .null, .null, .null, .null, .int 0])), (q7, .inl (gI G, 61, .inl (fun _ => 0))), (q15, .inl (gI G, 61, .inl (fun _ => 0))), (q23, .inl (gI G, 61, .inl (fun _ => 0))), (q31, .inl (gI G, 61, .inl (fun _ => 0)))]) H := hP
  have hD : va_D A ([(h0, .inr (0, [.ref q7, .ref q15, .ref q23, .null, .null, .null, .null, .int 0])), (q7, .inl (gI G, 61, .inl (fun _ => 0))), (q15, .inl (gI G, 61, .inl (fun _ => 0))), (q23, .inl (gI G, 61, .inl (fun _ => 0))), (q31, .inl (gI G, 61, .inl (fun _ => 0)))]) := hD
  refine W.widen (k := 4) (n := 244) (Nat.le_refl _) (Nat.le_refl _) ?_
  refine k_pF (v := .ref q31) X hK inX0 rfl tyX0_ok nmX0 hP hD hS (q0 := 0) rfl 3 (by decide) tw_1_37 rfl hnm rfl rfl rfl (Nat.le_of_ble_eq_true rfl) ([(h0, .inr (0, [.ref q7, .ref q15, .ref q23, .ref q31, .null, .null, .null, .int 0])), (q7, .inl (gI G, 61, .inl (fun _ => 0))), (q15, .inl (gI G, 61, .inl (fun _ => 0))), (q23, .inl (gI G, 61, .inl (fun _ => 0))), (q31, .inl (gI G, 61, .inl (fun _ => 0)))]) rfl dX0_init_33 (fun H locs hP hD hS => ?_)
  refine lv_aload_n hx hb dX0_init_36 rfl (lv_at hl 0 rfl) ?_
  refine lv_bipush (v := nI 61) hx hb dX0_init_37 (by decide) ?_
  refine k_newa (atype := .int) (ty := .int) (N' := 61) (a0 := (61, .inl (fun _ => 0))) X hK hP hD hS hA rfl tw_1_67 0 rfl (fun _ => rfl) (by decide) (by decide) (by decide) (Nat.le_of_ble_eq_true rfl) (Nat.le_of_ble_eq_true rfl) dX0_init_39 (fun q39 H hP hD hS => ?_)
  have hP : va_P (gD G) vwCl ([(h0, .inr (0, [.ref q7, .ref q15, .ref q23, .ref q31, .null, .null, .null, .int 0])), (q7, .inl (gI G, 61, .inl (fun _ => 0))), (q15, .inl (gI G, 61, .inl (fun _ => 0))), (q23, .inl (gI G, 61, .inl (fun _ => 0))), (q31, .inl (gI G, 61, .inl (fun _ => 0))), (q39, .inl (gI G, 61, .inl (fun _ => 0)))]) H := hP
  have hD : va_D A ([(h0, .inr (0, [.ref q7, .ref q15, .ref q23, .ref q31, .null, .null, .null, .int 0])), (q7, .inl (gI G, 61, .inl (fun _ => 0))), (q15, .inl (gI G, 61, .inl (fun _ => 0))), (q23, .inl (gI G, 61, .inl (fun _ => 0))), (q31, .inl (gI G, 61, .inl (fun _ => 0))), (q39, .inl (gI G, 61, .inl (fun _ => 0)))]) := hD
  refine W.widen (k := 5) (n := 305) (Nat.le_refl _) (Nat.le_refl _) ?_
  refine k_pF (v := .ref q39) X hK inX0 rfl tyX0_ok nmX0 hP hD hS (q0 := 0) rfl 4 (by decide) tw_1_40 rfl hnm rfl rfl rfl (Nat.le_of_ble_eq_true rfl) ([(h0, .inr (0, [.ref q7, .ref q15, .ref q23, .ref q31, .ref q39, .null, .null, .int 0])), (q7, .inl (gI G, 61, .inl (fun _ => 0))), (q15, .inl (gI G, 61, .inl (fun _ => 0))), (q23, .inl (gI G, 61, .inl (fun _ => 0))), (q31, .inl (gI G, 61, .inl (fun _ => 0))), (q39, .inl (gI G, 61, .inl (fun _ => 0)))]) rfl dX0_init_41 (fun H locs hP hD hS => ?_)
  refine lv_aload_n hx hb dX0_init_44 rfl (lv_at hl 0 rfl) ?_
  refine lv_bipush (v := nI 61) hx hb dX0_init_45 (by decide) ?_
  refine k_newa (atype := .long) (ty := .long) (N' := 61) (a0 := (61, .inr (.inl (fun _ => 0)))) X hK hP hD hS hA rfl tw_1_68 1 rfl (fun _ => rfl) (by decide) (by decide) (by decide) (Nat.le_of_ble_eq_true rfl) (Nat.le_of_ble_eq_true rfl) dX0_init_47 (fun q47 H hP hD hS => ?_)
  have hP : va_P (gD G) vwCl ([(h0, .inr (0, [.ref q7, .ref q15, .ref q23, .ref q31, .ref q39, .null, .null, .int 0])), (q7, .inl (gI G, 61, .inl (fun _ => 0))), (q15, .inl (gI G, 61, .inl (fun _ => 0))), (q23, .inl (gI G, 61, .inl (fun _ => 0))), (q31, .inl (gI G, 61, .inl (fun _ => 0))), (q39, .inl (gI G, 61, .inl (fun _ => 0))), (q47, .inl (gJ G, 61, .inr (.inl (fun _ => 0))))]) H := hP
  have hD : va_D A ([(h0, .inr (0, [.ref q7, .ref q15, .ref q23, .ref q31, .ref q39, .null, .null, .int 0])), (q7, .inl (gI G, 61, .inl (fun _ => 0))), (q15, .inl (gI G, 61, .inl (fun _ => 0))), (q23, .inl (gI G, 61, .inl (fun _ => 0))), (q31, .inl (gI G, 61, .inl (fun _ => 0))), (q39, .inl (gI G, 61, .inl (fun _ => 0))), (q47, .inl (gJ G, 61, .inr (.inl (fun _ => 0))))]) := hD
  refine W.widen (k := 6) (n := 366) (Nat.le_refl _) (Nat.le_refl _) ?_
  refine k_pF (v := .ref q47) X hK inX0 rfl tyX0_ok nmX0 hP hD hS (q0 := 0) rfl 5 (by decide) tw_1_42 rfl hnm rfl rfl rfl (Nat.le_of_ble_eq_true rfl) ([(h0, .inr (0, [.ref q7, .ref q15, .ref q23, .ref q31, .ref q39, .ref q47, .null, .int 0])), (q7, .inl (gI G, 61, .inl (fun _ => 0))), (q15, .inl (gI G, 61, .inl (fun _ => 0))), (q23, .inl (gI G, 61, .inl (fun _ => 0))), (q31, .inl (gI G, 61, .inl (fun _ => 0))), (q39, .inl (gI G, 61, .inl (fun _ => 0))), (q47, .inl (gJ G, 61, .inr (.inl (fun _ => 0))))]) rfl dX0_init_49 (fun H locs hP hD hS => ?_)
  refine lv_aload_n hx hb dX0_init_52 rfl (lv_at hl 0 rfl) ?_
  refine lv_bipush (v := nI 61) hx hb dX0_init_53 (by decide) ?_
  refine k_newa (atype := .int) (ty := .int) (N' := 61) (a0 := (61, .inl (fun _ => 0))) X hK hP hD hS hA rfl tw_1_67 0 rfl (fun _ => rfl) (by decide) (by decide) (by decide) (Nat.le_of_ble_eq_true rfl) (Nat.le_of_ble_eq_true rfl) dX0_init_55 (fun q55 H hP hD hS => ?_)
  have hP : va_P (gD G) vwCl ([(h0, .inr (0, [.ref q7, .ref q15, .ref q23, .ref q31, .ref q39, .ref q47, .null, .int 0])), (q7, .inl (gI G, 61, .inl (fun _ => 0))), (q15, .inl (gI G, 61, .inl (fun _ => 0))), (q23, .inl (gI G, 61, .inl (fun _ => 0))), (q31, .inl (gI G, 61, .inl (fun _ => 0))), (q39, .inl (gI G, 61, .inl (fun _ => 0))), (q47, .inl (gJ G, 61, .inr (.inl (fun _ => 0)))), (q55, .inl (gI G, 61, .inl (fun _ => 0)))]) H := hP
  have hD : va_D A ([(h0, .inr (0, [.ref q7, .ref q15, .ref q23, .ref q31, .ref q39, .ref q47, .null, .int 0])), (q7, .inl (gI G, 61, .inl (fun _ => 0))), (q15, .inl (gI G, 61, .inl (fun _ => 0))), (q23, .inl (gI G, 61, .inl (fun _ => 0))), (q31, .inl (gI G, 61, .inl (fun _ => 0))), (q39, .inl (gI G, 61, .inl (fun _ => 0))), (q47, .inl (gJ G, 61, .inr (.inl (fun _ => 0)))), (q55, .inl (gI G, 61, .inl (fun _ => 0)))]) := hD
  refine W.widen (k := 7) (n := 427) (Nat.le_refl _) (Nat.le_refl _) ?_
  refine k_pF (v := .ref q55) X hK inX0 rfl tyX0_ok nmX0 hP hD hS (q0 := 0) rfl 6 (by decide) tw_1_45 rfl hnm rfl rfl rfl (Nat.le_of_ble_eq_true rfl) ([(h0, .inr (0, [.ref q7, .ref q15, .ref q23, .ref q31, .ref q39, .ref q47, .ref q55, .int 0])), (q7, .inl (gI G, 61, .inl (fun _ => 0))), (q15, .inl (gI G, 61, .inl (fun _ => 0))), (q23, .inl (gI G, 61, .inl (fun _ => 0))), (q31, .inl (gI G, 61, .inl (fun _ => 0))), (q39, .inl (gI G, 61, .inl (fun _ => 0))), (q47, .inl (gJ G, 61, .inr (.inl (fun _ => 0)))), (q55, .inl (gI G, 61, .inl (fun _ => 0)))]) rfl dX0_init_57 (fun H locs hP hD hS => ?_)
  refine lv_aload_n hx hb dX0_init_60 rfl (lv_at hl 0 rfl) ?_
  refine lv_iconst (v := nI 1) hx hb dX0_init_61 (by decide) ?_
  refine k_pV (v := .int (nI 1)) X hK inX0 rfl tyX0_ok nmX0 hP hD hS (q0 := 0) rfl 7 (by decide) tw_1_47 rfl rfl rfl (Nat.le_of_ble_eq_true rfl) ([(h0, .inr (0, [.ref q7, .ref q15, .ref q23, .ref q31, .ref q39, .ref q47, .ref q55, .int (nI 1)])), (q7, .inl (gI G, 61, .inl (fun _ => 0))), (q15, .inl (gI G, 61, .inl (fun _ => 0))), (q23, .inl (gI G, 61, .inl (fun _ => 0))), (q31, .inl (gI G, 61, .inl (fun _ => 0))), (q39, .inl (gI G, 61, .inl (fun _ => 0))), (q47, .inl (gJ G, 61, .inr (.inl (fun _ => 0)))), (q55, .inl (gI G, 61, .inl (fun _ => 0)))]) rfl dX0_init_62 (fun H locs hP hD hS => ?_)
  refine lv_aload_n hx hb dX0_init_65 rfl (lv_at hl 0 rfl) ?_
  refine k_get (v := .ref q7) X hK inX0 rfl hP (q0 := 0) rfl 0 (by decide) tw_1_29 rfl dX0_init_66 ?_
  refine lv_iconst (v := nI 0) hx hb dX0_init_69 (by decide) ?_
  refine lv_iconst (v := -1) hx hb dX0_init_70 (by decide) ?_
  refine k_iL (k := 0) (x := (-1)) X hK hP hD hS (q0 := 1) rfl (by omega) (by decide) ([(h0, .inr (0, [.ref q7, .ref q15, .ref q23, .ref q31, .ref q39, .ref q47, .ref q55, .int (nI 1)])), (q7, .inl (gI G, 61, .inl (upd (fun _ => 0) 0 ((-1))))), (q15, .inl (gI G, 61, .inl (fun _ => 0))), (q23, .inl (gI G, 61, .inl (fun _ => 0))), (q31, .inl (gI G, 61, .inl (fun _ => 0))), (q39, .inl (gI G, 61, .inl (fun _ => 0))), (q47, .inl (gJ G, 61, .inr (.inl (fun _ => 0)))), (q55, .inl (gI G, 61, .inl (fun _ => 0)))]) rfl dX0_init_71 (fun H locs hP hD hS => ?_)
  refine lv_aload_n hx hb dX0_init_72 rfl (lv_at hl 0 rfl) ?_
  refine k_get (v := .ref q39) X hK inX0 rfl hP (q0 := 0) rfl 4 (by decide) tw_1_40 rfl dX0_init_73 ?_
  refine lv_iconst (v := nI 0) hx hb dX0_init_76 (by decide) ?_
  refine lv_iconst (v := -1) hx hb dX0_init_77 (by decide) ?_
  refine k_iL (k := 0) (x := (-1)) X hK hP hD hS (q0 := 5) rfl (by omega) (by decide) ([(h0, .inr (0, [.ref q7, .ref q15, .ref q23, .ref q31, .ref q39, .ref q47, .ref q55, .int (nI 1)])), (q7, .inl (gI G, 61, .inl (upd (fun _ => 0) 0 ((-1))))), (q15, .inl (gI G, 61, .inl (fun _ => 0))), (q23, .inl (gI G, 61, .inl (fun _ => 0))), (q31, .inl (gI G, 61, .inl (fun _ => 0))), (q39, .inl (gI G, 61, .inl (upd (fun _ => 0) 0 ((-1))))), (q47, .inl (gJ G, 61, .inr (.inl (fun _ => 0)))), (q55, .inl (gI G, 61, .inl (fun _ => 0)))]) rfl dX0_init_78 (fun H locs hP hD hS => ?_)
  refine lv_aload_n hx hb dX0_init_79 rfl (lv_at hl 0 rfl) ?_
  refine k_get (v := .ref q47) X hK inX0 rfl hP (q0 := 0) rfl 5 (by decide) tw_1_42 rfl dX0_init_80 ?_
  refine lv_iconst (v := nI 0) hx hb dX0_init_83 (by decide) ?_
  refine lv_lconst (v := 1) hx hb dX0_init_84 rfl ?_
  refine k_lL (k := 0) (x := 1) X hK hP hD hS (q0 := 6) rfl (by omega) (by decide) ([(h0, .inr (0, [.ref q7, .ref q15, .ref q23, .ref q31, .ref q39, .ref q47, .ref q55, .int (nI 1)])), (q7, .inl (gI G, 61, .inl (upd (fun _ => 0) 0 ((-1))))), (q15, .inl (gI G, 61, .inl (fun _ => 0))), (q23, .inl (gI G, 61, .inl (fun _ => 0))), (q31, .inl (gI G, 61, .inl (fun _ => 0))), (q39, .inl (gI G, 61, .inl (upd (fun _ => 0) 0 ((-1))))), (q47, .inl (gJ G, 61, .inr (.inl (vp_updL (fun _ => 0) 0 1)))), (q55, .inl (gI G, 61, .inl (fun _ => 0)))]) rfl dX0_init_85 (fun H locs hP hD hS => ?_)
  exact W.vret hx hb hr (fun t ht hW => ⟨⟨(), rfl, trivial, q7, q15, q23, q31, q39, q47, q55, by rw [ht]; exact hP, hD⟩, hS.F ht⟩) hS.2.2 dX0_init_86

set_option maxHeartbeats 1000000 in
set_option maxRecDepth 100000 in
theorem m1_init (l : Launch) (G : kG) (h0 sz v n b : Nat) : Met l yX1_init (.code yX1_init cX1_init 4 none :: WL) ({ frames := 1, cells := 4, slots := 204, locals := 23 }) (KPx G [.ref h0, .int (nI v), .int (nI n), .ref b] [(h0, .inr (1, [.int 0, .int 0, .null, .int 0, .int 0, .long 0, .long 0, .null, .null, .null, .null, .long 0, .long 0, .long 0, .int 0, .int 0]))] sz) (va_Qv (fun _ : Unit => True) (fun _ t => ∃ q7 q15 q23 q31 g81 g89, (∀ j, j < 41 → g81 j = -1) ∧ (∀ j, j < 41 → g89 j = -1) ∧ va_P (gD G) vwCl ([(h0, .inr (1, [.int (nI v), .int (nI n), .ref b, .int 0, .int 0, .long 0, .long 0, .ref q7, .ref q15, .ref q23, .ref q31, .long 1, .long 1, .long 1, .int (nI 0), .int (nI 0)])), (q7, .inl (gI G, 61, .inl (fun _ => 0))), (q15, .inl (gI G, 61, .inl (fun _ => 0))), (q23, .inl (gI G, 41, .inl (g81))), (q31, .inl (gI G, 41, .inl (g89)))]) t.heap ∧ va_D (va_A [(h0, .inr (1, [.int 0, .int 0, .null, .int 0, .int 0, .long 0, .long 0, .null, .null, .null, .null, .long 0, .long 0, .long 0, .int 0, .int 0]))] sz) ([(h0, .inr (1, [.int (nI v), .int (nI n), .ref b, .int 0, .int 0, .long 0, .long 0, .ref q7, .ref q15, .ref q23, .ref q31, .long 1, .long 1, .long 1, .int (nI 0), .int (nI 0)])), (q7, .inl (gI G, 61, .inl (fun _ => 0))), (q15, .inl (gI G, 61, .inl (fun _ => 0))), (q23, .inl (gI G, 41, .inl (g81))), (q31, .inl (gI G, 41, .inl (g89)))])) (va_A [(h0, .inr (1, [.int 0, .int 0, .null, .int 0, .int 0, .long 0, .long 0, .null, .null, .null, .null, .long 0, .long 0, .long 0, .int 0, .int 0]))] sz)) 4 204 (va_A [(h0, .inr (1, [.int 0, .int 0, .null, .int 0, .int 0, .long 0, .long 0, .null, .null, .null, .null, .long 0, .long 0, .long 0, .int 0, .int 0]))] sz) := by
  refine K_ofX (by decide) (Nat.le_of_ble_eq_true rfl) ?_
  intro p e s m below meth c X hr hlocks hnm hK hO hP hz ls hl
  have hx := X.1
  have hb := X.2.1
  have hown := X.2.2.2.1
  have hts := X.2.2.2.2
  subst hz
  have hD : va_D (va_A [(h0, .inr (1, [.int 0, .int 0, .null, .int 0, .int 0, .long 0, .long 0, .null, .null, .null, .null, .long 0, .long 0, .long 0, .int 0, .int 0]))] s.heap.size) [(h0, .inr (1, [.int 0, .int 0, .null, .int 0, .int 0, .long 0, .long 0, .null, .null, .null, .null, .long 0, .long 0, .long 0, .int 0, .int 0]))] := D_one A_one
  generalize hAe : va_A [(h0, .inr (1, [.int 0, .int 0, .null, .int 0, .int 0, .long 0, .long 0, .null, .null, .null, .null, .long 0, .long 0, .long 0, .int 0, .int 0]))] s.heap.size = A at hD ⊢
  have hA : ∀ q : Nat, s.heap.size ≤ q → A q := fun q h => by rw [← hAe]; exact Or.inr h
  have hS : va_S A s.heap s.heap [] := va_S.rf
  have hl : lv_has ls 4 [(0, .ref h0), (1, .int (nI v)), (2, .int (nI n)), (3, .ref b)] := hl
  have hnm : meth.name = "<init>" := hnm
  refine lv_aload_n hx hb dX1_init_0 rfl (lv_at hl 0 rfl) ?_
  refine k_obj X tw_1_75 tw_1_15 tw_1_16 hl.1 dX1_init_1 (Nat.le_of_ble_eq_true rfl) (Nat.le_of_ble_eq_true rfl) ?_
  refine lv_aload_n hx hb dX1_init_4 rfl (lv_at hl 0 rfl) ?_
  refine lv_bipush (v := nI 61) hx hb dX1_init_5 (by decide) ?_
  refine k_newa (atype := .int) (ty := .int) (N' := 61) (a0 := (61, .inl (fun _ => 0))) X hK hP hD hS hA rfl tw_1_67 0 rfl (fun _ => rfl) (by decide) (by decide) (by decide) (Nat.le_of_ble_eq_true rfl) (Nat.le_of_ble_eq_true rfl) dX1_init_7 (fun q7 H hP hD hS => ?_)
  have hP : va_P (gD G) vwCl ([(h0, .inr (1, [.int 0, .int 0, .null, .int 0, .int 0, .long 0, .long 0, .null, .null, .null, .null, .long 0, .long 0, .long 0, .int 0, .int 0])), (q7, .inl (gI G, 61, .inl (fun _ => 0)))]) H := hP
  have hD : va_D A ([(h0, .inr (1, [.int 0, .int 0, .null, .int 0, .int 0, .long 0, .long 0, .null, .null, .null, .null, .long 0, .long 0, .long 0, .int 0, .int 0])), (q7, .inl (gI G, 61, .inl (fun _ => 0)))]) := hD
  refine W.widen (k := 1) (n := 61) (Nat.le_refl _) (Nat.le_refl _) ?_
  refine k_pF (v := .ref q7) X hK inX1 rfl tyX1_ok nmX1 hP hD hS (q0 := 0) rfl 7 (by decide) tw_1_89 rfl hnm rfl rfl rfl (Nat.le_of_ble_eq_true rfl) ([(h0, .inr (1, [.int 0, .int 0, .null, .int 0, .int 0, .long 0, .long 0, .ref q7, .null, .null, .null, .long 0, .long 0, .long 0, .int 0, .int 0])), (q7, .inl (gI G, 61, .inl (fun _ => 0)))]) rfl dX1_init_9 (fun H locs hP hD hS => ?_)
  refine lv_aload_n hx hb dX1_init_12 rfl (lv_at hl 0 rfl) ?_
  refine lv_bipush (v := nI 61) hx hb dX1_init_13 (by decide) ?_
  refine k_newa (atype := .int) (ty := .int) (N' := 61) (a0 := (61, .inl (fun _ => 0))) X hK hP hD hS hA rfl tw_1_67 0 rfl (fun _ => rfl) (by decide) (by decide) (by decide) (Nat.le_of_ble_eq_true rfl) (Nat.le_of_ble_eq_true rfl) dX1_init_15 (fun q15 H hP hD hS => ?_)
  have hP : va_P (gD G) vwCl ([(h0, .inr (1, [.int 0, .int 0, .null, .int 0, .int 0, .long 0, .long 0, .ref q7, .null, .null, .null, .long 0, .long 0, .long 0, .int 0, .int 0])), (q7, .inl (gI G, 61, .inl (fun _ => 0))), (q15, .inl (gI G, 61, .inl (fun _ => 0)))]) H := hP
  have hD : va_D A ([(h0, .inr (1, [.int 0, .int 0, .null, .int 0, .int 0, .long 0, .long 0, .ref q7, .null, .null, .null, .long 0, .long 0, .long 0, .int 0, .int 0])), (q7, .inl (gI G, 61, .inl (fun _ => 0))), (q15, .inl (gI G, 61, .inl (fun _ => 0)))]) := hD
  refine W.widen (k := 2) (n := 122) (Nat.le_refl _) (Nat.le_refl _) ?_
  refine k_pF (v := .ref q15) X hK inX1 rfl tyX1_ok nmX1 hP hD hS (q0 := 0) rfl 8 (by decide) tw_1_91 rfl hnm rfl rfl rfl (Nat.le_of_ble_eq_true rfl) ([(h0, .inr (1, [.int 0, .int 0, .null, .int 0, .int 0, .long 0, .long 0, .ref q7, .ref q15, .null, .null, .long 0, .long 0, .long 0, .int 0, .int 0])), (q7, .inl (gI G, 61, .inl (fun _ => 0))), (q15, .inl (gI G, 61, .inl (fun _ => 0)))]) rfl dX1_init_17 (fun H locs hP hD hS => ?_)
  refine lv_aload_n hx hb dX1_init_20 rfl (lv_at hl 0 rfl) ?_
  refine lv_bipush (v := nI 41) hx hb dX1_init_21 (by decide) ?_
  refine k_newa (atype := .int) (ty := .int) (N' := 41) (a0 := (41, .inl (fun _ => 0))) X hK hP hD hS hA rfl tw_1_67 0 rfl (fun _ => rfl) (by decide) (by decide) (by decide) (Nat.le_of_ble_eq_true rfl) (Nat.le_of_ble_eq_true rfl) dX1_init_23 (fun q23 H hP hD hS => ?_)
  have hP : va_P (gD G) vwCl ([(h0, .inr (1, [.int 0, .int 0, .null, .int 0, .int 0, .long 0, .long 0, .ref q7, .ref q15, .null, .null, .long 0, .long 0, .long 0, .int 0, .int 0])), (q7, .inl (gI G, 61, .inl (fun _ => 0))), (q15, .inl (gI G, 61, .inl (fun _ => 0))), (q23, .inl (gI G, 41, .inl (fun _ => 0)))]) H := hP
  have hD : va_D A ([(h0, .inr (1, [.int 0, .int 0, .null, .int 0, .int 0, .long 0, .long 0, .ref q7, .ref q15, .null, .null, .long 0, .long 0, .long 0, .int 0, .int 0])), (q7, .inl (gI G, 61, .inl (fun _ => 0))), (q15, .inl (gI G, 61, .inl (fun _ => 0))), (q23, .inl (gI G, 41, .inl (fun _ => 0)))]) := hD
  refine W.widen (k := 3) (n := 163) (Nat.le_refl _) (Nat.le_refl _) ?_
  refine k_pF (v := .ref q23) X hK inX1 rfl tyX1_ok nmX1 hP hD hS (q0 := 0) rfl 9 (by decide) tw_1_93 rfl hnm rfl rfl rfl (Nat.le_of_ble_eq_true rfl) ([(h0, .inr (1, [.int 0, .int 0, .null, .int 0, .int 0, .long 0, .long 0, .ref q7, .ref q15, .ref q23, .null, .long 0, .long 0, .long 0, .int 0, .int 0])), (q7, .inl (gI G, 61, .inl (fun _ => 0))), (q15, .inl (gI G, 61, .inl (fun _ => 0))), (q23, .inl (gI G, 41, .inl (fun _ => 0)))]) rfl dX1_init_25 (fun H locs hP hD hS => ?_)
  refine lv_aload_n hx hb dX1_init_28 rfl (lv_at hl 0 rfl) ?_
  refine lv_bipush (v := nI 41) hx hb dX1_init_29 (by decide) ?_
  refine k_newa (atype := .int) (ty := .int) (N' := 41) (a0 := (41, .inl (fun _ => 0))) X hK hP hD hS hA rfl tw_1_67 0 rfl (fun _ => rfl) (by decide) (by decide) (by decide) (Nat.le_of_ble_eq_true rfl) (Nat.le_of_ble_eq_true rfl) dX1_init_31 (fun q31 H hP hD hS => ?_)
  have hP : va_P (gD G) vwCl ([(h0, .inr (1, [.int 0, .int 0, .null, .int 0, .int 0, .long 0, .long 0, .ref q7, .ref q15, .ref q23, .null, .long 0, .long 0, .long 0, .int 0, .int 0])), (q7, .inl (gI G, 61, .inl (fun _ => 0))), (q15, .inl (gI G, 61, .inl (fun _ => 0))), (q23, .inl (gI G, 41, .inl (fun _ => 0))), (q31, .inl (gI G, 41, .inl (fun _ => 0)))]) H := hP
  have hD : va_D A ([(h0, .inr (1, [.int 0, .int 0, .null, .int 0, .int 0, .long 0, .long 0, .ref q7, .ref q15, .ref q23, .null, .long 0, .long 0, .long 0, .int 0, .int 0])), (q7, .inl (gI G, 61, .inl (fun _ => 0))), (q15, .inl (gI G, 61, .inl (fun _ => 0))), (q23, .inl (gI G, 41, .inl (fun _ => 0))), (q31, .inl (gI G, 41, .inl (fun _ => 0)))]) := hD
  refine W.widen (k := 4) (n := 204) (Nat.le_refl _) (Nat.le_refl _) ?_
  refine k_pF (v := .ref q31) X hK inX1 rfl tyX1_ok nmX1 hP hD hS (q0 := 0) rfl 10 (by decide) tw_1_94 rfl hnm rfl rfl rfl (Nat.le_of_ble_eq_true rfl) ([(h0, .inr (1, [.int 0, .int 0, .null, .int 0, .int 0, .long 0, .long 0, .ref q7, .ref q15, .ref q23, .ref q31, .long 0, .long 0, .long 0, .int 0, .int 0])), (q7, .inl (gI G, 61, .inl (fun _ => 0))), (q15, .inl (gI G, 61, .inl (fun _ => 0))), (q23, .inl (gI G, 41, .inl (fun _ => 0))), (q31, .inl (gI G, 41, .inl (fun _ => 0)))]) rfl dX1_init_33 (fun H locs hP hD hS => ?_)
  refine lv_aload_n hx hb dX1_init_36 rfl (lv_at hl 0 rfl) ?_
  refine lv_lconst (v := 1) hx hb dX1_init_37 rfl ?_
  refine k_pV (v := .long 1) X hK inX1 rfl tyX1_ok nmX1 hP hD hS (q0 := 0) rfl 11 (by decide) tw_1_96 rfl rfl rfl (Nat.le_of_ble_eq_true rfl) ([(h0, .inr (1, [.int 0, .int 0, .null, .int 0, .int 0, .long 0, .long 0, .ref q7, .ref q15, .ref q23, .ref q31, .long 1, .long 0, .long 0, .int 0, .int 0])), (q7, .inl (gI G, 61, .inl (fun _ => 0))), (q15, .inl (gI G, 61, .inl (fun _ => 0))), (q23, .inl (gI G, 41, .inl (fun _ => 0))), (q31, .inl (gI G, 41, .inl (fun _ => 0)))]) rfl dX1_init_38 (fun H locs hP hD hS => ?_)
  refine lv_aload_n hx hb dX1_init_41 rfl (lv_at hl 0 rfl) ?_
  refine lv_lconst (v := 1) hx hb dX1_init_42 rfl ?_
  refine k_pV (v := .long 1) X hK inX1 rfl tyX1_ok nmX1 hP hD hS (q0 := 0) rfl 12 (by decide) tw_1_98 rfl rfl rfl (Nat.le_of_ble_eq_true rfl) ([(h0, .inr (1, [.int 0, .int 0, .null, .int 0, .int 0, .long 0, .long 0, .ref q7, .ref q15, .ref q23, .ref q31, .long 1, .long 1, .long 0, .int 0, .int 0])), (q7, .inl (gI G, 61, .inl (fun _ => 0))), (q15, .inl (gI G, 61, .inl (fun _ => 0))), (q23, .inl (gI G, 41, .inl (fun _ => 0))), (q31, .inl (gI G, 41, .inl (fun _ => 0)))]) rfl dX1_init_43 (fun H locs hP hD hS => ?_)
  refine lv_aload_n hx hb dX1_init_46 rfl (lv_at hl 0 rfl) ?_
  refine lv_lconst (v := 1) hx hb dX1_init_47 rfl ?_
  refine k_pV (v := .long 1) X hK inX1 rfl tyX1_ok nmX1 hP hD hS (q0 := 0) rfl 13 (by decide) tw_1_100 rfl rfl rfl (Nat.le_of_ble_eq_true rfl) ([(h0, .inr (1, [.int 0, .int 0, .null, .int 0, .int 0, .long 0, .long 0, .ref q7, .ref q15, .ref q23, .ref q31, .long 1, .long 1, .long 1, .int 0, .int 0])), (q7, .inl (gI G, 61, .inl (fun _ => 0))), (q15, .inl (gI G, 61, .inl (fun _ => 0))), (q23, .inl (gI G, 41, .inl (fun _ => 0))), (q31, .inl (gI G, 41, .inl (fun _ => 0)))]) rfl dX1_init_48 (fun H locs hP hD hS => ?_)
  refine lv_aload_n hx hb dX1_init_51 rfl (lv_at hl 0 rfl) ?_
  refine lv_iconst (v := nI 0) hx hb dX1_init_52 (by decide) ?_
  refine k_pV (v := .int (nI 0)) X hK inX1 rfl tyX1_ok nmX1 hP hD hS (q0 := 0) rfl 14 (by decide) tw_1_102 rfl rfl rfl (Nat.le_of_ble_eq_true rfl) ([(h0, .inr (1, [.int 0, .int 0, .null, .int 0, .int 0, .long 0, .long 0, .ref q7, .ref q15, .ref q23, .ref q31, .long 1, .long 1, .long 1, .int (nI 0), .int 0])), (q7, .inl (gI G, 61, .inl (fun _ => 0))), (q15, .inl (gI G, 61, .inl (fun _ => 0))), (q23, .inl (gI G, 41, .inl (fun _ => 0))), (q31, .inl (gI G, 41, .inl (fun _ => 0)))]) rfl dX1_init_53 (fun H locs hP hD hS => ?_)
  refine lv_aload_n hx hb dX1_init_56 rfl (lv_at hl 0 rfl) ?_
  refine lv_iconst (v := nI 0) hx hb dX1_init_57 (by decide) ?_
  refine k_pV (v := .int (nI 0)) X hK inX1 rfl tyX1_ok nmX1 hP hD hS (q0 := 0) rfl 15 (by decide) tw_1_104 rfl rfl rfl (Nat.le_of_ble_eq_true rfl) ([(h0, .inr (1, [.int 0, .int 0, .null, .int 0, .int 0, .long 0, .long 0, .ref q7, .ref q15, .ref q23, .ref q31, .long 1, .long 1, .long 1, .int (nI 0), .int (nI 0)])), (q7, .inl (gI G, 61, .inl (fun _ => 0))), (q15, .inl (gI G, 61, .inl (fun _ => 0))), (q23, .inl (gI G, 41, .inl (fun _ => 0))), (q31, .inl (gI G, 41, .inl (fun _ => 0)))]) rfl dX1_init_58 (fun H locs hP hD hS => ?_)
  refine lv_aload_n hx hb dX1_init_61 rfl (lv_at hl 0 rfl) ?_
  refine lv_iload_n hx hb dX1_init_62 rfl (lv_at hl 1 rfl) ?_
  refine k_pF (v := .int (nI v)) X hK inX1 rfl tyX1_ok nmX1 hP hD hS (q0 := 0) rfl 0 (by decide) tw_1_79 rfl hnm rfl rfl rfl (Nat.le_of_ble_eq_true rfl) ([(h0, .inr (1, [.int (nI v), .int 0, .null, .int 0, .int 0, .long 0, .long 0, .ref q7, .ref q15, .ref q23, .ref q31, .long 1, .long 1, .long 1, .int (nI 0), .int (nI 0)])), (q7, .inl (gI G, 61, .inl (fun _ => 0))), (q15, .inl (gI G, 61, .inl (fun _ => 0))), (q23, .inl (gI G, 41, .inl (fun _ => 0))), (q31, .inl (gI G, 41, .inl (fun _ => 0)))]) rfl dX1_init_63 (fun H locs hP hD hS => ?_)
  refine lv_aload_n hx hb dX1_init_66 rfl (lv_at hl 0 rfl) ?_
  refine lv_iload_n hx hb dX1_init_67 rfl (lv_at hl 2 rfl) ?_
  refine k_pF (v := .int (nI n)) X hK inX1 rfl tyX1_ok nmX1 hP hD hS (q0 := 0) rfl 1 (by decide) tw_1_81 rfl hnm rfl rfl rfl (Nat.le_of_ble_eq_true rfl) ([(h0, .inr (1, [.int (nI v), .int (nI n), .null, .int 0, .int 0, .long 0, .long 0, .ref q7, .ref q15, .ref q23, .ref q31, .long 1, .long 1, .long 1, .int (nI 0), .int (nI 0)])), (q7, .inl (gI G, 61, .inl (fun _ => 0))), (q15, .inl (gI G, 61, .inl (fun _ => 0))), (q23, .inl (gI G, 41, .inl (fun _ => 0))), (q31, .inl (gI G, 41, .inl (fun _ => 0)))]) rfl dX1_init_68 (fun H locs hP hD hS => ?_)
  refine lv_aload_n hx hb dX1_init_71 rfl (lv_at hl 0 rfl) ?_
  refine lv_aload_n hx hb dX1_init_72 rfl (lv_at hl 3 rfl) ?_
  refine k_pF (v := .ref b) X hK inX1 rfl tyX1_ok nmX1 hP hD hS (q0 := 0) rfl 2 (by decide) tw_1_82 rfl hnm rfl rfl rfl (Nat.le_of_ble_eq_true rfl) ([(h0, .inr (1, [.int (nI v), .int (nI n), .ref b, .int 0, .int 0, .long 0, .long 0, .ref q7, .ref q15, .ref q23, .ref q31, .long 1, .long 1, .long 1, .int (nI 0), .int (nI 0)])), (q7, .inl (gI G, 61, .inl (fun _ => 0))), (q15, .inl (gI G, 61, .inl (fun _ => 0))), (q23, .inl (gI G, 41, .inl (fun _ => 0))), (q31, .inl (gI G, 41, .inl (fun _ => 0)))]) rfl dX1_init_73 (fun H locs hP hD hS => ?_)
  refine lv_aload_n hx hb dX1_init_76 rfl (lv_at hl 0 rfl) ?_
  refine k_get (v := .ref q23) X hK inX1 rfl hP (q0 := 0) rfl 9 (by decide) tw_1_93 rfl dX1_init_77 ?_
  refine lv_iconst (v := -1) hx hb dX1_init_80 (by decide) ?_
  refine va_callv (k_runS (As := [.ref q23, .int (-1)]) (rest := []) X hK (hP.sub (ws' := [(q23, .inl (gI G, 41, .inl (fun _ => 0)))]) [3] rfl) (mJ_fill l G q23 41 (by decide) (fun _ => 0) (-1)) ⟨rfl, rfl⟩ tw_1_76 tw_1_77 tw_1_5 tw_1_78 ⟨by decide +kernel, by decide +kernel, (by decide +kernel : (parseMethodDescriptor yJ7_fill_53178.desc).map (fun d => d.parameters.length) = some 2)⟩ ⟨Nat.le_of_ble_eq_true rfl, Nat.le_of_ble_eq_true rfl⟩ hl.1 rfl (Nat.le_of_ble_eq_true rfl) ⟨Nat.le_of_ble_eq_true rfl, Nat.le_of_ble_eq_true rfl⟩ dX1_init_81) hS (fun q _ h => h ▸ hD.2 3 _ rfl) (fun q h => h ▸ hD.2 3 _ rfl) (fun g81 t H1 locs ht hvm hg81 hB hz1 hk1 hS => ?_)
  have hP : va_P (gD G) vwCl ([(h0, .inr (1, [.int (nI v), .int (nI n), .ref b, .int 0, .int 0, .long 0, .long 0, .ref q7, .ref q15, .ref q23, .ref q31, .long 1, .long 1, .long 1, .int (nI 0), .int (nI 0)])), (q7, .inl (gI G, 61, .inl (fun _ => 0))), (q15, .inl (gI G, 61, .inl (fun _ => 0))), (q23, .inl (gI G, 41, .inl (g81))), (q31, .inl (gI G, 41, .inl (fun _ => 0)))]) H1 := P_upd hP hD (q0 := 3) rfl hk1 (by rw [← ht]; exact hB 0 _ rfl)
  have hD : va_D A ([(h0, .inr (1, [.int (nI v), .int (nI n), .ref b, .int 0, .int 0, .long 0, .long 0, .ref q7, .ref q15, .ref q23, .ref q31, .long 1, .long 1, .long 1, .int (nI 0), .int (nI 0)])), (q7, .inl (gI G, 61, .inl (fun _ => 0))), (q15, .inl (gI G, 61, .inl (fun _ => 0))), (q23, .inl (gI G, 41, .inl (g81))), (q31, .inl (gI G, 41, .inl (fun _ => 0)))]) := hD.set (p := 3) rfl
  generalize H1 = H at hP hS ⊢
  refine W.widen (k := 4) (n := 204) (Nat.le_refl _) (Nat.le_refl _) ?_
  refine lv_aload_n hx hb dX1_init_84 rfl (lv_at hl 0 rfl) ?_
  refine k_get (v := .ref q31) X hK inX1 rfl hP (q0 := 0) rfl 10 (by decide) tw_1_94 rfl dX1_init_85 ?_
  refine lv_iconst (v := -1) hx hb dX1_init_88 (by decide) ?_
  refine va_callv (k_runS (As := [.ref q31, .int (-1)]) (rest := []) X hK (hP.sub (ws' := [(q31, .inl (gI G, 41, .inl (fun _ => 0)))]) [4] rfl) (mJ_fill l G q31 41 (by decide) (fun _ => 0) (-1)) ⟨rfl, rfl⟩ tw_1_76 tw_1_77 tw_1_5 tw_1_78 ⟨by decide +kernel, by decide +kernel, (by decide +kernel : (parseMethodDescriptor yJ7_fill_53178.desc).map (fun d => d.parameters.length) = some 2)⟩ ⟨Nat.le_of_ble_eq_true rfl, Nat.le_of_ble_eq_true rfl⟩ hl.1 rfl (Nat.le_of_ble_eq_true rfl) ⟨Nat.le_of_ble_eq_true rfl, Nat.le_of_ble_eq_true rfl⟩ dX1_init_89) hS (fun q _ h => h ▸ hD.2 4 _ rfl) (fun q h => h ▸ hD.2 4 _ rfl) (fun g89 t H1 locs ht hvm hg89 hB hz1 hk1 hS => ?_)
  have hP : va_P (gD G) vwCl ([(h0, .inr (1, [.int (nI v), .int (nI n), .ref b, .int 0, .int 0, .long 0, .long 0, .ref q7, .ref q15, .ref q23, .ref q31, .long 1, .long 1, .long 1, .int (nI 0), .int (nI 0)])), (q7, .inl (gI G, 61, .inl (fun _ => 0))), (q15, .inl (gI G, 61, .inl (fun _ => 0))), (q23, .inl (gI G, 41, .inl (g81))), (q31, .inl (gI G, 41, .inl (g89)))]) H1 := P_upd hP hD (q0 := 4) rfl hk1 (by rw [← ht]; exact hB 0 _ rfl)
  have hD : va_D A ([(h0, .inr (1, [.int (nI v), .int (nI n), .ref b, .int 0, .int 0, .long 0, .long 0, .ref q7, .ref q15, .ref q23, .ref q31, .long 1, .long 1, .long 1, .int (nI 0), .int (nI 0)])), (q7, .inl (gI G, 61, .inl (fun _ => 0))), (q15, .inl (gI G, 61, .inl (fun _ => 0))), (q23, .inl (gI G, 41, .inl (g81))), (q31, .inl (gI G, 41, .inl (g89)))]) := hD.set (p := 4) rfl
  generalize H1 = H at hP hS ⊢
  refine W.widen (k := 4) (n := 204) (Nat.le_refl _) (Nat.le_refl _) ?_
  exact W.vret hx hb hr (fun t ht hW => ⟨⟨(), rfl, trivial, q7, q15, q23, q31, g81, g89, hg81, hg89, by rw [ht]; exact hP, hD⟩, hS.F ht⟩) hS.2.2 dX1_init_92
