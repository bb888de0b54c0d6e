set_option maxHeartbeats 4000000 in
set_option maxRecDepth 100000 in
theorem m3_gain (l : Launch) (G : kG) (r : RS) (hL : layR G) (hk : okR G r) {v l0 : Nat} (hv : v < gn G) (hl0 : l0 < 671) : KMv l G (AR G) (wR G) yX3_gain cX3_gain 4 (Option.none : Option FieldType) ({ frames := 0, cells := 0, slots := 0, locals := 0 }) [.ref (gL G 0), .int (nI v), .int (nI l0)] r (fun u' => u' = (gnM (gn G) r.1 l0 v, gnY r.2 l0 v)) := by
  refine K_of (by decide) (Nat.le_of_ble_eq_true rfl) ?_
  intro p e s m below meth c X hr hlocks hnm hK hP ls hl
  have hx := X.1
  have hb := X.2.1
  have hown := X.2.2.2.1
  have hts := X.2.2.2.2
  have hS : va_S (AR G) s.heap s.heap [] := va_S.rf
  have hl : lv_has ls 4 [(0, .ref (gL G 0)), (1, .int (nI v)), (2, .int (nI l0))] := hl
  obtain ⟨⟨kn4, kn10⟩, ⟨kT1, kT61⟩, kP40, kLd, kPar, kEp, kHt, kVf⟩ := id hk
  have join_59 : ∀ (Y1 : YS) (hY1 : Y1 = gnY r.2 l0 v) (H : Heap) (locs : List Loc) (ls : Array Slot), va_P (gD G) vwCl ((wR G) ((gnB r.1 l0 v, Y1))) H → va_S (AR G) s.heap H locs → lv_has ls 4 [(0, .ref (gL G 0)), (1, .int (nI v)), (2, .int (nI l0))] → W p l e ({ frames := 0, cells := 0, slots := 0, locals := 0 } : Room) s m ([.ref (gL G 0), .int (nI v), .int (nI l0)] : List Value).toArray below meth c H locs 0 0 (MQ below (va_Qv (fun u' => u' = (gnM (gn G) r.1 l0 v, gnY r.2 l0 v)) (KB G (wR G)) (AR G)) ([.ref (gL G 0), .int (nI v), .int (nI l0)] : List Value).toArray s 0 0 (AR G)) (F0 m 59 ls []) := by
    intro Y1 hY1 H locs ls hP hS hl
    refine lv_iconst (v := nI 0) hx hb dX3_gain_59 (by decide) ?_
    refine lv_istore_n (lv' := [(3, .int (nI 0)), (0, .ref (gL G 0)), (1, .int (nI v)), (2, .int (nI l0))]) hx hb dX3_gain_60 rfl hl (by decide) rfl (fun ls hl => ?_)
    have loop_61 : ∀ (d_61 : Nat) (i : Nat) (M1 : MS), gn G - i = d_61 → (i ≤ gn G) → (i = 0 ∨ mFa r.1 v = false) → (M1 = wyA (gnB r.1 l0 v) l0 i) → ∀ (H : Heap) (locs : List Loc) (ls : Array Slot), va_P (gD G) vwCl ((wR G) ((M1, Y1))) H → va_S (AR G) s.heap H locs → lv_has ls 4 [(0, .ref (gL G 0)), (1, .int (nI v)), (2, .int (nI l0)), (3, .int (nI i))] → W p l e ({ frames := 0, cells := 0, slots := 0, locals := 0 } : Room) s m ([.ref (gL G 0), .int (nI v), .int (nI l0)] : List Value).toArray below meth c H locs 0 0 (MQ below (va_Qv (fun u' => u' = (gnM (gn G) r.1 l0 v, gnY r.2 l0 v)) (KB G (wR G)) (AR G)) ([.ref (gL G 0), .int (nI v), .int (nI l0)] : List Value).toArray s 0 0 (AR G)) (F0 m 61 ls []) := by
      intro d_61
      induction d_61 using Nat.strongRecOn with
      | ind d_61 ih_61 =>
        intro i M1 hd_61 hi hfa hM1 H locs ls hP hS hl
        refine lv_iload_n hx hb dX3_gain_61 rfl (lv_at hl 3 rfl) ?_
        refine lv_aload_n hx hb dX3_gain_62 rfl (lv_at hl 0 rfl) ?_
        refine k_get (v := .int (nI (gn G))) X hK inX3 rfl hP (wR_g G ((M1, Y1)) (k := 0) (by decide)) 1 (by decide) tw_2_136 rfl dX3_gain_63 ?_
        refine lv_icmp_ge (tgt := 114) hx hb dX3_gain_66 (by decide) (fun c_66 => ?_) (fun c_66 => ?_)
        · have c_66 : (gn G) ≤ i := cLe c_66 (by omega) (by omega)
          exact k_retv X hr hlocks hP hS dX3_gain_114 (by first | (rw [gnM, if_neg (by rw [hfa.resolve_left (by omega)]; decide), hM1, show i = gn G by omega, hY1]; done) | (rw [gnM, if_pos c_75, hY1, hM1, show i = 0 from hfa.resolve_right (by rw [c_75]; decide), wyA]))
        · have c_66 : i < (gn G) := cNle c_66 (by omega) (by omega)
          refine lv_aload_n hx hb dX3_gain_69 rfl (lv_at hl 0 rfl) ?_
          refine k_get (v := .ref (gL G 1)) X hK inX3 rfl hP (wR_g G ((M1, Y1)) (k := 0) (by decide)) 2 (by decide) tw_2_137 rfl dX3_gain_70 ?_
          refine lv_iload_n hx hb dX3_gain_73 rfl (lv_at hl 1 rfl) ?_
          refine k_zld (k := v) (v := bI (mFa M1 v)) X hK hP (wR_g G ((M1, Y1)) (k := 1) (by decide)) (by omega) (by decide) rfl dX3_gain_74 ?_
          refine lv_if_ne (tgt := 114) hx hb dX3_gain_75 (by decide) (fun c_75 => ?_) (fun c_75 => ?_)
          · have c_75 : (mFa M1 v) = true := (bI_ne0 _).mp c_75
            have c_75 : mFa r.1 v = true := by rw [← stat_Fa (show stat M1 = stat r.1 by rw [hM1, st_wyA]; rfl)]; exact c_75
            exact k_retv X hr hlocks hP hS dX3_gain_114 (by first | (rw [gnM, if_neg (by rw [hfa.resolve_left (by omega)]; decide), hM1, show i = gn G by omega, hY1]; done) | (rw [gnM, if_pos c_75, hY1, hM1, show i = 0 from hfa.resolve_right (by rw [c_75]; decide), wyA]))
          · have c_75 : (mFa M1 v) = false := (bI_eq0 _).mp c_75
            have c_75 : mFa r.1 v = false := by rw [← stat_Fa (show stat M1 = stat r.1 by rw [hM1, st_wyA]; rfl)]; exact c_75
            refine lv_aload_n hx hb dX3_gain_78 rfl (lv_at hl 0 rfl) ?_
            refine k_get (v := .ref (gL G 10)) X hK inX3 rfl hP (wR_g G ((M1, Y1)) (k := 0) (by decide)) 13 (by decide) tw_2_148 rfl dX3_gain_79 ?_
            refine lv_bipush (v := nI 10) hx hb dX3_gain_82 (by decide) ?_
            refine lv_iload_n hx hb dX3_gain_84 rfl (lv_at hl 2 rfl) ?_
            refine lv_imul hx hb dX3_gain_85 ?_
            refine k_ti (pk_mul 10 l0) ?_
            refine lv_iload_n hx hb dX3_gain_86 rfl (lv_at hl 3 rfl) ?_
            refine lv_iadd hx hb dX3_gain_87 ?_
            refine k_ti (nI_add (10 * l0) i) ?_
            refine lv_aload_n hx hb dX3_gain_88 rfl (lv_at hl 0 rfl) ?_
            refine k_get (v := .ref (gL G 9)) X hK inX3 rfl hP (wR_g G ((M1, Y1)) (k := 0) (by decide)) 12 (by decide) tw_2_147 rfl dX3_gain_89 ?_
            refine lv_bipush (v := nI 10) hx hb dX3_gain_92 (by decide) ?_
            refine lv_iload_n hx hb dX3_gain_94 rfl (lv_at hl 2 rfl) ?_
            refine lv_imul hx hb dX3_gain_95 ?_
            refine k_ti (pk_mul 10 l0) ?_
            refine lv_iload_n hx hb dX3_gain_96 rfl (lv_at hl 3 rfl) ?_
            refine lv_iadd hx hb dX3_gain_97 ?_
            refine k_ti (nI_add (10 * l0) i) ?_
            refine k_zld (k := 10 * l0 + i) (v := bI (mHs M1 l0 i)) X hK hP (wR_g G ((M1, Y1)) (k := 9) (by decide)) (by omega) (by decide) (f10_at _ (show i < 10 by omega)) dX3_gain_98 ?_
            refine lv_if_ne (tgt := 106) hx hb dX3_gain_99 (by decide) (fun c_99 => ?_) (fun c_99 => ?_)
            · have c_99 : (mHs M1 l0 i) = true := (bI_ne0 _).mp c_99
              refine lv_iconst (v := nI 0) hx hb dX3_gain_106 (by decide) ?_
              refine k_ti (show nI 0 = bI false from rfl) ?_
              refine k_zst (k := 10 * l0 + i) (x := bI false) X hK hP (wR_D hL _) hS (wR_g G ((M1, Y1)) (k := 10) (by decide)) (by omega) (by decide) (bI_vnar _) ((sWy M1 (up2 (mWy M1) l0 i false), Y1)) (rs_Wy G ((M1, Y1)) (l := l0) (v := i) (by omega) false) dX3_gain_107 (fun H locs hP hS => ?_)
              refine lv_iinc (v := nI (i + 1)) (lv' := [(3, .int (nI (i + 1))), (0, .ref (gL G 0)), (1, .int (nI v)), (2, .int (nI l0))]) hx hb dX3_gain_108 hl (k := 3) rfl (nI_add i 1) (by decide) rfl (fun ls hl => ?_)
              refine lv_goto (tgt := 61) hx hb dX3_gain_111 (by decide) ?_
              exact ih_61 (gn G - (i + 1)) (by omega) (i + 1) ((sWy M1 (up2 (mWy M1) l0 i false))) rfl (by omega) (Or.inr c_75) (by rw [wyA, ← hM1, show mHs (gnB r.1 l0 v) l0 i = mHs M1 l0 i by rw [hM1, wyA_hs], c_99]; rfl) _ _ _ hP hS (lv_sub hl [1, 2, 3, 0] rfl)
            · have c_99 : (mHs M1 l0 i) = false := (bI_eq0 _).mp c_99
              refine lv_iconst (v := nI 1) hx hb dX3_gain_102 (by decide) ?_
              refine lv_goto (tgt := 107) hx hb dX3_gain_103 (by decide) ?_
              refine k_ti (show nI 1 = bI true from rfl) ?_
              refine k_zst (k := 10 * l0 + i) (x := bI true) X hK hP (wR_D hL _) hS (wR_g G ((M1, Y1)) (k := 10) (by decide)) (by omega) (by decide) (bI_vnar _) ((sWy M1 (up2 (mWy M1) l0 i true), Y1)) (rs_Wy G ((M1, Y1)) (l := l0) (v := i) (by omega) true) dX3_gain_107 (fun H locs hP hS => ?_)
              refine lv_iinc (v := nI (i + 1)) (lv' := [(3, .int (nI (i + 1))), (0, .ref (gL G 0)), (1, .int (nI v)), (2, .int (nI l0))]) hx hb dX3_gain_108 hl (k := 3) rfl (nI_add i 1) (by decide) rfl (fun ls hl => ?_)
              refine lv_goto (tgt := 61) hx hb dX3_gain_111 (by decide) ?_
              exact ih_61 (gn G - (i + 1)) (by omega) (i + 1) ((sWy M1 (up2 (mWy M1) l0 i true))) rfl (by omega) (Or.inr c_75) (by rw [wyA, ← hM1, show mHs (gnB r.1 l0 v) l0 i = mHs M1 l0 i by rw [hM1, wyA_hs], c_99]; rfl) _ _ _ hP hS (lv_sub hl [1, 2, 3, 0] rfl)
    exact loop_61 _ 0 (gnB r.1 l0 v) rfl (Nat.zero_le _) (Or.inl rfl) (rfl) _ _ _ hP hS (lv_sub hl [1, 2, 3, 0] rfl)
  refine lv_aload_n hx hb dX3_gain_0 rfl (lv_at hl 0 rfl) ?_
  refine k_get (v := .ref (gL G 9)) X hK inX3 rfl hP (wR_g G r (k := 0) (by decide)) 12 (by decide) tw_2_147 rfl dX3_gain_1 ?_
  refine lv_bipush (v := nI 10) hx hb dX3_gain_4 (by decide) ?_
  refine lv_iload_n hx hb dX3_gain_6 rfl (lv_at hl 2 rfl) ?_
  refine lv_imul hx hb dX3_gain_7 ?_
  refine k_ti (pk_mul 10 l0) ?_
  refine lv_iload_n hx hb dX3_gain_8 rfl (lv_at hl 1 rfl) ?_
  refine lv_iadd hx hb dX3_gain_9 ?_
  refine k_ti (nI_add (10 * l0) v) ?_
  refine lv_iconst (v := nI 1) hx hb dX3_gain_10 (by decide) ?_
  refine k_ti (show nI 1 = bI true from rfl) ?_
  refine k_zst (k := 10 * l0 + v) (x := bI true) X hK hP (wR_D hL _) hS (wR_g G r (k := 9) (by decide)) (by omega) (by decide) (bI_vnar _) ((sHs r.1 (up2 (mHs r.1) l0 v true), r.2)) (rs_Hs G r (l := l0) (v := v) (by omega) true) dX3_gain_11 (fun H locs hP hS => ?_)
  refine lv_aload_n hx hb dX3_gain_12 rfl (lv_at hl 0 rfl) ?_
  refine k_get (v := .ref (gL G 10)) X hK inX3 rfl hP (wR_g G ((sHs r.1 (up2 (mHs r.1) l0 v true), r.2)) (k := 0) (by decide)) 13 (by decide) tw_2_148 rfl dX3_gain_13 ?_
  refine lv_bipush (v := nI 10) hx hb dX3_gain_16 (by decide) ?_
  refine lv_iload_n hx hb dX3_gain_18 rfl (lv_at hl 2 rfl) ?_
  refine lv_imul hx hb dX3_gain_19 ?_
  refine k_ti (pk_mul 10 l0) ?_
  refine lv_iload_n hx hb dX3_gain_20 rfl (lv_at hl 1 rfl) ?_
  refine lv_iadd hx hb dX3_gain_21 ?_
  refine k_ti (nI_add (10 * l0) v) ?_
  refine lv_iconst (v := nI 0) hx hb dX3_gain_22 (by decide) ?_
  refine k_ti (show nI 0 = bI false from rfl) ?_
  refine k_zst (k := 10 * l0 + v) (x := bI false) X hK hP (wR_D hL _) hS (wR_g G ((sHs r.1 (up2 (mHs r.1) l0 v true), r.2)) (k := 10) (by decide)) (by omega) (by decide) (bI_vnar _) ((sWy (sHs r.1 (up2 (mHs r.1) l0 v true)) (up2 (mWy r.1) l0 v false), r.2)) (rs_Wy G ((sHs r.1 (up2 (mHs r.1) l0 v true), r.2)) (l := l0) (v := v) (by omega) false) dX3_gain_23 (fun H locs hP hS => ?_)
  refine lv_iload_n hx hb dX3_gain_24 rfl (lv_at hl 2 rfl) ?_
  refine lv_bipush (v := nI 11) hx hb dX3_gain_25 (by decide) ?_
  refine lv_irem hx hb dX3_gain_27 (by decide) ?_
  refine k_ti (pk_rem (by omega) (by decide) (by decide)) ?_
  refine lv_if_ne (tgt := 59) hx hb dX3_gain_28 (by decide) (fun c_28 => ?_) (fun c_28 => ?_)
  · have c_28 : (l0 % 11) ≠ 0 := czNe c_28 (by omega) (by omega)
    exact join_59 r.2 (by rw [gnY, if_neg c_28]) _ _ _ hP hS (lv_sub hl [0, 1, 2] rfl)
  · have c_28 : (l0 % 11) = 0 := czEq c_28 (by omega) (by omega)
    refine lv_aload_n hx hb dX3_gain_31 rfl (lv_at hl 0 rfl) ?_
    refine lv_dup hx hb dX3_gain_32 rfl ?_
    refine k_get (v := .int (nI (yCm r.2))) X hK inX3 rfl hP (wR_g G ((sWy (sHs r.1 (up2 (mHs r.1) l0 v true)) (up2 (mWy r.1) l0 v false), r.2)) (k := 0) (by decide)) 15 (by decide) tw_2_150 rfl dX3_gain_33 ?_
    refine lv_iconst (v := nI 1) hx hb dX3_gain_36 (by decide) ?_
    refine lv_iadd hx hb dX3_gain_37 ?_
    refine k_ti (nI_add (yCm r.2) 1) ?_
    refine k_put (v := .int (nI ((yCm r.2) + 1))) X hK inX3 rfl tyX3_ok nmX3 hP (wR_D hL _) hS (wR_g G ((sWy (sHs r.1 (up2 (mHs r.1) l0 v true)) (up2 (mWy r.1) l0 v false), r.2)) (k := 0) (by decide)) 15 (by decide) tw_2_150 rfl rfl rfl (Nat.le_of_ble_eq_true rfl) (((sWy (sHs r.1 (up2 (mHs r.1) l0 v true)) (up2 (mWy r.1) l0 v false)), wCm r.2 ((yCm r.2) + 1))) (rs_Cm G ((sWy (sHs r.1 (up2 (mHs r.1) l0 v true)) (up2 (mWy r.1) l0 v false), r.2)) ((yCm r.2) + 1)) dX3_gain_38 (fun H locs hP hS => ?_)
    refine lv_aload_n hx hb dX3_gain_41 rfl (lv_at hl 0 rfl) ?_
    refine k_get (v := .ref (gL G 11)) X hK inX3 rfl hP (wR_g G (((sWy (sHs r.1 (up2 (mHs r.1) l0 v true)) (up2 (mWy r.1) l0 v false)), wCm r.2 ((yCm r.2) + 1))) (k := 0) (by decide)) 14 (by decide) tw_2_149 rfl dX3_gain_42 ?_
    refine lv_bipush (v := nI 10) hx hb dX3_gain_45 (by decide) ?_
    refine lv_iload_n hx hb dX3_gain_47 rfl (lv_at hl 2 rfl) ?_
    refine lv_bipush (v := nI 11) hx hb dX3_gain_48 (by decide) ?_
    refine lv_idiv hx hb dX3_gain_50 (by decide) ?_
    refine k_ti (pk_div (by omega) (by decide) (by decide)) ?_
    refine lv_imul hx hb dX3_gain_51 ?_
    refine k_ti (pk_mul 10 (l0 / 11)) ?_
    refine lv_iload_n hx hb dX3_gain_52 rfl (lv_at hl 1 rfl) ?_
    refine lv_iadd hx hb dX3_gain_53 ?_
    refine k_ti (nI_add (10 * (l0 / 11)) v) ?_
    refine lv_aload_n hx hb dX3_gain_54 rfl (lv_at hl 0 rfl) ?_
    refine k_get (v := .int (nI ((yCm r.2) + 1))) X hK inX3 rfl hP (wR_g G (((sWy (sHs r.1 (up2 (mHs r.1) l0 v true)) (up2 (mWy r.1) l0 v false)), wCm r.2 ((yCm r.2) + 1))) (k := 0) (by decide)) 15 (by decide) tw_2_150 rfl dX3_gain_55 ?_
    refine k_ist (k := 10 * (l0 / 11) + v) (x := nI ((yCm r.2) + 1)) X hK hP (wR_D hL _) hS (wR_g G (((sWy (sHs r.1 (up2 (mHs r.1) l0 v true)) (up2 (mWy r.1) l0 v false)), wCm r.2 ((yCm r.2) + 1))) (k := 11) (by decide)) (by omega) (by decide) ((((sWy (sHs r.1 (up2 (mHs r.1) l0 v true)) (up2 (mWy r.1) l0 v false))), wCa (wCm r.2 ((yCm r.2) + 1)) (up2 (yCa r.2) (l0 / 11) v ((yCm r.2) + 1)))) (rs_Ca G (((sWy (sHs r.1 (up2 (mHs r.1) l0 v true)) (up2 (mWy r.1) l0 v false)), wCm r.2 ((yCm r.2) + 1))) (b := (l0 / 11)) (v := v) (by omega) ((yCm r.2) + 1)) dX3_gain_58 (fun H locs hP hS => ?_)
    exact join_59 ((wCa (wCm r.2 ((yCm r.2) + 1)) (up2 (yCa r.2) (l0 / 11) v ((yCm r.2) + 1)))) (by rw [gnY, if_pos c_28]) _ _ _ hP hS (lv_sub hl [0, 1, 2] rfl)

set_option maxHeartbeats 4000000 in
set_option maxRecDepth 100000 in
theorem m3_send (l : Launch) (G : kG) (r : RS) (hL : layR G) (hk : okR G r) {l0 : Nat} (hl0 : l0 < 671) (to : Int32) : KMi l G (AR G) (wR G) yX3_send cX3_send 5 (Option.some FieldType.int) ({ frames := 0, cells := 0, slots := 0, locals := 0 }) [.ref (gL G 0), .int (nI l0), .int (to)] r (fun z u' => z = nI (sndC r.1 l0 to (gn G)) ∧ u' = (sndM r.1 l0 to (gn G), r.2)) := by
  refine K_of (by decide) (Nat.le_of_ble_eq_true rfl) ?_
  intro p e s m below meth c X hr hlocks hnm hK hP ls hl
  have hx := X.1
  have hb := X.2.1
  have hown := X.2.2.2.1
  have hts := X.2.2.2.2
  have hS : va_S (AR G) s.heap s.heap [] := va_S.rf
  have hl : lv_has ls 5 [(0, .ref (gL G 0)), (1, .int (nI l0)), (2, .int (to))] := hl
  obtain ⟨⟨kn4, kn10⟩, ⟨kT1, kT61⟩, kP40, kLd, kPar, kEp, kHt, kVf⟩ := id hk
  refine lv_iconst (v := nI 0) hx hb dX3_send_0 (by decide) ?_
  refine lv_istore_n (lv' := [(3, .int (nI 0)), (0, .ref (gL G 0)), (1, .int (nI l0)), (2, .int (to))]) hx hb dX3_send_1 rfl hl (by decide) rfl (fun ls hl => ?_)
  refine lv_iconst (v := nI 0) hx hb dX3_send_2 (by decide) ?_
  refine lv_istore (lv' := [(4, .int (nI 0)), (3, .int (nI 0)), (0, .ref (gL G 0)), (1, .int (nI l0)), (2, .int (to))]) hx hb dX3_send_3 hl (by decide) rfl (fun ls hl => ?_)
  have loop_5 : ∀ (d_5 : Nat) (i : Nat) (M1 : MS) (k3 : Nat), gn G - i = d_5 → (i ≤ gn G) → (M1 = sndM r.1 l0 to i) → (k3 = sndC r.1 l0 to i) → ∀ (H : Heap) (locs : List Loc) (ls : Array Slot), va_P (gD G) vwCl ((wR G) ((M1, r.2))) H → va_S (AR G) s.heap H locs → lv_has ls 5 [(0, .ref (gL G 0)), (1, .int (nI l0)), (2, .int (to)), (3, .int (nI k3)), (4, .int (nI i))] → W p l e ({ frames := 0, cells := 0, slots := 0, locals := 0 } : Room) s m ([.ref (gL G 0), .int (nI l0), .int (to)] : List Value).toArray below meth c H locs 0 0 (MQ below (va_Qi (fun z u' => z = nI (sndC r.1 l0 to (gn G)) ∧ u' = (sndM r.1 l0 to (gn G), r.2)) (KB G (wR G)) (AR G)) ([.ref (gL G 0), .int (nI l0), .int (to)] : List Value).toArray s 0 0 (AR G)) (F0 m 5 ls []) := by
    intro d_5
    induction d_5 using Nat.strongRecOn with
    | ind d_5 ih_5 =>
      intro i M1 k3 hd_5 hi hM hc H locs ls hP hS hl
      refine lv_iload hx hb dX3_send_5 (lv_at hl 4 rfl) ?_
      refine lv_aload_n hx hb dX3_send_7 rfl (lv_at hl 0 rfl) ?_
      refine k_get (v := .int (nI (gn G))) X hK inX3 rfl hP (wR_g G ((M1, r.2)) (k := 0) (by decide)) 1 (by decide) tw_2_136 rfl dX3_send_8 ?_
      refine lv_icmp_ge (tgt := 76) hx hb dX3_send_11 (by decide) (fun c_11 => ?_) (fun c_11 => ?_)
      · have c_11 : (gn G) ≤ i := cLe c_11 (by omega) (by omega)
        refine lv_iload_n hx hb dX3_send_76 rfl (lv_at hl 3 rfl) ?_
        exact k_reti X hr hlocks hP hS dX3_send_77 ⟨by rw [hc, show i = gn G by omega], by rw [hM, show i = gn G by omega]⟩
      · have c_11 : i < (gn G) := cNle c_11 (by omega) (by omega)
        refine lv_iload_n hx hb dX3_send_14 rfl (lv_at hl 2 rfl) ?_
        refine lv_iload hx hb dX3_send_15 (lv_at hl 4 rfl) ?_
        refine lv_ishr hx hb dX3_send_17 ?_
        refine lv_iconst (v := nI 1) hx hb dX3_send_18 (by decide) ?_
        refine lv_iand hx hb dX3_send_19 ?_
        refine k_ti (to_bit to (by omega)) ?_
        refine lv_iconst (v := nI 1) hx hb dX3_send_20 (by decide) ?_
        refine lv_icmp_ne (tgt := 70) hx hb dX3_send_21 (by decide) (fun c_21 => ?_) (fun c_21 => ?_)
        · have c_21 : tI to i = false := by
            cases h : tI to i
            · rfl
            · exact absurd (by rw [h]; rfl) c_21
          refine lv_iinc (v := nI (i + 1)) (lv' := [(4, .int (nI (i + 1))), (0, .ref (gL G 0)), (1, .int (nI l0)), (2, .int (to)), (3, .int (nI k3))]) hx hb dX3_send_70 hl (k := 4) rfl (nI_add i 1) (by decide) rfl (fun ls hl => ?_)
          refine lv_goto (tgt := 5) hx hb dX3_send_73 (by decide) ?_
          exact ih_5 (gn G - (i + 1)) (by omega) (i + 1) M1 k3 rfl (by omega) (by first | (rw [sndM, ← hM, if_neg (by rw [c_21]; decide)]; done) | (rw [sndM, ← hM, if_pos c_21, mExp, if_neg (by rw [show newL M1 l0 i = false by first | (simp only [newL, c_36]; rfl) | (simp only [newL, c_51, Bool.or_true]; rfl)]; decide)])) (by first | (rw [sndC, ← hM, ← hc, c_21]; rfl) | (rw [sndC, ← hM, ← hc, c_21, show newL M1 l0 i = false by first | (simp only [newL, c_36]; rfl) | (simp only [newL, c_51, Bool.or_true]; rfl)]; rfl)) _ _ _ hP hS (lv_sub hl [1, 2, 3, 4, 0] rfl)
        · have c_21 : tI to i = true := by
            cases h : tI to i
            · rw [h] at c_21; exact absurd c_21 (by decide)
            · rfl
          refine lv_aload_n hx hb dX3_send_24 rfl (lv_at hl 0 rfl) ?_
          refine k_get (v := .ref (gL G 9)) X hK inX3 rfl hP (wR_g G ((M1, r.2)) (k := 0) (by decide)) 12 (by decide) tw_2_147 rfl dX3_send_25 ?_
          refine lv_bipush (v := nI 10) hx hb dX3_send_28 (by decide) ?_
          refine lv_iload_n hx hb dX3_send_30 rfl (lv_at hl 1 rfl) ?_
          refine lv_imul hx hb dX3_send_31 ?_
          refine k_ti (pk_mul 10 l0) ?_
          refine lv_iload hx hb dX3_send_32 (lv_at hl 4 rfl) ?_
          refine lv_iadd hx hb dX3_send_34 ?_
          refine k_ti (nI_add (10 * l0) i) ?_
          refine k_zld (k := 10 * l0 + i) (v := bI (mHs M1 l0 i)) X hK hP (wR_g G ((M1, r.2)) (k := 9) (by decide)) (by omega) (by decide) (f10_at _ (show i < 10 by omega)) dX3_send_35 ?_
          refine lv_if_ne (tgt := 70) hx hb dX3_send_36 (by decide) (fun c_36 => ?_) (fun c_36 => ?_)
          · have c_36 : (mHs M1 l0 i) = true := (bI_ne0 _).mp c_36
            refine lv_iinc (v := nI (i + 1)) (lv' := [(4, .int (nI (i + 1))), (0, .ref (gL G 0)), (1, .int (nI l0)), (2, .int (to)), (3, .int (nI k3))]) hx hb dX3_send_70 hl (k := 4) rfl (nI_add i 1) (by decide) rfl (fun ls hl => ?_)
            refine lv_goto (tgt := 5) hx hb dX3_send_73 (by decide) ?_
            exact ih_5 (gn G - (i + 1)) (by omega) (i + 1) M1 k3 rfl (by omega) (by first | (rw [sndM, ← hM, if_neg (by rw [c_21]; decide)]; done) | (rw [sndM, ← hM, if_pos c_21, mExp, if_neg (by rw [show newL M1 l0 i = false by first | (simp only [newL, c_36]; rfl) | (simp only [newL, c_51, Bool.or_true]; rfl)]; decide)])) (by first | (rw [sndC, ← hM, ← hc, c_21]; rfl) | (rw [sndC, ← hM, ← hc, c_21, show newL M1 l0 i = false by first | (simp only [newL, c_36]; rfl) | (simp only [newL, c_51, Bool.or_true]; rfl)]; rfl)) _ _ _ hP hS (lv_sub hl [1, 2, 3, 4, 0] rfl)
          · have c_36 : (mHs M1 l0 i) = false := (bI_eq0 _).mp c_36
            refine lv_aload_n hx hb dX3_send_39 rfl (lv_at hl 0 rfl) ?_
            refine k_get (v := .ref (gL G 10)) X hK inX3 rfl hP (wR_g G ((M1, r.2)) (k := 0) (by decide)) 13 (by decide) tw_2_148 rfl dX3_send_40 ?_
            refine lv_bipush (v := nI 10) hx hb dX3_send_43 (by decide) ?_
            refine lv_iload_n hx hb dX3_send_45 rfl (lv_at hl 1 rfl) ?_
            refine lv_imul hx hb dX3_send_46 ?_
            refine k_ti (pk_mul 10 l0) ?_
            refine lv_iload hx hb dX3_send_47 (lv_at hl 4 rfl) ?_
            refine lv_iadd hx hb dX3_send_49 ?_
            refine k_ti (nI_add (10 * l0) i) ?_
            refine k_zld (k := 10 * l0 + i) (v := bI (mWy M1 l0 i)) X hK hP (wR_g G ((M1, r.2)) (k := 10) (by decide)) (by omega) (by decide) (f10_at _ (show i < 10 by omega)) dX3_send_50 ?_
            refine lv_if_ne (tgt := 70) hx hb dX3_send_51 (by decide) (fun c_51 => ?_) (fun c_51 => ?_)
            · have c_51 : (mWy M1 l0 i) = true := (bI_ne0 _).mp c_51
              refine lv_iinc (v := nI (i + 1)) (lv' := [(4, .int (nI (i + 1))), (0, .ref (gL G 0)), (1, .int (nI l0)), (2, .int (to)), (3, .int (nI k3))]) hx hb dX3_send_70 hl (k := 4) rfl (nI_add i 1) (by decide) rfl (fun ls hl => ?_)
              refine lv_goto (tgt := 5) hx hb dX3_send_73 (by decide) ?_
              exact ih_5 (gn G - (i + 1)) (by omega) (i + 1) M1 k3 rfl (by omega) (by first | (rw [sndM, ← hM, if_neg (by rw [c_21]; decide)]; done) | (rw [sndM, ← hM, if_pos c_21, mExp, if_neg (by rw [show newL M1 l0 i = false by first | (simp only [newL, c_36]; rfl) | (simp only [newL, c_51, Bool.or_true]; rfl)]; decide)])) (by first | (rw [sndC, ← hM, ← hc, c_21]; rfl) | (rw [sndC, ← hM, ← hc, c_21, show newL M1 l0 i = false by first | (simp only [newL, c_36]; rfl) | (simp only [newL, c_51, Bool.or_true]; rfl)]; rfl)) _ _ _ hP hS (lv_sub hl [1, 2, 3, 4, 0] rfl)
            · have c_51 : (mWy M1 l0 i) = false := (bI_eq0 _).mp c_51
              refine lv_aload_n hx hb dX3_send_54 rfl (lv_at hl 0 rfl) ?_
              refine k_get (v := .ref (gL G 10)) X hK inX3 rfl hP (wR_g G ((M1, r.2)) (k := 0) (by decide)) 13 (by decide) tw_2_148 rfl dX3_send_55 ?_
              refine lv_bipush (v := nI 10) hx hb dX3_send_58 (by decide) ?_
              refine lv_iload_n hx hb dX3_send_60 rfl (lv_at hl 1 rfl) ?_
              refine lv_imul hx hb dX3_send_61 ?_
              refine k_ti (pk_mul 10 l0) ?_
              refine lv_iload hx hb dX3_send_62 (lv_at hl 4 rfl) ?_
              refine lv_iadd hx hb dX3_send_64 ?_
              refine k_ti (nI_add (10 * l0) i) ?_
              refine lv_iconst (v := nI 1) hx hb dX3_send_65 (by decide) ?_
              refine k_ti (show nI 1 = bI true from rfl) ?_
              refine k_zst (k := 10 * l0 + i) (x := bI true) X hK hP (wR_D hL _) hS (wR_g G ((M1, r.2)) (k := 10) (by decide)) (by omega) (by decide) (bI_vnar _) ((sWy M1 (up2 (mWy M1) l0 i true), r.2)) (rs_Wy G ((M1, r.2)) (l := l0) (v := i) (by omega) true) dX3_send_66 (fun H locs hP hS => ?_)
              refine lv_iinc (v := nI (k3 + 1)) (lv' := [(3, .int (nI (k3 + 1))), (0, .ref (gL G 0)), (1, .int (nI l0)), (2, .int (to)), (4, .int (nI i))]) hx hb dX3_send_67 hl (k := 3) rfl (nI_add k3 1) (by decide) rfl (fun ls hl => ?_)
              refine lv_iinc (v := nI (i + 1)) (lv' := [(4, .int (nI (i + 1))), (3, .int (nI (k3 + 1))), (0, .ref (gL G 0)), (1, .int (nI l0)), (2, .int (to))]) hx hb dX3_send_70 hl (k := 4) rfl (nI_add i 1) (by decide) rfl (fun ls hl => ?_)
              refine lv_goto (tgt := 5) hx hb dX3_send_73 (by decide) ?_
              exact ih_5 (gn G - (i + 1)) (by omega) (i + 1) ((sWy M1 (up2 (mWy M1) l0 i true))) (k3 + 1) rfl (by omega) (by rw [sndM, ← hM, if_pos c_21, mExp, if_pos (show newL M1 l0 i = true by simp only [newL, c_36, c_51]; rfl)]) (by rw [sndC, ← hM, ← hc, c_21, show newL M1 l0 i = true by simp only [newL, c_36, c_51]; rfl]; rfl) _ _ _ hP hS (lv_sub hl [2, 3, 4, 1, 0] rfl)
  exact loop_5 _ 0 r.1 0 rfl (Nat.zero_le _) (rfl) (rfl) _ _ _ hP hS (lv_sub hl [2, 3, 4, 1, 0] rfl)

set_option maxHeartbeats 4000000 in
set_option maxRecDepth 100000 in
theorem m3_isInChain (l : Launch) (G : kG) (r : RS) (hL : layR G) (hk : okR G r) {b of0 : Nat} (hbT : b < mT r.1) (hof : of0 < mT r.1) (ch : Nat → Nat → Bool) (hch : ∀ b c, b < mT r.1 → ch b c = (decide (c = b) || (decide (b ≠ 0) && ch (mPar r.1 b) c))) : KMi l G (AR G) (wR G) yX3_isInChain cX3_isInChain 4 (Option.some FieldType.boolean) ({ frames := 0, cells := 0, slots := 0, locals := 0 }) [.ref (gL G 0), .int (nI b), .int (nI of0)] r (fun z u' => z = bI (ch of0 b) ∧ u' = r) := by
  refine K_of (by decide) (Nat.le_of_ble_eq_true rfl) ?_
  intro p e s m below meth c X hr hlocks hnm hK hP ls hl
  have hx := X.1
  have hb := X.2.1
  have hown := X.2.2.2.1
  have hts := X.2.2.2.2
  have hS : va_S (AR G) s.heap s.heap [] := va_S.rf
  have hl : lv_has ls 4 [(0, .ref (gL G 0)), (1, .int (nI b)), (2, .int (nI of0))] := hl
  obtain ⟨⟨kn4, kn10⟩, ⟨kT1, kT61⟩, kP40, kLd, kPar, kEp, kHt, kVf⟩ := id hk
  refine lv_iload_n hx hb dX3_isInChain_0 rfl (lv_at hl 2 rfl) ?_
  refine lv_istore_n (lv' := [(3, .int (nI of0)), (0, .ref (gL G 0)), (1, .int (nI b)), (2, .int (nI of0))]) hx hb dX3_isInChain_1 rfl hl (by decide) rfl (fun ls hl => ?_)
  have loop_2 : ∀ (d_2 : Nat) (k : Nat), k = d_2 → (k < mT r.1) → (ch of0 b = ch k b) → ∀ (H : Heap) (locs : List Loc) (ls : Array Slot), va_P (gD G) vwCl ((wR G) r) H → va_S (AR G) s.heap H locs → lv_has ls 4 [(0, .ref (gL G 0)), (1, .int (nI b)), (2, .int (nI of0)), (3, .int (nI k))] → W p l e ({ frames := 0, cells := 0, slots := 0, locals := 0 } : Room) s m ([.ref (gL G 0), .int (nI b), .int (nI of0)] : List Value).toArray below meth c H locs 0 0 (MQ below (va_Qi (fun z u' => z = bI (ch of0 b) ∧ u' = r) (KB G (wR G)) (AR G)) ([.ref (gL G 0), .int (nI b), .int (nI of0)] : List Value).toArray s 0 0 (AR G)) (F0 m 2 ls []) := by
    intro d_2
    induction d_2 using Nat.strongRecOn with
    | ind d_2 ih_2 =>
      intro k hd_2 hkT hke H locs ls hP hS hl
      refine lv_iload_n hx hb dX3_isInChain_2 rfl (lv_at hl 3 rfl) ?_
      refine lv_iconst (v := -1) hx hb dX3_isInChain_3 (by decide) ?_
      refine lv_icmp_eq (tgt := 22) hx hb dX3_isInChain_4 (by decide) (fun c_4 => ?_) (fun c_4 => ?_)
      · exact absurd c_4 (m1_ne (by omega))
      · refine lv_iload_n hx hb dX3_isInChain_7 rfl (lv_at hl 3 rfl) ?_
        refine lv_iload_n hx hb dX3_isInChain_8 rfl (lv_at hl 1 rfl) ?_
        refine lv_icmp_eq (tgt := 22) hx hb dX3_isInChain_9 (by decide) (fun c_9 => ?_) (fun c_9 => ?_)
        · have c_9 : k = b := cEq c_9 (by omega) (by omega)
          refine lv_iload_n hx hb dX3_isInChain_22 rfl (lv_at hl 3 rfl) ?_
          refine lv_iload_n hx hb dX3_isInChain_23 rfl (lv_at hl 1 rfl) ?_
          refine lv_icmp_ne (tgt := 31) hx hb dX3_isInChain_24 (by decide) (fun c_24 => ?_) (fun c_24 => ?_)
          · have c_24 : k ≠ b := cNe c_24 (by omega) (by omega)
            exact absurd c_9 c_24
          · have c_24 : k = b := cEq c_24 (by omega) (by omega)
            refine lv_iconst (v := nI 1) hx hb dX3_isInChain_27 (by decide) ?_
            refine lv_goto (tgt := 32) hx hb dX3_isInChain_28 (by decide) ?_
            exact k_retz X hr hlocks hP hS dX3_isInChain_32 rfl ⟨by rw [hke, hch k b hkT, decide_eq_true (show b = k from c_24.symm)]; rfl, rfl⟩
        · have c_9 : k ≠ b := cNe c_9 (by omega) (by omega)
          refine lv_aload_n hx hb dX3_isInChain_12 rfl (lv_at hl 0 rfl) ?_
          refine k_get (v := .ref (gL G 4)) X hK inX3 rfl hP (wR_g G r (k := 0) (by decide)) 7 (by decide) tw_2_142 rfl dX3_isInChain_13 ?_
          refine lv_iload_n hx hb dX3_isInChain_16 rfl (lv_at hl 3 rfl) ?_
          refine k_ild (k := k) (v := eP (mPar r.1) k) X hK hP (wR_g G r (k := 4) (by decide)) (by omega) (by decide) rfl dX3_isInChain_17 ?_
          rcases Nat.eq_zero_or_pos k with hk0 | hk0
          · refine k_ti (show eP (mPar r.1) k = -1 by rw [hk0]; rfl) ?_
            refine lv_istore_n (lv' := [(3, .int (-1)), (0, .ref (gL G 0)), (1, .int (nI b)), (2, .int (nI of0))]) hx hb dX3_isInChain_18 rfl hl (by decide) rfl (fun ls hl => ?_)
            refine lv_goto (tgt := 2) hx hb dX3_isInChain_19 (by decide) ?_
            refine lv_iload_n hx hb dX3_isInChain_2 rfl (lv_at hl 0 rfl) ?_
            refine lv_iconst (v := -1) hx hb dX3_isInChain_3 (by decide) ?_
            refine lv_icmp_eq (tgt := 22) hx hb dX3_isInChain_4 (by decide) (fun c_4 => ?_) (fun c_4 => ?_)
            · refine lv_iload_n hx hb dX3_isInChain_22 rfl (lv_at hl 0 rfl) ?_
              refine lv_iload_n hx hb dX3_isInChain_23 rfl (lv_at hl 2 rfl) ?_
              refine lv_icmp_ne (tgt := 31) hx hb dX3_isInChain_24 (by decide) (fun c_24 => ?_) (fun c_24 => ?_)
              · refine lv_iconst (v := nI 0) hx hb dX3_isInChain_31 (by decide) ?_
                exact k_retz X hr hlocks hP hS dX3_isInChain_32 rfl ⟨by rw [hke, hch k b hkT, decide_eq_false (Ne.symm c_9), hk0]; rfl, rfl⟩
              · exact absurd c_24.symm (m1_ne (by omega))
            · exact absurd rfl c_4
          · refine k_ti (eP_pos hk0) ?_
            have hpk := kPar k hk0
            refine lv_istore_n (lv' := [(3, .int (nI (mPar r.1 k))), (0, .ref (gL G 0)), (1, .int (nI b)), (2, .int (nI of0))]) hx hb dX3_isInChain_18 rfl hl (by decide) rfl (fun ls hl => ?_)
            refine lv_goto (tgt := 2) hx hb dX3_isInChain_19 (by decide) ?_
            exact ih_2 ((mPar r.1 k)) (by omega) (mPar r.1 k) rfl (by omega) (by rw [hke, hch k b hkT, decide_eq_false (Ne.symm c_9), decide_eq_true (Nat.ne_of_gt hk0)]; rfl) _ _ _ hP hS (lv_sub hl [1, 2, 3, 0] rfl)
  exact loop_2 _ of0 rfl (hof) (rfl) _ _ _ hP hS (lv_sub hl [1, 2, 3, 0] rfl)
