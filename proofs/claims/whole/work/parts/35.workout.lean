theorem nVo_n {n : Nat} {M : MS} {v : Nat} (hn : n ≤ 10) (hrn : ∀ b x, n ≤ x → x < 10 → mHs M (11 * b + 1 + x) v = false) (b : Nat) : cnt (fun x => mHs M (11 * b + 1 + x) v) n = nVo M b v := by
  unfold nVo
  have h := cnt_ext (f := fun x => mHs M (11 * b + 1 + x) v) (a := n) (10 - n) (fun j h1 h2 => hrn b j h1 (by omega))
  rw [show n + (10 - n) = 10 by omega] at h
  exact h.symm
theorem wo3_0 {n : Nat} {M : MS} {ch : Nat → Nat → Bool} {v : Nat} {Y : YS} {c : Nat} (h : WO2 n M ch v Y c) (e : mT M = c) : WO3 n M ch v (wHi Y 0) 0 := by
  subst e
  exact ⟨h, Or.inl ⟨rfl, rfl⟩⟩

set_option maxHeartbeats 4000000 in
set_option maxRecDepth 100000 in
theorem m3_workOut (l : Launch) (G : kG) (r : RS) (hL : layR G) (hk : okR G r) {v : Nat} (hv : v < gn G) (ch : Nat → Nat → Bool) (hch : chE r.1 ch) (hrn : ∀ b x, gn G ≤ x → x < 10 → mHs r.1 (11 * b + 1 + x) v = false) : KMv l G (AR G) (wR G) yX3_workOut cX3_workOut 6 (Option.none : Option FieldType) ({ frames := 2, cells := 0, slots := 0, locals := 45 }) [.ref (gL G 0), .int (nI v)] r (fun u' => u'.1 = r.1 ∧ same4 u'.2 r.2 ∧ DV (gn G) r.1 ch v (yKn u'.2) (yNo u'.2) (yFi u'.2) (yTp u'.2) (yHi u'.2) ∧ yRc u'.2 = mHt r.1 (yTp u'.2)) := by
  refine K_of (by decide) (Nat.le_of_ble_eq_true rfl) ?_
  intro p e s m below meth c X hr hlocks hnm hK hP ls hl
  have hx := X.1
  have hb := X.2.1
  have hown := X.2.2.2.1
  have hts := X.2.2.2.2
  have hS : va_S (AR G) s.heap s.heap [] := va_S.rf
  have hl : lv_has ls 6 [(0, .ref (gL G 0)), (1, .int (nI v))] := hl
  obtain ⟨⟨kn4, kn10⟩, ⟨kT1, kT61⟩, kP40, kLd, kPar, kEp, kHt, kVf⟩ := id hk
  refine lv_aload_n hx hb dX3_workOut_0 rfl (lv_at hl 0 rfl) ?_
  refine lv_iconst (v := nI 0) hx hb dX3_workOut_1 (by decide) ?_
  refine k_put (v := .int (nI 0)) X hK inX3 rfl tyX3_ok nmX3 hP (wR_D hL _) hS (wR_g G r (k := 0) (by decide)) 22 (by decide) tw_2_157 rfl rfl rfl (Nat.le_of_ble_eq_true rfl) ((r.1, wRc r.2 0)) (rs_Rc G r 0) dX3_workOut_2 (fun H locs hP hS => ?_)
  refine lv_aload_n hx hb dX3_workOut_5 rfl (lv_at hl 0 rfl) ?_
  refine lv_iconst (v := nI 0) hx hb dX3_workOut_6 (by decide) ?_
  refine k_put (v := .int (nI 0)) X hK inX3 rfl tyX3_ok nmX3 hP (wR_D hL _) hS (wR_g G ((r.1, wRc r.2 0)) (k := 0) (by decide)) 23 (by decide) tw_2_158 rfl rfl rfl (Nat.le_of_ble_eq_true rfl) ((r.1, wTp (wRc r.2 0) 0)) (rs_Tp G ((r.1, wRc r.2 0)) 0) dX3_workOut_7 (fun H locs hP hS => ?_)
  refine lv_iconst (v := nI 0) hx hb dX3_workOut_10 (by decide) ?_
  refine lv_istore_n (lv' := [(2, .int (nI 0)), (0, .ref (gL G 0)), (1, .int (nI v))]) hx hb dX3_workOut_11 rfl hl (by decide) rfl (fun ls hl => ?_)
  have loop_12 : ∀ (d_12 : Nat) (i : Nat) (Y1 : YS), mT r.1 - i = d_12 → (i ≤ mT r.1) → (WO1 (gn G) r.1 v Y1 i) → (same4 Y1 r.2) → ∀ (H : Heap) (locs : List Loc) (ls : Array Slot), va_P (gD G) vwCl ((wR G) ((r.1, Y1))) H → va_S (AR G) s.heap H locs → lv_has ls 6 [(0, .ref (gL G 0)), (1, .int (nI v)), (2, .int (nI i))] → W p l e ({ frames := 2, cells := 0, slots := 0, locals := 45 } : Room) s m ([.ref (gL G 0), .int (nI v)] : List Value).toArray below meth c H locs 0 0 (MQ below (va_Qv (fun u' => u'.1 = r.1 ∧ same4 u'.2 r.2 ∧ DV (gn G) r.1 ch v (yKn u'.2) (yNo u'.2) (yFi u'.2) (yTp u'.2) (yHi u'.2) ∧ yRc u'.2 = mHt r.1 (yTp u'.2)) (KB G (wR G)) (AR G)) ([.ref (gL G 0), .int (nI v)] : List Value).toArray s 0 0 (AR G)) (F0 m 12 ls []) := by
    intro d_12
    induction d_12 using Nat.strongRecOn with
    | ind d_12 ih_12 =>
      intro i Y1 hd_12 hiT hW hs4 H locs ls hP hS hl
      have hTpi : yTp Y1 ≤ 60 := by
        rcases hW.2.2.2.2 with h | h
        · rw [h.2]; exact Nat.zero_le _
        · have := h.2.1; omega
      have hEt := kEp (yTp Y1)
      have hHi := kHt i
      have hEi := kEp i
      have hHt1 := kHt (yTp Y1)
      have hRc1 : yRc Y1 = mHt r.1 (yTp Y1) := hW.2.2.2.1
      have join_205 : ∀ (Y5 : YS) (hi : i < mT r.1) (hW5 : WO1 (gn G) r.1 v Y5 (i + 1)) (hs5 : same4 Y5 r.2) (H : Heap) (locs : List Loc) (ls : Array Slot), va_P (gD G) vwCl ((wR G) ((r.1, Y5))) H → va_S (AR G) s.heap H locs → lv_has ls 6 [(0, .ref (gL G 0)), (1, .int (nI v)), (2, .int (nI i))] → W p l e ({ frames := 2, cells := 0, slots := 0, locals := 45 } : Room) s m ([.ref (gL G 0), .int (nI v)] : List Value).toArray below meth c H locs 0 0 (MQ below (va_Qv (fun u' => u'.1 = r.1 ∧ same4 u'.2 r.2 ∧ DV (gn G) r.1 ch v (yKn u'.2) (yNo u'.2) (yFi u'.2) (yTp u'.2) (yHi u'.2) ∧ yRc u'.2 = mHt r.1 (yTp u'.2)) (KB G (wR G)) (AR G)) ([.ref (gL G 0), .int (nI v)] : List Value).toArray s 0 0 (AR G)) (F0 m 205 ls []) := by
        intro Y5 hi hW5 hs5 H locs ls hP hS hl
        refine lv_iinc (v := nI (i + 1)) (lv' := [(2, .int (nI (i + 1))), (0, .ref (gL G 0)), (1, .int (nI v))]) hx hb dX3_workOut_205 hl (k := 2) rfl (nI_add i 1) (by decide) rfl (fun ls hl => ?_)
        refine lv_goto (tgt := 12) hx hb dX3_workOut_208 (by decide) ?_
        exact ih_12 (mT r.1 - (i + 1)) (by omega) (i + 1) Y5 rfl (hi) (hW5) (hs5) _ _ _ hP hS (lv_sub hl [1, 2, 0] rfl)
      have join_67 : ∀ (kv : Bool) (hi : i < mT r.1) (hkv : kv = KV r.1 Y1 v i) (H : Heap) (locs : List Loc) (ls : Array Slot), va_P (gD G) vwCl ((wR G) ((r.1, wKn Y1 (va_up (yKn Y1) i kv)))) H → va_S (AR G) s.heap H locs → lv_has ls 6 [(0, .ref (gL G 0)), (1, .int (nI v)), (2, .int (nI i))] → W p l e ({ frames := 2, cells := 0, slots := 0, locals := 45 } : Room) s m ([.ref (gL G 0), .int (nI v)] : List Value).toArray below meth c H locs 0 0 (MQ below (va_Qv (fun u' => u'.1 = r.1 ∧ same4 u'.2 r.2 ∧ DV (gn G) r.1 ch v (yKn u'.2) (yNo u'.2) (yFi u'.2) (yTp u'.2) (yHi u'.2) ∧ yRc u'.2 = mHt r.1 (yTp u'.2)) (KB G (wR G)) (AR G)) ([.ref (gL G 0), .int (nI v)] : List Value).toArray s 0 0 (AR G)) (F0 m 67 ls []) := by
        intro kv hi hkv H locs ls hP hS hl
        have join_122 : ∀ (nv : Bool) (hi : i < mT r.1) (hnv : nv = NV (gn G) r.1 Y1 v i kv) (H : Heap) (locs : List Loc) (ls : Array Slot), va_P (gD G) vwCl ((wR G) ((r.1, wNo (wKn Y1 (va_up (yKn Y1) i kv)) (va_up (yNo Y1) i nv)))) H → va_S (AR G) s.heap H locs → lv_has ls 6 [(0, .ref (gL G 0)), (1, .int (nI v)), (2, .int (nI i))] → W p l e ({ frames := 2, cells := 0, slots := 0, locals := 45 } : Room) s m ([.ref (gL G 0), .int (nI v)] : List Value).toArray below meth c H locs 0 0 (MQ below (va_Qv (fun u' => u'.1 = r.1 ∧ same4 u'.2 r.2 ∧ DV (gn G) r.1 ch v (yKn u'.2) (yNo u'.2) (yFi u'.2) (yTp u'.2) (yHi u'.2) ∧ yRc u'.2 = mHt r.1 (yTp u'.2)) (KB G (wR G)) (AR G)) ([.ref (gL G 0), .int (nI v)] : List Value).toArray s 0 0 (AR G)) (F0 m 122 ls []) := by
          intro nv hi hnv H locs ls hP hS hl
          have join_137 : ∀ (hi : i < mT r.1) (H : Heap) (locs : List Loc) (ls : Array Slot), va_P (gD G) vwCl ((wR G) ((r.1, woY Y1 i kv nv))) H → va_S (AR G) s.heap H locs → lv_has ls 6 [(0, .ref (gL G 0)), (1, .int (nI v)), (2, .int (nI i))] → W p l e ({ frames := 2, cells := 0, slots := 0, locals := 45 } : Room) s m ([.ref (gL G 0), .int (nI v)] : List Value).toArray below meth c H locs 0 0 (MQ below (va_Qv (fun u' => u'.1 = r.1 ∧ same4 u'.2 r.2 ∧ DV (gn G) r.1 ch v (yKn u'.2) (yNo u'.2) (yFi u'.2) (yTp u'.2) (yHi u'.2) ∧ yRc u'.2 = mHt r.1 (yTp u'.2)) (KB G (wR G)) (AR G)) ([.ref (gL G 0), .int (nI v)] : List Value).toArray s 0 0 (AR G)) (F0 m 137 ls []) := by
            intro hi H locs ls hP hS hl
            refine lv_aload_n hx hb dX3_workOut_137 rfl (lv_at hl 0 rfl) ?_
            refine k_get (v := .ref (gL G 14)) X hK inX3 rfl hP (wR_g G ((r.1, woY Y1 i kv nv)) (k := 0) (by decide)) 20 (by decide) tw_2_155 rfl dX3_workOut_138 ?_
            refine lv_iload_n hx hb dX3_workOut_141 rfl (lv_at hl 2 rfl) ?_
            refine k_zld (k := i) (v := bI ((va_up (yNo Y1) i nv) i)) X hK hP (wR_g G ((r.1, woY Y1 i kv nv)) (k := 14) (by decide)) (by omega) (by decide) rfl dX3_workOut_142 ?_
            refine k_ti (congrArg bI (va_up_self (yNo Y1) i nv)) ?_
            refine lv_if_eq (tgt := 205) hx hb dX3_workOut_143 (by decide) (fun c_143 => ?_) (fun c_143 => ?_)
            · have c_143 : nv = false := (bI_eq0 _).mp c_143
              exact join_205 ((woY Y1 i kv nv)) (hi) (wo1_keep kPar hW hkv hnv (fun h => by first | (rw [h] at c_143; exact absurd c_143 (by decide)) | omega)) (hs4) _ _ _ hP hS (lv_sub hl [0, 1, 2] rfl)
            · have c_143 : nv = true := (bI_ne0 _).mp c_143
              refine lv_aload_n hx hb dX3_workOut_146 rfl (lv_at hl 0 rfl) ?_
              refine k_get (v := .ref (gL G 7)) X hK inX3 rfl hP (wR_g G ((r.1, woY Y1 i kv nv)) (k := 0) (by decide)) 10 (by decide) tw_2_145 rfl dX3_workOut_147 ?_
              refine lv_iload_n hx hb dX3_workOut_150 rfl (lv_at hl 2 rfl) ?_
              refine k_ild (k := i) (v := nI (mHt r.1 i)) X hK hP (wR_g G ((r.1, woY Y1 i kv nv)) (k := 7) (by decide)) (by omega) (by decide) rfl dX3_workOut_151 ?_
              refine lv_aload_n hx hb dX3_workOut_152 rfl (lv_at hl 0 rfl) ?_
              refine k_get (v := .int (nI (yRc Y1))) X hK inX3 rfl hP (wR_g G ((r.1, woY Y1 i kv nv)) (k := 0) (by decide)) 22 (by decide) tw_2_157 rfl dX3_workOut_153 ?_
              refine lv_icmp_gt (tgt := 190) hx hb dX3_workOut_156 (by decide) (fun c_156 => ?_) (fun c_156 => ?_)
              · have c_156 : (yRc Y1) < (mHt r.1 i) := cLt c_156 (by omega) (by omega)
                refine lv_aload_n hx hb dX3_workOut_190 rfl (lv_at hl 0 rfl) ?_
                refine lv_aload_n hx hb dX3_workOut_191 rfl (lv_at hl 0 rfl) ?_
                refine k_get (v := .ref (gL G 7)) X hK inX3 rfl hP (wR_g G ((r.1, woY Y1 i kv nv)) (k := 0) (by decide)) 10 (by decide) tw_2_145 rfl dX3_workOut_192 ?_
                refine lv_iload_n hx hb dX3_workOut_195 rfl (lv_at hl 2 rfl) ?_
                refine k_ild (k := i) (v := nI (mHt r.1 i)) X hK hP (wR_g G ((r.1, woY Y1 i kv nv)) (k := 7) (by decide)) (by omega) (by decide) rfl dX3_workOut_196 ?_
                refine k_put (v := .int (nI (mHt r.1 i))) X hK inX3 rfl tyX3_ok nmX3 hP (wR_D hL _) hS (wR_g G ((r.1, woY Y1 i kv nv)) (k := 0) (by decide)) 22 (by decide) tw_2_157 rfl rfl rfl (Nat.le_of_ble_eq_true rfl) ((r.1, wRc (woY Y1 i kv nv) (mHt r.1 i))) (rs_Rc G ((r.1, woY Y1 i kv nv)) (mHt r.1 i)) dX3_workOut_197 (fun H locs hP hS => ?_)
                refine lv_aload_n hx hb dX3_workOut_200 rfl (lv_at hl 0 rfl) ?_
                refine lv_iload_n hx hb dX3_workOut_201 rfl (lv_at hl 2 rfl) ?_
                refine k_put (v := .int (nI i)) X hK inX3 rfl tyX3_ok nmX3 hP (wR_D hL _) hS (wR_g G ((r.1, wRc (woY Y1 i kv nv) (mHt r.1 i))) (k := 0) (by decide)) 23 (by decide) tw_2_158 rfl rfl rfl (Nat.le_of_ble_eq_true rfl) ((r.1, wTp (wRc (woY Y1 i kv nv) (mHt r.1 i)) i)) (rs_Tp G ((r.1, wRc (woY Y1 i kv nv) (mHt r.1 i))) i) dX3_workOut_202 (fun H locs hP hS => ?_)
                exact join_205 ((wTp (wRc (woY Y1 i kv nv) (mHt r.1 i)) i)) (hi) (wo1_take kPar hW hkv hnv c_143 (by omega)) (hs4) _ _ _ hP hS (lv_sub hl [0, 1, 2] rfl)
              · have c_156 : (mHt r.1 i) ≤ (yRc Y1) := cNlt c_156 (by omega) (by omega)
                refine lv_aload_n hx hb dX3_workOut_159 rfl (lv_at hl 0 rfl) ?_
                refine k_get (v := .ref (gL G 7)) X hK inX3 rfl hP (wR_g G ((r.1, woY Y1 i kv nv)) (k := 0) (by decide)) 10 (by decide) tw_2_145 rfl dX3_workOut_160 ?_
                refine lv_iload_n hx hb dX3_workOut_163 rfl (lv_at hl 2 rfl) ?_
                refine k_ild (k := i) (v := nI (mHt r.1 i)) X hK hP (wR_g G ((r.1, woY Y1 i kv nv)) (k := 7) (by decide)) (by omega) (by decide) rfl dX3_workOut_164 ?_
                refine lv_aload_n hx hb dX3_workOut_165 rfl (lv_at hl 0 rfl) ?_
                refine k_get (v := .int (nI (yRc Y1))) X hK inX3 rfl hP (wR_g G ((r.1, woY Y1 i kv nv)) (k := 0) (by decide)) 22 (by decide) tw_2_157 rfl dX3_workOut_166 ?_
                refine lv_icmp_ne (tgt := 205) hx hb dX3_workOut_169 (by decide) (fun c_169 => ?_) (fun c_169 => ?_)
                · have c_169 : (mHt r.1 i) ≠ (yRc Y1) := cNe c_169 (by omega) (by omega)
                  exact join_205 ((woY Y1 i kv nv)) (hi) (wo1_keep kPar hW hkv hnv (fun h => by first | (rw [h] at c_143; exact absurd c_143 (by decide)) | omega)) (hs4) _ _ _ hP hS (lv_sub hl [0, 1, 2] rfl)
                · have c_169 : (mHt r.1 i) = (yRc Y1) := cEq c_169 (by omega) (by omega)
                  refine lv_aload_n hx hb dX3_workOut_172 rfl (lv_at hl 0 rfl) ?_
                  refine k_get (v := .ref (gL G 5)) X hK inX3 rfl hP (wR_g G ((r.1, woY Y1 i kv nv)) (k := 0) (by decide)) 8 (by decide) tw_2_143 rfl dX3_workOut_173 ?_
                  refine lv_iload_n hx hb dX3_workOut_176 rfl (lv_at hl 2 rfl) ?_
                  refine k_ild (k := i) (v := nI (mEp r.1 i)) X hK hP (wR_g G ((r.1, woY Y1 i kv nv)) (k := 5) (by decide)) (by omega) (by decide) rfl dX3_workOut_177 ?_
                  refine lv_aload_n hx hb dX3_workOut_178 rfl (lv_at hl 0 rfl) ?_
                  refine k_get (v := .ref (gL G 5)) X hK inX3 rfl hP (wR_g G ((r.1, woY Y1 i kv nv)) (k := 0) (by decide)) 8 (by decide) tw_2_143 rfl dX3_workOut_179 ?_
                  refine lv_aload_n hx hb dX3_workOut_182 rfl (lv_at hl 0 rfl) ?_
                  refine k_get (v := .int (nI (yTp Y1))) X hK inX3 rfl hP (wR_g G ((r.1, woY Y1 i kv nv)) (k := 0) (by decide)) 23 (by decide) tw_2_158 rfl dX3_workOut_183 ?_
                  refine k_ild (k := (yTp Y1)) (v := nI (mEp r.1 (yTp Y1))) X hK hP (wR_g G ((r.1, woY Y1 i kv nv)) (k := 5) (by decide)) (by omega) (by decide) rfl dX3_workOut_186 ?_
                  refine lv_icmp_le (tgt := 205) hx hb dX3_workOut_187 (by decide) (fun c_187 => ?_) (fun c_187 => ?_)
                  · have c_187 : (mEp r.1 i) ≤ (mEp r.1 (yTp Y1)) := cLe c_187 (by omega) (by omega)
                    exact join_205 ((woY Y1 i kv nv)) (hi) (wo1_keep kPar hW hkv hnv (fun h => by first | (rw [h] at c_143; exact absurd c_143 (by decide)) | omega)) (hs4) _ _ _ hP hS (lv_sub hl [0, 1, 2] rfl)
                  · have c_187 : (mEp r.1 (yTp Y1)) < (mEp r.1 i) := cNle c_187 (by omega) (by omega)
                    refine lv_aload_n hx hb dX3_workOut_190 rfl (lv_at hl 0 rfl) ?_
                    refine lv_aload_n hx hb dX3_workOut_191 rfl (lv_at hl 0 rfl) ?_
                    refine k_get (v := .ref (gL G 7)) X hK inX3 rfl hP (wR_g G ((r.1, woY Y1 i kv nv)) (k := 0) (by decide)) 10 (by decide) tw_2_145 rfl dX3_workOut_192 ?_
                    refine lv_iload_n hx hb dX3_workOut_195 rfl (lv_at hl 2 rfl) ?_
                    refine k_ild (k := i) (v := nI (mHt r.1 i)) X hK hP (wR_g G ((r.1, woY Y1 i kv nv)) (k := 7) (by decide)) (by omega) (by decide) rfl dX3_workOut_196 ?_
                    refine k_put (v := .int (nI (mHt r.1 i))) X hK inX3 rfl tyX3_ok nmX3 hP (wR_D hL _) hS (wR_g G ((r.1, woY Y1 i kv nv)) (k := 0) (by decide)) 22 (by decide) tw_2_157 rfl rfl rfl (Nat.le_of_ble_eq_true rfl) ((r.1, wRc (woY Y1 i kv nv) (mHt r.1 i))) (rs_Rc G ((r.1, woY Y1 i kv nv)) (mHt r.1 i)) dX3_workOut_197 (fun H locs hP hS => ?_)
                    refine lv_aload_n hx hb dX3_workOut_200 rfl (lv_at hl 0 rfl) ?_
                    refine lv_iload_n hx hb dX3_workOut_201 rfl (lv_at hl 2 rfl) ?_
                    refine k_put (v := .int (nI i)) X hK inX3 rfl tyX3_ok nmX3 hP (wR_D hL _) hS (wR_g G ((r.1, wRc (woY Y1 i kv nv) (mHt r.1 i))) (k := 0) (by decide)) 23 (by decide) tw_2_158 rfl rfl rfl (Nat.le_of_ble_eq_true rfl) ((r.1, wTp (wRc (woY Y1 i kv nv) (mHt r.1 i)) i)) (rs_Tp G ((r.1, wRc (woY Y1 i kv nv) (mHt r.1 i))) i) dX3_workOut_202 (fun H locs hP hS => ?_)
                    exact join_205 ((wTp (wRc (woY Y1 i kv nv) (mHt r.1 i)) i)) (hi) (wo1_take kPar hW hkv hnv c_143 (by omega)) (hs4) _ _ _ hP hS (lv_sub hl [0, 1, 2] rfl)
          refine lv_aload_n hx hb dX3_workOut_122 rfl (lv_at hl 0 rfl) ?_
          refine k_get (v := .ref (gL G 15)) X hK inX3 rfl hP (wR_g G ((r.1, wNo (wKn Y1 (va_up (yKn Y1) i kv)) (va_up (yNo Y1) i nv))) (k := 0) (by decide)) 21 (by decide) tw_2_156 rfl dX3_workOut_123 ?_
          refine lv_iload_n hx hb dX3_workOut_126 rfl (lv_at hl 2 rfl) ?_
          refine lv_iload_n hx hb dX3_workOut_127 rfl (lv_at hl 2 rfl) ?_
          refine lv_if_ne (tgt := 135) hx hb dX3_workOut_128 (by decide) (fun c_128 => ?_) (fun c_128 => ?_)
          · have c_128 : i ≠ 0 := czNe c_128 (by omega) (by omega)
            refine lv_iconst (v := nI 0) hx hb dX3_workOut_135 (by decide) ?_
            refine k_ti (show nI 0 = bI false from rfl) ?_
            refine k_zst (k := i) (x := bI false) X hK hP (wR_D hL _) hS (wR_g G ((r.1, wNo (wKn Y1 (va_up (yKn Y1) i kv)) (va_up (yNo Y1) i nv))) (k := 15) (by decide)) (by omega) (by decide) (bI_vnar _) ((r.1, wFi (wNo (wKn Y1 (va_up (yKn Y1) i kv)) (va_up (yNo Y1) i nv)) (va_up (yFi Y1) i false))) (rs_Fi G ((r.1, wNo (wKn Y1 (va_up (yKn Y1) i kv)) (va_up (yNo Y1) i nv))) i false) dX3_workOut_136 (fun H locs hP hS => ?_)
            exact join_137  (hi) _ _ _ (k_su (show _ = (r.1, woY Y1 i kv nv) by rw [woY]; first | rw [decide_eq_true c_128] | rw [decide_eq_false c_128]) hP) hS (lv_sub hl [0, 1, 2] rfl)
          · have c_128 : i = 0 := czEq c_128 (by omega) (by omega)
            refine lv_iconst (v := nI 1) hx hb dX3_workOut_131 (by decide) ?_
            refine lv_goto (tgt := 136) hx hb dX3_workOut_132 (by decide) ?_
            refine k_ti (show nI 1 = bI true from rfl) ?_
            refine k_zst (k := i) (x := bI true) X hK hP (wR_D hL _) hS (wR_g G ((r.1, wNo (wKn Y1 (va_up (yKn Y1) i kv)) (va_up (yNo Y1) i nv))) (k := 15) (by decide)) (by omega) (by decide) (bI_vnar _) ((r.1, wFi (wNo (wKn Y1 (va_up (yKn Y1) i kv)) (va_up (yNo Y1) i nv)) (va_up (yFi Y1) i true))) (rs_Fi G ((r.1, wNo (wKn Y1 (va_up (yKn Y1) i kv)) (va_up (yNo Y1) i nv))) i true) dX3_workOut_136 (fun H locs hP hS => ?_)
            exact join_137  (hi) _ _ _ (k_su (show _ = (r.1, woY Y1 i kv nv) by rw [woY]; first | rw [decide_eq_true c_128] | rw [decide_eq_false c_128]) hP) hS (lv_sub hl [0, 1, 2] rfl)
        refine lv_aload_n hx hb dX3_workOut_67 rfl (lv_at hl 0 rfl) ?_
        refine k_get (v := .ref (gL G 14)) X hK inX3 rfl hP (wR_g G ((r.1, wKn Y1 (va_up (yKn Y1) i kv))) (k := 0) (by decide)) 20 (by decide) tw_2_155 rfl dX3_workOut_68 ?_
        refine lv_iload_n hx hb dX3_workOut_71 rfl (lv_at hl 2 rfl) ?_
        refine lv_iload_n hx hb dX3_workOut_72 rfl (lv_at hl 2 rfl) ?_
        refine lv_if_eq (tgt := 116) hx hb dX3_workOut_73 (by decide) (fun c_73 => ?_) (fun c_73 => ?_)
        · have c_73 : i = 0 := czEq c_73 (by omega) (by omega)
          have hi0 : i = 0 := c_73
          refine lv_iconst (v := nI 1) hx hb dX3_workOut_116 (by decide) ?_
          refine lv_goto (tgt := 121) hx hb dX3_workOut_117 (by decide) ?_
          refine k_ti (show nI 1 = bI true from rfl) ?_
          refine k_zst (k := i) (x := bI true) X hK hP (wR_D hL _) hS (wR_g G ((r.1, wKn Y1 (va_up (yKn Y1) i kv))) (k := 14) (by decide)) (by omega) (by decide) (bI_vnar _) ((r.1, wNo (wKn Y1 (va_up (yKn Y1) i kv)) (va_up (yNo Y1) i true))) (rs_No G ((r.1, wKn Y1 (va_up (yKn Y1) i kv))) i true) dX3_workOut_121 (fun H locs hP hS => ?_)
          exact join_122 true (hi) (by first | (rw [NV, hi0]; rfl) | (rw [NV, c_82, c_96, decide_eq_true (p := 2 * gn G ≤ 3 * nVo r.1 i v) (by omega), Bool.and_self, Bool.and_self, Bool.or_true])) _ _ _ hP hS (lv_sub hl [0, 1, 2] rfl)
        · have c_73 : i ≠ 0 := czNe c_73 (by omega) (by omega)
          have hi0 : 0 < i := Nat.pos_of_ne_zero c_73
          have hpi := kPar i hi0
          refine lv_aload_n hx hb dX3_workOut_76 rfl (lv_at hl 0 rfl) ?_
          refine k_get (v := .ref (gL G 13)) X hK inX3 rfl hP (wR_g G ((r.1, wKn Y1 (va_up (yKn Y1) i kv))) (k := 0) (by decide)) 19 (by decide) tw_2_154 rfl dX3_workOut_77 ?_
          refine lv_iload_n hx hb dX3_workOut_80 rfl (lv_at hl 2 rfl) ?_
          refine k_zld (k := i) (v := bI ((va_up (yKn Y1) i kv) i)) X hK hP (wR_g G ((r.1, wKn Y1 (va_up (yKn Y1) i kv))) (k := 13) (by decide)) (by omega) (by decide) rfl dX3_workOut_81 ?_
          refine k_ti (congrArg bI (va_up_self (yKn Y1) i kv)) ?_
          refine lv_if_eq (tgt := 120) hx hb dX3_workOut_82 (by decide) (fun c_82 => ?_) (fun c_82 => ?_)
          · have c_82 : kv = false := (bI_eq0 _).mp c_82
            refine lv_iconst (v := nI 0) hx hb dX3_workOut_120 (by decide) ?_
            refine k_ti (show nI 0 = bI false from rfl) ?_
            refine k_zst (k := i) (x := bI false) X hK hP (wR_D hL _) hS (wR_g G ((r.1, wKn Y1 (va_up (yKn Y1) i kv))) (k := 14) (by decide)) (by omega) (by decide) (bI_vnar _) ((r.1, wNo (wKn Y1 (va_up (yKn Y1) i kv)) (va_up (yNo Y1) i false))) (rs_No G ((r.1, wKn Y1 (va_up (yKn Y1) i kv))) i false) dX3_workOut_121 (fun H locs hP hS => ?_)
            exact join_122 false (hi) (by rw [NV, decide_eq_false (Nat.ne_of_gt hi0)]; first | (rw [c_82]; rfl) | (rw [c_96, Bool.false_and, Bool.and_false]; rfl) | (rw [decide_eq_false (p := 2 * gn G ≤ 3 * nVo r.1 i v) (by omega), Bool.and_false, Bool.and_false]; rfl)) _ _ _ hP hS (lv_sub hl [0, 1, 2] rfl)
          · have c_82 : kv = true := (bI_ne0 _).mp c_82
            refine lv_aload_n hx hb dX3_workOut_85 rfl (lv_at hl 0 rfl) ?_
            refine k_get (v := .ref (gL G 14)) X hK inX3 rfl hP (wR_g G ((r.1, wKn Y1 (va_up (yKn Y1) i kv))) (k := 0) (by decide)) 20 (by decide) tw_2_155 rfl dX3_workOut_86 ?_
            refine lv_aload_n hx hb dX3_workOut_89 rfl (lv_at hl 0 rfl) ?_
            refine k_get (v := .ref (gL G 4)) X hK inX3 rfl hP (wR_g G ((r.1, wKn Y1 (va_up (yKn Y1) i kv))) (k := 0) (by decide)) 7 (by decide) tw_2_142 rfl dX3_workOut_90 ?_
            refine lv_iload_n hx hb dX3_workOut_93 rfl (lv_at hl 2 rfl) ?_
            refine k_ild (k := i) (v := eP (mPar r.1) i) X hK hP (wR_g G ((r.1, wKn Y1 (va_up (yKn Y1) i kv))) (k := 4) (by decide)) (by omega) (by decide) rfl dX3_workOut_94 ?_
            refine k_ti (eP_pos hi0) ?_
            refine k_zld (k := (mPar r.1 i)) (v := bI ((yNo Y1) (mPar r.1 i))) X hK hP (wR_g G ((r.1, wKn Y1 (va_up (yKn Y1) i kv))) (k := 14) (by decide)) (by omega) (by decide) rfl dX3_workOut_95 ?_
            refine lv_if_eq (tgt := 120) hx hb dX3_workOut_96 (by decide) (fun c_96 => ?_) (fun c_96 => ?_)
            · have c_96 : ((yNo Y1) (mPar r.1 i)) = false := (bI_eq0 _).mp c_96
              refine lv_iconst (v := nI 0) hx hb dX3_workOut_120 (by decide) ?_
              refine k_ti (show nI 0 = bI false from rfl) ?_
              refine k_zst (k := i) (x := bI false) X hK hP (wR_D hL _) hS (wR_g G ((r.1, wKn Y1 (va_up (yKn Y1) i kv))) (k := 14) (by decide)) (by omega) (by decide) (bI_vnar _) ((r.1, wNo (wKn Y1 (va_up (yKn Y1) i kv)) (va_up (yNo Y1) i false))) (rs_No G ((r.1, wKn Y1 (va_up (yKn Y1) i kv))) i false) dX3_workOut_121 (fun H locs hP hS => ?_)
              exact join_122 false (hi) (by rw [NV, decide_eq_false (Nat.ne_of_gt hi0)]; first | (rw [c_82]; rfl) | (rw [c_96, Bool.false_and, Bool.and_false]; rfl) | (rw [decide_eq_false (p := 2 * gn G ≤ 3 * nVo r.1 i v) (by omega), Bool.and_false, Bool.and_false]; rfl)) _ _ _ hP hS (lv_sub hl [0, 1, 2] rfl)
            · have c_96 : ((yNo Y1) (mPar r.1 i)) = true := (bI_ne0 _).mp c_96
              refine lv_iconst (v := nI 3) hx hb dX3_workOut_99 (by decide) ?_
              refine lv_aload_n hx hb dX3_workOut_100 rfl (lv_at hl 0 rfl) ?_
              refine lv_iload_n hx hb dX3_workOut_101 rfl (lv_at hl 1 rfl) ?_
              refine lv_iload_n hx hb dX3_workOut_102 rfl (lv_at hl 2 rfl) ?_
              refine k_ci (k_runV (As := [.int (nI v), .int (nI i)]) (rest := [.int (nI 3), .int (nI i), .ref (gL G 14)]) X hK hP (wR_g G ((r.1, wKn Y1 (va_up (yKn Y1) i kv))) (k := 0) (by decide)) rfl (m3_votesOf l G ((r.1, wKn Y1 (va_up (yKn Y1) i kv))) hL (hk) (v := v) (b := i) (by omega) (by omega)) ⟨rfl, rfl⟩ tw_3_13 tw_3_15 tw_0_29 tw_1_6 tw_3_16 ⟨by decide +kernel, by decide +kernel, (by decide +kernel : (parseMethodDescriptor yX3_votesOf.desc).map (fun d => d.parameters.length) = some 2)⟩ ⟨Nat.le_of_ble_eq_true rfl, Nat.le_of_ble_eq_true rfl⟩ hl.1 rfl (Nat.le_of_ble_eq_true rfl) ⟨Nat.zero_le _, Nat.zero_le _⟩ dX3_workOut_103) hS (fun r_103 u_103 H locs hq_103 hP hS => ?_)
              have hP := k_su hq_103.2 hP
              refine k_ti (y := nI (nVo r.1 i v)) (hq_103.1.trans (congrArg nI (nVo_n kn10 hrn i))) ?_
              have hnv10 : nVo r.1 i v ≤ 10 := cnt_le _ _
              refine lv_imul hx hb dX3_workOut_106 ?_
              refine k_ti (pk_mul 3 (nVo r.1 i v)) ?_
              refine lv_iconst (v := nI 2) hx hb dX3_workOut_107 (by decide) ?_
              refine lv_aload_n hx hb dX3_workOut_108 rfl (lv_at hl 0 rfl) ?_
              refine k_get (v := .int (nI (gn G))) X hK inX3 rfl hP (wR_g G ((r.1, wKn Y1 (va_up (yKn Y1) i kv))) (k := 0) (by decide)) 1 (by decide) tw_2_136 rfl dX3_workOut_109 ?_
              refine lv_imul hx hb dX3_workOut_112 ?_
              refine k_ti (pk_mul 2 (gn G)) ?_
              refine lv_icmp_lt (tgt := 120) hx hb dX3_workOut_113 (by decide) (fun c_113 => ?_) (fun c_113 => ?_)
              · have c_113 : (3 * (nVo r.1 i v)) < (2 * (gn G)) := cLt c_113 (by omega) (by omega)
                refine lv_iconst (v := nI 0) hx hb dX3_workOut_120 (by decide) ?_
                refine k_ti (show nI 0 = bI false from rfl) ?_
                refine k_zst (k := i) (x := bI false) X hK hP (wR_D hL _) hS (wR_g G ((r.1, wKn Y1 (va_up (yKn Y1) i kv))) (k := 14) (by decide)) (by omega) (by decide) (bI_vnar _) ((r.1, wNo (wKn Y1 (va_up (yKn Y1) i kv)) (va_up (yNo Y1) i false))) (rs_No G ((r.1, wKn Y1 (va_up (yKn Y1) i kv))) i false) dX3_workOut_121 (fun H locs hP hS => ?_)
                exact join_122 false (hi) (by rw [NV, decide_eq_false (Nat.ne_of_gt hi0)]; first | (rw [c_82]; rfl) | (rw [c_96, Bool.false_and, Bool.and_false]; rfl) | (rw [decide_eq_false (p := 2 * gn G ≤ 3 * nVo r.1 i v) (by omega), Bool.and_false, Bool.and_false]; rfl)) _ _ _ hP hS (lv_sub hl [0, 1, 2] rfl)
              · have c_113 : (2 * (gn G)) ≤ (3 * (nVo r.1 i v)) := cNlt c_113 (by omega) (by omega)
                refine lv_iconst (v := nI 1) hx hb dX3_workOut_116 (by decide) ?_
                refine lv_goto (tgt := 121) hx hb dX3_workOut_117 (by decide) ?_
                refine k_ti (show nI 1 = bI true from rfl) ?_
                refine k_zst (k := i) (x := bI true) X hK hP (wR_D hL _) hS (wR_g G ((r.1, wKn Y1 (va_up (yKn Y1) i kv))) (k := 14) (by decide)) (by omega) (by decide) (bI_vnar _) ((r.1, wNo (wKn Y1 (va_up (yKn Y1) i kv)) (va_up (yNo Y1) i true))) (rs_No G ((r.1, wKn Y1 (va_up (yKn Y1) i kv))) i true) dX3_workOut_121 (fun H locs hP hS => ?_)
                exact join_122 true (hi) (by first | (rw [NV, hi0]; rfl) | (rw [NV, c_82, c_96, decide_eq_true (p := 2 * gn G ≤ 3 * nVo r.1 i v) (by omega), Bool.and_self, Bool.and_self, Bool.or_true])) _ _ _ hP hS (lv_sub hl [0, 1, 2] rfl)
      refine lv_iload_n hx hb dX3_workOut_12 rfl (lv_at hl 2 rfl) ?_
      refine lv_aload_n hx hb dX3_workOut_13 rfl (lv_at hl 0 rfl) ?_
      refine k_get (v := .int (nI (mT r.1))) X hK inX3 rfl hP (wR_g G ((r.1, Y1)) (k := 0) (by decide)) 6 (by decide) tw_2_141 rfl dX3_workOut_14 ?_
      refine lv_icmp_ge (tgt := 211) hx hb dX3_workOut_17 (by decide) (fun c_17 => ?_) (fun c_17 => ?_)
      · have c_17 : (mT r.1) ≤ i := cLe c_17 (by omega) (by omega)
        refine lv_iconst (v := nI 1) hx hb dX3_workOut_211 (by decide) ?_
        refine lv_istore_n (lv' := [(2, .int (nI 1)), (0, .ref (gL G 0)), (1, .int (nI v))]) hx hb dX3_workOut_212 rfl hl (by decide) rfl (fun ls hl => ?_)
        have loop_213 : ∀ (d_213 : Nat) (c0 : Nat) (Y1 : YS), mT r.1 - c0 = d_213 → (0 < c0) → (c0 ≤ mT r.1) → (WO2 (gn G) r.1 ch v Y1 c0) → (same4 Y1 r.2) → ∀ (H : Heap) (locs : List Loc) (ls : Array Slot), va_P (gD G) vwCl ((wR G) ((r.1, Y1))) H → va_S (AR G) s.heap H locs → lv_has ls 6 [(0, .ref (gL G 0)), (1, .int (nI v)), (2, .int (nI c0))] → W p l e ({ frames := 2, cells := 0, slots := 0, locals := 45 } : Room) s m ([.ref (gL G 0), .int (nI v)] : List Value).toArray below meth c H locs 0 0 (MQ below (va_Qv (fun u' => u'.1 = r.1 ∧ same4 u'.2 r.2 ∧ DV (gn G) r.1 ch v (yKn u'.2) (yNo u'.2) (yFi u'.2) (yTp u'.2) (yHi u'.2) ∧ yRc u'.2 = mHt r.1 (yTp u'.2)) (KB G (wR G)) (AR G)) ([.ref (gL G 0), .int (nI v)] : List Value).toArray s 0 0 (AR G)) (F0 m 213 ls []) := by
          intro d_213
          induction d_213 using Nat.strongRecOn with
          | ind d_213 ih_213 =>
            intro c0 Y1 hd_213 hc1 hcT hW hs4 H locs ls hP hS hl
            have join_315 : ∀ (Y5 : YS) (hc : c0 < mT r.1) (hW5 : WO2 (gn G) r.1 ch v Y5 (c0 + 1)) (hs5 : same4 Y5 r.2) (H : Heap) (locs : List Loc) (ls : Array Slot), va_P (gD G) vwCl ((wR G) ((r.1, Y5))) H → va_S (AR G) s.heap H locs → lv_has ls 6 [(0, .ref (gL G 0)), (1, .int (nI v)), (2, .int (nI c0))] → W p l e ({ frames := 2, cells := 0, slots := 0, locals := 45 } : Room) s m ([.ref (gL G 0), .int (nI v)] : List Value).toArray below meth c H locs 0 0 (MQ below (va_Qv (fun u' => u'.1 = r.1 ∧ same4 u'.2 r.2 ∧ DV (gn G) r.1 ch v (yKn u'.2) (yNo u'.2) (yFi u'.2) (yTp u'.2) (yHi u'.2) ∧ yRc u'.2 = mHt r.1 (yTp u'.2)) (KB G (wR G)) (AR G)) ([.ref (gL G 0), .int (nI v)] : List Value).toArray s 0 0 (AR G)) (F0 m 315 ls []) := by
              intro Y5 hc hW5 hs5 H locs ls hP hS hl
              refine lv_iinc (v := nI (c0 + 1)) (lv' := [(2, .int (nI (c0 + 1))), (0, .ref (gL G 0)), (1, .int (nI v))]) hx hb dX3_workOut_315 hl (k := 2) rfl (nI_add c0 1) (by decide) rfl (fun ls hl => ?_)
              refine lv_goto (tgt := 213) hx hb dX3_workOut_318 (by decide) ?_
              exact ih_213 (mT r.1 - (c0 + 1)) (by omega) (c0 + 1) Y5 rfl (Nat.succ_pos _) (hc) (hW5) (hs5) _ _ _ hP hS (lv_sub hl [1, 2, 0] rfl)
            refine lv_iload_n hx hb dX3_workOut_213 rfl (lv_at hl 2 rfl) ?_
            refine lv_aload_n hx hb dX3_workOut_214 rfl (lv_at hl 0 rfl) ?_
            refine k_get (v := .int (nI (mT r.1))) X hK inX3 rfl hP (wR_g G ((r.1, Y1)) (k := 0) (by decide)) 6 (by decide) tw_2_141 rfl dX3_workOut_215 ?_
            refine lv_icmp_ge (tgt := 321) hx hb dX3_workOut_218 (by decide) (fun c_218 => ?_) (fun c_218 => ?_)
            · have c_218 : (mT r.1) ≤ c0 := cLe c_218 (by omega) (by omega)
              refine lv_aload_n hx hb dX3_workOut_321 rfl (lv_at hl 0 rfl) ?_
              refine lv_iconst (v := nI 0) hx hb dX3_workOut_322 (by decide) ?_
              refine k_put (v := .int (nI 0)) X hK inX3 rfl tyX3_ok nmX3 hP (wR_D hL _) hS (wR_g G ((r.1, Y1)) (k := 0) (by decide)) 24 (by decide) tw_2_159 rfl rfl rfl (Nat.le_of_ble_eq_true rfl) ((r.1, wHi Y1 0)) (rs_Hi G ((r.1, Y1)) 0) dX3_workOut_323 (fun H locs hP hS => ?_)
              refine lv_iconst (v := nI 0) hx hb dX3_workOut_326 (by decide) ?_
              refine lv_istore_n (lv' := [(2, .int (nI 0)), (0, .ref (gL G 0)), (1, .int (nI v))]) hx hb dX3_workOut_327 rfl hl (by decide) rfl (fun ls hl => ?_)
              have loop_328 : ∀ (d_328 : Nat) (i : Nat) (Y1 : YS), mT r.1 - i = d_328 → (i ≤ mT r.1) → (WO3 (gn G) r.1 ch v Y1 i) → (same4 Y1 r.2) → ∀ (H : Heap) (locs : List Loc) (ls : Array Slot), va_P (gD G) vwCl ((wR G) ((r.1, Y1))) H → va_S (AR G) s.heap H locs → lv_has ls 6 [(0, .ref (gL G 0)), (1, .int (nI v)), (2, .int (nI i))] → W p l e ({ frames := 2, cells := 0, slots := 0, locals := 45 } : Room) s m ([.ref (gL G 0), .int (nI v)] : List Value).toArray below meth c H locs 0 0 (MQ below (va_Qv (fun u' => u'.1 = r.1 ∧ same4 u'.2 r.2 ∧ DV (gn G) r.1 ch v (yKn u'.2) (yNo u'.2) (yFi u'.2) (yTp u'.2) (yHi u'.2) ∧ yRc u'.2 = mHt r.1 (yTp u'.2)) (KB G (wR G)) (AR G)) ([.ref (gL G 0), .int (nI v)] : List Value).toArray s 0 0 (AR G)) (F0 m 328 ls []) := by
                intro d_328
                induction d_328 using Nat.strongRecOn with
                | ind d_328 ih_328 =>
                  intro i Y1 hd_328 hiT hW hs4 H locs ls hP hS hl
                  have hHii : yHi Y1 ≤ 60 := by
                    rcases hW.2 with h | h
                    · rw [h.2]; exact Nat.zero_le _
                    · have := h.2.1; omega
                  have hHi := kHt i
                  have hHt1 := kHt (yHi Y1)
                  refine lv_iload_n hx hb dX3_workOut_328 rfl (lv_at hl 2 rfl) ?_
                  refine lv_aload_n hx hb dX3_workOut_329 rfl (lv_at hl 0 rfl) ?_
                  refine k_get (v := .int (nI (mT r.1))) X hK inX3 rfl hP (wR_g G ((r.1, Y1)) (k := 0) (by decide)) 6 (by decide) tw_2_141 rfl dX3_workOut_330 ?_
                  refine lv_icmp_ge (tgt := 381) hx hb dX3_workOut_333 (by decide) (fun c_333 => ?_) (fun c_333 => ?_)
                  · have c_333 : (mT r.1) ≤ i := cLe c_333 (by omega) (by omega)
                    exact k_retv X hr hlocks hP hS dX3_workOut_381 ⟨rfl, hs4, wo3_end kT1 hW (by omega)⟩
                  · have c_333 : i < (mT r.1) := cNle c_333 (by omega) (by omega)
                    refine lv_aload_n hx hb dX3_workOut_336 rfl (lv_at hl 0 rfl) ?_
                    refine lv_aload_n hx hb dX3_workOut_337 rfl (lv_at hl 0 rfl) ?_
                    refine k_get (v := .ref (gL G 15)) X hK inX3 rfl hP (wR_g G ((r.1, Y1)) (k := 0) (by decide)) 21 (by decide) tw_2_156 rfl dX3_workOut_338 ?_
                    refine lv_iload_n hx hb dX3_workOut_341 rfl (lv_at hl 2 rfl) ?_
                    refine k_zld (k := i) (v := bI ((yFi Y1) i)) X hK hP (wR_g G ((r.1, Y1)) (k := 15) (by decide)) (by omega) (by decide) rfl dX3_workOut_342 ?_
                    refine lv_if_eq (tgt := 368) hx hb dX3_workOut_343 (by decide) (fun c_343 => ?_) (fun c_343 => ?_)
                    · have c_343 : ((yFi Y1) i) = false := (bI_eq0 _).mp c_343
                      refine lv_aload_n hx hb dX3_workOut_368 rfl (lv_at hl 0 rfl) ?_
                      refine k_get (v := .int (nI (yHi Y1))) X hK inX3 rfl hP (wR_g G ((r.1, Y1)) (k := 0) (by decide)) 24 (by decide) tw_2_159 rfl dX3_workOut_369 ?_
                      refine k_put (v := .int (nI (yHi Y1))) X hK inX3 rfl tyX3_ok nmX3 hP (wR_D hL _) hS (wR_g G ((r.1, Y1)) (k := 0) (by decide)) 24 (by decide) tw_2_159 rfl rfl rfl (Nat.le_of_ble_eq_true rfl) ((r.1, wHi Y1 (yHi Y1))) (rs_Hi G ((r.1, Y1)) (yHi Y1)) dX3_workOut_372 (fun H locs hP hS => ?_)
                      refine lv_iinc (v := nI (i + 1)) (lv' := [(2, .int (nI (i + 1))), (0, .ref (gL G 0)), (1, .int (nI v))]) hx hb dX3_workOut_375 hl (k := 2) rfl (nI_add i 1) (by decide) rfl (fun ls hl => ?_)
                      refine lv_goto (tgt := 328) hx hb dX3_workOut_378 (by decide) ?_
                      exact ih_328 (mT r.1 - (i + 1)) (by omega) (i + 1) ((wHi Y1 (yHi Y1))) rfl (by omega) (wo3_keep hW (by omega) (fun h => by first | (rw [h] at c_343; exact absurd c_343 (by decide)) | omega)) (hs4) _ _ _ hP hS (lv_sub hl [1, 2, 0] rfl)
                    · have c_343 : ((yFi Y1) i) = true := (bI_ne0 _).mp c_343
                      refine lv_aload_n hx hb dX3_workOut_346 rfl (lv_at hl 0 rfl) ?_
                      refine k_get (v := .ref (gL G 7)) X hK inX3 rfl hP (wR_g G ((r.1, Y1)) (k := 0) (by decide)) 10 (by decide) tw_2_145 rfl dX3_workOut_347 ?_
                      refine lv_iload_n hx hb dX3_workOut_350 rfl (lv_at hl 2 rfl) ?_
                      refine k_ild (k := i) (v := nI (mHt r.1 i)) X hK hP (wR_g G ((r.1, Y1)) (k := 7) (by decide)) (by omega) (by decide) rfl dX3_workOut_351 ?_
                      refine lv_aload_n hx hb dX3_workOut_352 rfl (lv_at hl 0 rfl) ?_
                      refine k_get (v := .ref (gL G 7)) X hK inX3 rfl hP (wR_g G ((r.1, Y1)) (k := 0) (by decide)) 10 (by decide) tw_2_145 rfl dX3_workOut_353 ?_
                      refine lv_aload_n hx hb dX3_workOut_356 rfl (lv_at hl 0 rfl) ?_
                      refine k_get (v := .int (nI (yHi Y1))) X hK inX3 rfl hP (wR_g G ((r.1, Y1)) (k := 0) (by decide)) 24 (by decide) tw_2_159 rfl dX3_workOut_357 ?_
                      refine k_ild (k := (yHi Y1)) (v := nI (mHt r.1 (yHi Y1))) X hK hP (wR_g G ((r.1, Y1)) (k := 7) (by decide)) (by omega) (by decide) rfl dX3_workOut_360 ?_
                      refine lv_icmp_le (tgt := 368) hx hb dX3_workOut_361 (by decide) (fun c_361 => ?_) (fun c_361 => ?_)
                      · have c_361 : (mHt r.1 i) ≤ (mHt r.1 (yHi Y1)) := cLe c_361 (by omega) (by omega)
                        refine lv_aload_n hx hb dX3_workOut_368 rfl (lv_at hl 0 rfl) ?_
                        refine k_get (v := .int (nI (yHi Y1))) X hK inX3 rfl hP (wR_g G ((r.1, Y1)) (k := 0) (by decide)) 24 (by decide) tw_2_159 rfl dX3_workOut_369 ?_
                        refine k_put (v := .int (nI (yHi Y1))) X hK inX3 rfl tyX3_ok nmX3 hP (wR_D hL _) hS (wR_g G ((r.1, Y1)) (k := 0) (by decide)) 24 (by decide) tw_2_159 rfl rfl rfl (Nat.le_of_ble_eq_true rfl) ((r.1, wHi Y1 (yHi Y1))) (rs_Hi G ((r.1, Y1)) (yHi Y1)) dX3_workOut_372 (fun H locs hP hS => ?_)
                        refine lv_iinc (v := nI (i + 1)) (lv' := [(2, .int (nI (i + 1))), (0, .ref (gL G 0)), (1, .int (nI v))]) hx hb dX3_workOut_375 hl (k := 2) rfl (nI_add i 1) (by decide) rfl (fun ls hl => ?_)
                        refine lv_goto (tgt := 328) hx hb dX3_workOut_378 (by decide) ?_
                        exact ih_328 (mT r.1 - (i + 1)) (by omega) (i + 1) ((wHi Y1 (yHi Y1))) rfl (by omega) (wo3_keep hW (by omega) (fun h => by first | (rw [h] at c_343; exact absurd c_343 (by decide)) | omega)) (hs4) _ _ _ hP hS (lv_sub hl [1, 2, 0] rfl)
                      · have c_361 : (mHt r.1 (yHi Y1)) < (mHt r.1 i) := cNle c_361 (by omega) (by omega)
                        refine lv_iload_n hx hb dX3_workOut_364 rfl (lv_at hl 2 rfl) ?_
                        refine lv_goto (tgt := 372) hx hb dX3_workOut_365 (by decide) ?_
                        refine k_put (v := .int (nI i)) X hK inX3 rfl tyX3_ok nmX3 hP (wR_D hL _) hS (wR_g G ((r.1, Y1)) (k := 0) (by decide)) 24 (by decide) tw_2_159 rfl rfl rfl (Nat.le_of_ble_eq_true rfl) ((r.1, wHi Y1 i)) (rs_Hi G ((r.1, Y1)) i) dX3_workOut_372 (fun H locs hP hS => ?_)
                        refine lv_iinc (v := nI (i + 1)) (lv' := [(2, .int (nI (i + 1))), (0, .ref (gL G 0)), (1, .int (nI v))]) hx hb dX3_workOut_375 hl (k := 2) rfl (nI_add i 1) (by decide) rfl (fun ls hl => ?_)
                        refine lv_goto (tgt := 328) hx hb dX3_workOut_378 (by decide) ?_
                        exact ih_328 (mT r.1 - (i + 1)) (by omega) (i + 1) ((wHi Y1 i)) rfl (by omega) (wo3_take hW c_343 (by omega)) (hs4) _ _ _ hP hS (lv_sub hl [1, 2, 0] rfl)
              exact loop_328 _ 0 (wHi Y1 0) rfl (Nat.zero_le _) (wo3_0 hW (by omega)) (hs4) _ _ _ hP hS (lv_sub hl [1, 2, 0] rfl)
            · have c_218 : c0 < (mT r.1) := cNle c_218 (by omega) (by omega)
              have hc : c0 < mT r.1 := c_218
              refine lv_aload_n hx hb dX3_workOut_221 rfl (lv_at hl 0 rfl) ?_
              refine k_get (v := .ref (gL G 4)) X hK inX3 rfl hP (wR_g G ((r.1, Y1)) (k := 0) (by decide)) 7 (by decide) tw_2_142 rfl dX3_workOut_222 ?_
              refine lv_iload_n hx hb dX3_workOut_225 rfl (lv_at hl 2 rfl) ?_
              refine k_ild (k := c0) (v := eP (mPar r.1) c0) X hK hP (wR_g G ((r.1, Y1)) (k := 4) (by decide)) (by omega) (by decide) rfl dX3_workOut_226 ?_
              refine k_ti (eP_pos hc1) ?_
              have hpc := kPar c0 hc1
              obtain ⟨q, hq⟩ : ∃ q, mPar r.1 c0 = q := ⟨_, rfl⟩
              rw [hq] at hpc
              refine k_ti (congrArg nI hq) ?_
              have hEq := kEp q
              have hEc := kEp c0
              refine lv_istore_n (lv' := [(3, .int (nI q)), (0, .ref (gL G 0)), (1, .int (nI v)), (2, .int (nI c0))]) hx hb dX3_workOut_227 rfl hl (by decide) rfl (fun ls hl => ?_)
              refine lv_aload_n hx hb dX3_workOut_228 rfl (lv_at hl 1 rfl) ?_
              refine k_get (v := .ref (gL G 4)) X hK inX3 rfl hP (wR_g G ((r.1, Y1)) (k := 0) (by decide)) 7 (by decide) tw_2_142 rfl dX3_workOut_229 ?_
              refine lv_iload_n hx hb dX3_workOut_232 rfl (lv_at hl 0 rfl) ?_
              refine k_ild (k := q) (v := eP (mPar r.1) q) X hK hP (wR_g G ((r.1, Y1)) (k := 4) (by decide)) (by omega) (by decide) rfl dX3_workOut_233 ?_
              rcases Nat.eq_zero_or_pos q with hq0 | hq0
              · refine k_ti (show eP (mPar r.1) q = -1 by rw [hq0]; rfl) ?_
                refine lv_istore (lv' := [(4, .int (-1)), (3, .int (nI q)), (0, .ref (gL G 0)), (1, .int (nI v)), (2, .int (nI c0))]) hx hb dX3_workOut_234 hl (by decide) rfl (fun ls hl => ?_)
                refine lv_aload_n hx hb dX3_workOut_236 rfl (lv_at hl 2 rfl) ?_
                refine k_get (v := .ref (gL G 14)) X hK inX3 rfl hP (wR_g G ((r.1, Y1)) (k := 0) (by decide)) 20 (by decide) tw_2_155 rfl dX3_workOut_237 ?_
                refine lv_iload_n hx hb dX3_workOut_240 rfl (lv_at hl 4 rfl) ?_
                refine k_zld (k := c0) (v := bI ((yNo Y1) c0)) X hK hP (wR_g G ((r.1, Y1)) (k := 14) (by decide)) (by omega) (by decide) rfl dX3_workOut_241 ?_
                refine lv_if_eq (tgt := 315) hx hb dX3_workOut_242 (by decide) (fun c_242 => ?_) (fun c_242 => ?_)
                · have c_242 : ((yNo Y1) c0) = false := (bI_eq0 _).mp c_242
                  exact join_315 Y1 (hc) (wo2_skip hW (fun ⟨h1, h2⟩ => by first | (rw [h1] at c_242; exact absurd c_242 (by decide)) | (have h3 := (isThree_iff _ _ _).mp h2; rw [hq] at h3; omega))) (hs4) _ _ _ hP hS (lv_sub hl [2, 3, 4] rfl)
                · have c_242 : ((yNo Y1) c0) = true := (bI_ne0 _).mp c_242
                  refine lv_iload hx hb dX3_workOut_245 (lv_at hl 0 rfl) ?_
                  refine lv_iconst (v := -1) hx hb dX3_workOut_247 (by decide) ?_
                  refine lv_icmp_eq (tgt := 315) hx hb dX3_workOut_248 (by decide) (fun c_248 => ?_) (fun c_248 => ?_)
                  · exact join_315 Y1 (hc) (wo2_skip hW (fun ⟨h1, h2⟩ => by first | (rw [h1] at c_242; exact absurd c_242 (by decide)) | (have h3 := (isThree_iff _ _ _).mp h2; rw [hq] at h3; omega))) (hs4) _ _ _ hP hS (lv_sub hl [2, 3, 4] rfl)
                  · exact absurd rfl c_248
              · refine k_ti (eP_pos hq0) ?_
                have hpq := kPar q hq0
                have hEg := kEp (mPar r.1 q)
                refine lv_istore (lv' := [(4, .int (nI (mPar r.1 q))), (3, .int (nI q)), (0, .ref (gL G 0)), (1, .int (nI v)), (2, .int (nI c0))]) hx hb dX3_workOut_234 hl (by decide) rfl (fun ls hl => ?_)
                refine lv_aload_n hx hb dX3_workOut_236 rfl (lv_at hl 2 rfl) ?_
                refine k_get (v := .ref (gL G 14)) X hK inX3 rfl hP (wR_g G ((r.1, Y1)) (k := 0) (by decide)) 20 (by decide) tw_2_155 rfl dX3_workOut_237 ?_
                refine lv_iload_n hx hb dX3_workOut_240 rfl (lv_at hl 4 rfl) ?_
                refine k_zld (k := c0) (v := bI ((yNo Y1) c0)) X hK hP (wR_g G ((r.1, Y1)) (k := 14) (by decide)) (by omega) (by decide) rfl dX3_workOut_241 ?_
                refine lv_if_eq (tgt := 315) hx hb dX3_workOut_242 (by decide) (fun c_242 => ?_) (fun c_242 => ?_)
                · have c_242 : ((yNo Y1) c0) = false := (bI_eq0 _).mp c_242
                  exact join_315 Y1 (hc) (wo2_skip hW (fun ⟨h1, h2⟩ => by first | (rw [h1] at c_242; exact absurd c_242 (by decide)) | (have h3 := (isThree_iff _ _ _).mp h2; rw [hq] at h3; omega))) (hs4) _ _ _ hP hS (lv_sub hl [2, 3, 4] rfl)
                · have c_242 : ((yNo Y1) c0) = true := (bI_ne0 _).mp c_242
                  refine lv_iload hx hb dX3_workOut_245 (lv_at hl 0 rfl) ?_
                  refine lv_iconst (v := -1) hx hb dX3_workOut_247 (by decide) ?_
                  refine lv_icmp_eq (tgt := 315) hx hb dX3_workOut_248 (by decide) (fun c_248 => ?_) (fun c_248 => ?_)
                  · exact absurd c_248 (m1_ne (by omega))
                  · refine lv_aload_n hx hb dX3_workOut_251 rfl (lv_at hl 2 rfl) ?_
                    refine k_get (v := .ref (gL G 5)) X hK inX3 rfl hP (wR_g G ((r.1, Y1)) (k := 0) (by decide)) 8 (by decide) tw_2_143 rfl dX3_workOut_252 ?_
                    refine lv_iload_n hx hb dX3_workOut_255 rfl (lv_at hl 1 rfl) ?_
                    refine k_ild (k := q) (v := nI (mEp r.1 q)) X hK hP (wR_g G ((r.1, Y1)) (k := 5) (by decide)) (by omega) (by decide) rfl dX3_workOut_256 ?_
                    refine lv_aload_n hx hb dX3_workOut_257 rfl (lv_at hl 2 rfl) ?_
                    refine k_get (v := .ref (gL G 5)) X hK inX3 rfl hP (wR_g G ((r.1, Y1)) (k := 0) (by decide)) 8 (by decide) tw_2_143 rfl dX3_workOut_258 ?_
                    refine lv_iload hx hb dX3_workOut_261 (lv_at hl 0 rfl) ?_
                    refine k_ild (k := (mPar r.1 q)) (v := nI (mEp r.1 (mPar r.1 q))) X hK hP (wR_g G ((r.1, Y1)) (k := 5) (by decide)) (by omega) (by decide) rfl dX3_workOut_263 ?_
                    refine lv_iconst (v := nI 1) hx hb dX3_workOut_264 (by decide) ?_
                    refine lv_iadd hx hb dX3_workOut_265 ?_
                    refine k_ti (nI_add (mEp r.1 (mPar r.1 q)) 1) ?_
                    refine lv_icmp_ne (tgt := 315) hx hb dX3_workOut_266 (by decide) (fun c_266 => ?_) (fun c_266 => ?_)
                    · have c_266 : (mEp r.1 q) ≠ ((mEp r.1 (mPar r.1 q)) + 1) := cNe c_266 (by omega) (by omega)
                      exact join_315 Y1 (hc) (wo2_skip hW (fun ⟨h1, h2⟩ => by first | (rw [h1] at c_242; exact absurd c_242 (by decide)) | (have h3 := (isThree_iff _ _ _).mp h2; rw [hq] at h3; omega))) (hs4) _ _ _ hP hS (lv_sub hl [2, 3, 4] rfl)
                    · have c_266 : (mEp r.1 q) = ((mEp r.1 (mPar r.1 q)) + 1) := cEq c_266 (by omega) (by omega)
                      refine lv_aload_n hx hb dX3_workOut_269 rfl (lv_at hl 2 rfl) ?_
                      refine k_get (v := .ref (gL G 5)) X hK inX3 rfl hP (wR_g G ((r.1, Y1)) (k := 0) (by decide)) 8 (by decide) tw_2_143 rfl dX3_workOut_270 ?_
                      refine lv_iload_n hx hb dX3_workOut_273 rfl (lv_at hl 4 rfl) ?_
                      refine k_ild (k := c0) (v := nI (mEp r.1 c0)) X hK hP (wR_g G ((r.1, Y1)) (k := 5) (by decide)) (by omega) (by decide) rfl dX3_workOut_274 ?_
                      refine lv_aload_n hx hb dX3_workOut_275 rfl (lv_at hl 2 rfl) ?_
                      refine k_get (v := .ref (gL G 5)) X hK inX3 rfl hP (wR_g G ((r.1, Y1)) (k := 0) (by decide)) 8 (by decide) tw_2_143 rfl dX3_workOut_276 ?_
                      refine lv_iload_n hx hb dX3_workOut_279 rfl (lv_at hl 1 rfl) ?_
                      refine k_ild (k := q) (v := nI (mEp r.1 q)) X hK hP (wR_g G ((r.1, Y1)) (k := 5) (by decide)) (by omega) (by decide) rfl dX3_workOut_280 ?_
                      refine lv_iconst (v := nI 1) hx hb dX3_workOut_281 (by decide) ?_
                      refine lv_iadd hx hb dX3_workOut_282 ?_
                      refine k_ti (nI_add (mEp r.1 q) 1) ?_
                      refine lv_icmp_ne (tgt := 315) hx hb dX3_workOut_283 (by decide) (fun c_283 => ?_) (fun c_283 => ?_)
                      · have c_283 : (mEp r.1 c0) ≠ ((mEp r.1 q) + 1) := cNe c_283 (by omega) (by omega)
                        exact join_315 Y1 (hc) (wo2_skip hW (fun ⟨h1, h2⟩ => by first | (rw [h1] at c_242; exact absurd c_242 (by decide)) | (have h3 := (isThree_iff _ _ _).mp h2; rw [hq] at h3; omega))) (hs4) _ _ _ hP hS (lv_sub hl [2, 3, 4] rfl)
                      · have c_283 : (mEp r.1 c0) = ((mEp r.1 q) + 1) := cEq c_283 (by omega) (by omega)
                        have h3 : isThree r.1 c0 (mPar r.1 c0) = true := (isThree_iff _ _ _).mpr (by rw [hq]; omega)
                        refine lv_iload_n hx hb dX3_workOut_286 rfl (lv_at hl 1 rfl) ?_
                        refine lv_istore (lv' := [(5, .int (nI q)), (4, .int (nI (mPar r.1 q))), (3, .int (nI q)), (0, .ref (gL G 0)), (1, .int (nI v)), (2, .int (nI c0))]) hx hb dX3_workOut_287 hl (by decide) rfl (fun ls hl => ?_)
                        have loop_289 : ∀ (d_289 : Nat) (k : Nat) (f1 : Nat → Bool), k = d_289 → (k < mT r.1) → (∀ b, (f1 b || ch k b) = (yFi Y1 b || ch (mPar r.1 c0) b)) → ∀ (H : Heap) (locs : List Loc) (ls : Array Slot), va_P (gD G) vwCl ((wR G) ((r.1, wFi Y1 f1))) H → va_S (AR G) s.heap H locs → lv_has ls 6 [(0, .ref (gL G 0)), (1, .int (nI v)), (2, .int (nI c0)), (5, .int (nI k))] → W p l e ({ frames := 2, cells := 0, slots := 0, locals := 45 } : Room) s m ([.ref (gL G 0), .int (nI v)] : List Value).toArray below meth c H locs 0 0 (MQ below (va_Qv (fun u' => u'.1 = r.1 ∧ same4 u'.2 r.2 ∧ DV (gn G) r.1 ch v (yKn u'.2) (yNo u'.2) (yFi u'.2) (yTp u'.2) (yHi u'.2) ∧ yRc u'.2 = mHt r.1 (yTp u'.2)) (KB G (wR G)) (AR G)) ([.ref (gL G 0), .int (nI v)] : List Value).toArray s 0 0 (AR G)) (F0 m 289 ls []) := by
                          intro d_289
                          induction d_289 using Nat.strongRecOn with
                          | ind d_289 ih_289 =>
                            intro k f1 hd_289 hkT hfin H locs ls hP hS hl
                            refine lv_iload hx hb dX3_workOut_289 (lv_at hl 3 rfl) ?_
                            refine lv_iconst (v := -1) hx hb dX3_workOut_291 (by decide) ?_
                            refine lv_icmp_eq (tgt := 315) hx hb dX3_workOut_292 (by decide) (fun c_292 => ?_) (fun c_292 => ?_)
                            · exact absurd c_292 (m1_ne (by omega))
                            · refine lv_aload_n hx hb dX3_workOut_295 rfl (lv_at hl 0 rfl) ?_
                              refine k_get (v := .ref (gL G 15)) X hK inX3 rfl hP (wR_g G ((r.1, wFi Y1 f1)) (k := 0) (by decide)) 21 (by decide) tw_2_156 rfl dX3_workOut_296 ?_
                              refine lv_iload hx hb dX3_workOut_299 (lv_at hl 3 rfl) ?_
                              refine lv_iconst (v := nI 1) hx hb dX3_workOut_301 (by decide) ?_
                              refine k_ti (show nI 1 = bI true from rfl) ?_
                              refine k_zst (k := k) (x := bI true) X hK hP (wR_D hL _) hS (wR_g G ((r.1, wFi Y1 f1)) (k := 15) (by decide)) (by omega) (by decide) (bI_vnar _) ((r.1, wFi (wFi Y1 f1) (va_up (f1) k true))) (rs_Fi G ((r.1, wFi Y1 f1)) k true) dX3_workOut_302 (fun H locs hP hS => ?_)
                              refine lv_aload_n hx hb dX3_workOut_303 rfl (lv_at hl 0 rfl) ?_
                              refine k_get (v := .ref (gL G 4)) X hK inX3 rfl hP (wR_g G ((r.1, wFi (wFi Y1 f1) (va_up (f1) k true))) (k := 0) (by decide)) 7 (by decide) tw_2_142 rfl dX3_workOut_304 ?_
                              refine lv_iload hx hb dX3_workOut_307 (lv_at hl 3 rfl) ?_
                              refine k_ild (k := k) (v := eP (mPar r.1) k) X hK hP (wR_g G ((r.1, wFi (wFi Y1 f1) (va_up (f1) k true))) (k := 4) (by decide)) (by omega) (by decide) rfl dX3_workOut_309 ?_
                              rcases Nat.eq_zero_or_pos k with hk0 | hk0
                              · refine k_ti (show eP (mPar r.1) k = -1 by rw [hk0]; rfl) ?_
                                refine lv_istore (lv' := [(5, .int (-1)), (0, .ref (gL G 0)), (1, .int (nI v)), (2, .int (nI c0))]) hx hb dX3_workOut_310 hl (by decide) rfl (fun ls hl => ?_)
                                refine lv_goto (tgt := 289) hx hb dX3_workOut_312 (by decide) ?_
                                refine lv_iload hx hb dX3_workOut_289 (lv_at hl 0 rfl) ?_
                                refine lv_iconst (v := -1) hx hb dX3_workOut_291 (by decide) ?_
                                refine lv_icmp_eq (tgt := 315) hx hb dX3_workOut_292 (by decide) (fun c_292 => ?_) (fun c_292 => ?_)
                                · have hfin : ∀ b, va_up f1 k true b = (yFi Y1 b || ch (mPar r.1 c0) b) := fun b => by
                                    rw [← hfin b, hch k b hkT]
                                    by_cases e : b = k
                                    · simp [va_up, e]
                                    · rw [va_up_ne _ _ e, decide_eq_false e, show decide (k ≠ 0) = false by simp [hk0]]; simp
                                  exact join_315 (wFi Y1 (va_up f1 k true)) (hc) (wo2_take hW hc1 c_242 h3 (fun b => by have := hfin b; simpa [chK] using this)) (hs4) _ _ _ hP hS (lv_sub hl [1, 2, 3] rfl)
                                · exact absurd rfl c_292
                              · refine k_ti (eP_pos hk0) ?_
                                have hpk := kPar k hk0
                                refine lv_istore (lv' := [(5, .int (nI (mPar r.1 k))), (0, .ref (gL G 0)), (1, .int (nI v)), (2, .int (nI c0))]) hx hb dX3_workOut_310 hl (by decide) rfl (fun ls hl => ?_)
                                refine lv_goto (tgt := 289) hx hb dX3_workOut_312 (by decide) ?_
                                exact ih_289 ((mPar r.1 k)) (by omega) (mPar r.1 k) (va_up f1 k true) rfl (by omega) (fun b => by
                                  rw [← hfin b, hch k b hkT]
                                  by_cases e : b = k
                                  · simp [va_up, e]
                                  · simp [va_up, e, Nat.ne_of_gt hk0]) _ _ _ hP hS (lv_sub hl [1, 2, 3, 0] rfl)
                        exact loop_289 _ q (yFi Y1) rfl (by omega) (by rw [hq]; exact fun _ => rfl) _ _ _ hP hS (lv_sub hl [3, 4, 5, 0] rfl)
        exact loop_213 _ 1 Y1 rfl (Nat.succ_pos _) (kT1) (wo2_0 kT1 (by rw [show mT r.1 = i by omega]; exact hW)) (hs4) _ _ _ hP hS (lv_sub hl [1, 2, 0] rfl)
      · have c_17 : i < (mT r.1) := cNle c_17 (by omega) (by omega)
        have hi : i < mT r.1 := c_17
        refine lv_aload_n hx hb dX3_workOut_20 rfl (lv_at hl 0 rfl) ?_
        refine k_get (v := .ref (gL G 13)) X hK inX3 rfl hP (wR_g G ((r.1, Y1)) (k := 0) (by decide)) 19 (by decide) tw_2_154 rfl dX3_workOut_21 ?_
        refine lv_iload_n hx hb dX3_workOut_24 rfl (lv_at hl 2 rfl) ?_
        refine lv_iload_n hx hb dX3_workOut_25 rfl (lv_at hl 2 rfl) ?_
        refine lv_if_eq (tgt := 61) hx hb dX3_workOut_26 (by decide) (fun c_26 => ?_) (fun c_26 => ?_)
        · have c_26 : i = 0 := czEq c_26 (by omega) (by omega)
          have hi0 : i = 0 := c_26
          refine lv_iconst (v := nI 1) hx hb dX3_workOut_61 (by decide) ?_
          refine lv_goto (tgt := 66) hx hb dX3_workOut_62 (by decide) ?_
          refine k_ti (show nI 1 = bI true from rfl) ?_
          refine k_zst (k := i) (x := bI true) X hK hP (wR_D hL _) hS (wR_g G ((r.1, Y1)) (k := 13) (by decide)) (by omega) (by decide) (bI_vnar _) ((r.1, wKn Y1 (va_up (yKn Y1) i true))) (rs_Kn G ((r.1, Y1)) i true) dX3_workOut_66 (fun H locs hP hS => ?_)
          exact join_67 true (hi) (by first | (rw [KV, hi0]; rfl) | (rw [KV, c_44, c_58, Bool.and_self, Bool.or_true])) _ _ _ hP hS (lv_sub hl [0, 1, 2] rfl)
        · have c_26 : i ≠ 0 := czNe c_26 (by omega) (by omega)
          have hi0 : 0 < i := Nat.pos_of_ne_zero c_26
          have hpi := kPar i hi0
          refine lv_aload_n hx hb dX3_workOut_29 rfl (lv_at hl 0 rfl) ?_
          refine k_get (v := .ref (gL G 9)) X hK inX3 rfl hP (wR_g G ((r.1, Y1)) (k := 0) (by decide)) 12 (by decide) tw_2_147 rfl dX3_workOut_30 ?_
          refine lv_bipush (v := nI 10) hx hb dX3_workOut_33 (by decide) ?_
          refine lv_iload_n hx hb dX3_workOut_35 rfl (lv_at hl 2 rfl) ?_
          refine lv_iconst (v := -1) hx hb dX3_workOut_36 (by decide) ?_
          refine k_ci (k_runS (As := [.int (nI i), .int (-1)]) (rest := [.int (nI 10), .ref (gL G 9), .int (nI i), .ref (gL G 13)]) X hK hP (m3_letterN l G (AR G) (wR G) ((r.1, Y1)) i) ⟨rfl, rfl⟩ tw_3_10 tw_3_11 tw_1_6 tw_3_12 ⟨by decide +kernel, by decide +kernel, (by decide +kernel : (parseMethodDescriptor yX3_letter.desc).map (fun d => d.parameters.length) = some 2)⟩ ⟨Nat.le_of_ble_eq_true rfl, Nat.le_of_ble_eq_true rfl⟩ hl.1 rfl (Nat.le_of_ble_eq_true rfl) ⟨Nat.zero_le _, Nat.zero_le _⟩ dX3_workOut_37) hS (fun r_37 u_37 H locs hq_37 hP hS => ?_)
          have hP := k_su hq_37.2 hP
          refine k_ti hq_37.1 ?_
          refine lv_imul hx hb dX3_workOut_40 ?_
          refine k_ti (pk_mul 10 (11 * i)) ?_
          refine lv_iload_n hx hb dX3_workOut_41 rfl (lv_at hl 1 rfl) ?_
          refine lv_iadd hx hb dX3_workOut_42 ?_
          refine k_ti (nI_add (10 * (11 * i)) v) ?_
          refine k_zld (k := 10 * (11 * i) + v) (v := bI (mHs r.1 (11 * i) v)) X hK hP (wR_g G ((r.1, Y1)) (k := 9) (by decide)) (by omega) (by decide) (f10_at _ (show v < 10 by omega)) dX3_workOut_43 ?_
          refine lv_if_eq (tgt := 65) hx hb dX3_workOut_44 (by decide) (fun c_44 => ?_) (fun c_44 => ?_)
          · have c_44 : (mHs r.1 (11 * i) v) = false := (bI_eq0 _).mp c_44
            refine lv_iconst (v := nI 0) hx hb dX3_workOut_65 (by decide) ?_
            refine k_ti (show nI 0 = bI false from rfl) ?_
            refine k_zst (k := i) (x := bI false) X hK hP (wR_D hL _) hS (wR_g G ((r.1, Y1)) (k := 13) (by decide)) (by omega) (by decide) (bI_vnar _) ((r.1, wKn Y1 (va_up (yKn Y1) i false))) (rs_Kn G ((r.1, Y1)) i false) dX3_workOut_66 (fun H locs hP hS => ?_)
            exact join_67 false (hi) (by first | (rw [KV, decide_eq_false (Nat.ne_of_gt hi0), c_44]; rfl) | (rw [KV, decide_eq_false (Nat.ne_of_gt hi0), c_58, Bool.and_false]; rfl)) _ _ _ hP hS (lv_sub hl [0, 1, 2] rfl)
          · have c_44 : (mHs r.1 (11 * i) v) = true := (bI_ne0 _).mp c_44
            refine lv_aload_n hx hb dX3_workOut_47 rfl (lv_at hl 0 rfl) ?_
            refine k_get (v := .ref (gL G 13)) X hK inX3 rfl hP (wR_g G ((r.1, Y1)) (k := 0) (by decide)) 19 (by decide) tw_2_154 rfl dX3_workOut_48 ?_
            refine lv_aload_n hx hb dX3_workOut_51 rfl (lv_at hl 0 rfl) ?_
            refine k_get (v := .ref (gL G 4)) X hK inX3 rfl hP (wR_g G ((r.1, Y1)) (k := 0) (by decide)) 7 (by decide) tw_2_142 rfl dX3_workOut_52 ?_
            refine lv_iload_n hx hb dX3_workOut_55 rfl (lv_at hl 2 rfl) ?_
            refine k_ild (k := i) (v := eP (mPar r.1) i) X hK hP (wR_g G ((r.1, Y1)) (k := 4) (by decide)) (by omega) (by decide) rfl dX3_workOut_56 ?_
            refine k_ti (eP_pos hi0) ?_
            refine k_zld (k := (mPar r.1 i)) (v := bI ((yKn Y1) (mPar r.1 i))) X hK hP (wR_g G ((r.1, Y1)) (k := 13) (by decide)) (by omega) (by decide) rfl dX3_workOut_57 ?_
            refine lv_if_eq (tgt := 65) hx hb dX3_workOut_58 (by decide) (fun c_58 => ?_) (fun c_58 => ?_)
            · have c_58 : ((yKn Y1) (mPar r.1 i)) = false := (bI_eq0 _).mp c_58
              refine lv_iconst (v := nI 0) hx hb dX3_workOut_65 (by decide) ?_
              refine k_ti (show nI 0 = bI false from rfl) ?_
              refine k_zst (k := i) (x := bI false) X hK hP (wR_D hL _) hS (wR_g G ((r.1, Y1)) (k := 13) (by decide)) (by omega) (by decide) (bI_vnar _) ((r.1, wKn Y1 (va_up (yKn Y1) i false))) (rs_Kn G ((r.1, Y1)) i false) dX3_workOut_66 (fun H locs hP hS => ?_)
              exact join_67 false (hi) (by first | (rw [KV, decide_eq_false (Nat.ne_of_gt hi0), c_44]; rfl) | (rw [KV, decide_eq_false (Nat.ne_of_gt hi0), c_58, Bool.and_false]; rfl)) _ _ _ hP hS (lv_sub hl [0, 1, 2] rfl)
            · have c_58 : ((yKn Y1) (mPar r.1 i)) = true := (bI_ne0 _).mp c_58
              refine lv_iconst (v := nI 1) hx hb dX3_workOut_61 (by decide) ?_
              refine lv_goto (tgt := 66) hx hb dX3_workOut_62 (by decide) ?_
              refine k_ti (show nI 1 = bI true from rfl) ?_
              refine k_zst (k := i) (x := bI true) X hK hP (wR_D hL _) hS (wR_g G ((r.1, Y1)) (k := 13) (by decide)) (by omega) (by decide) (bI_vnar _) ((r.1, wKn Y1 (va_up (yKn Y1) i true))) (rs_Kn G ((r.1, Y1)) i true) dX3_workOut_66 (fun H locs hP hS => ?_)
              exact join_67 true (hi) (by first | (rw [KV, hi0]; rfl) | (rw [KV, c_44, c_58, Bool.and_self, Bool.or_true])) _ _ _ hP hS (lv_sub hl [0, 1, 2] rfl)
  exact loop_12 _ 0 (wTp (wRc r.2 0) 0) rfl (Nat.zero_le _) (⟨fun b h => absurd h (Nat.not_lt_zero _), fun b h => absurd h (Nat.not_lt_zero _), fun b h => absurd h (Nat.not_lt_zero _), (Nat.le_zero.mp (kHt 0)).symm, Or.inl ⟨rfl, rfl⟩⟩) (⟨rfl, rfl, rfl, rfl⟩) _ _ _ hP hS (lv_sub hl [1, 2, 0] rfl)
