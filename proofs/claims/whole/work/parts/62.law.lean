set_option maxHeartbeats 4000000 in
set_option maxRecDepth 100000 in
theorem law_loop {p : Program} {l : Launch} {e : Env} {s : State} {m : MethodId} {below : List Frame} {meth : Method} {c : Code} {b L n : Nat} {xs : Nat → Int32} {G0 : kG} {L1 L2 : Nat → Nat} (hL : L ≤ 3073) (C0 : lw_At p s m meth c b L xs) (hK : kC G0 s) (hF : lwF G0 L1 L2 n s) :
    ∀ (d i : Nat) (u : CS) (Y : YS), L + 7 - i = d → 1 ≤ i → i ≤ L + 6 → Inv (kL G0 L1 n) u → InvY n u.1 Y → ∀ (H : Heap) (locs : List Loc) (ls : Array Slot), va_P (gD G0) vwCl (wC (kL G0 L1 n) u) H → va_P (gD G0) vwCl (wR (kL G0 L2 n) (u.1, Y)) H → va_S (fun q : Nat => s.heap.size ≤ q) s.heap H locs → lv_has ls 4 [(3, .int (nI i)), (2, .ref (L2 0)), (1, .ref (L1 0)), (0, .ref b)] → W p l e room_1 s m #[Value.ref b] below meth c H locs 79 18440 (lw_Z below #[Value.ref b] s) (F0 m 28 ls []) := by
  obtain ⟨hx, hb, hr, hml, hown, hts, hX, hbl, hlocks, hgv⟩ := C0
  have X : CallFix p m c cL_law 4 s #[Value.ref b] WL RL := ⟨hx, hb, hml, hown, fun w h => hts w (WL_tbl h)⟩
  have hbA : ¬ (fun q : Nat => s.heap.size ≤ q) b := Nat.not_le.mpr hbl
  intro d
  induction d using Nat.strongRecOn with
  | ind d ih =>
    intro i u Y hd hi1 hi6 hI hY H locs ls h1 h2 hS hl
    refine lv_iload_n hx hb dL_law_28 rfl (lv_at hl 0 rfl) ?_
    refine lv_aload_n hx hb dL_law_29 rfl (lv_at hl 3 rfl) ?_
    refine va_slen hx hb hX hbl hbA hS dL_law_30 ?_
    refine lv_bipush (v := nI 6) hx hb dL_law_31 (by decide) ?_
    refine lv_isub hx hb dL_law_33 ?_
    refine k_ti (y := nI L - nI 6) rfl ?_
    refine lv_icmp_gt (tgt := 735) hx hb dL_law_34 (by decide) (fun c_34 => ?_) (fun c_34 => ?_)
    · refine lv_iconst (v := 1) hx hb dL_law_735 (by decide) ?_
      refine va_forget (fun q hq => hS.2.2 q hq) ?_
      refine W.widen (k := 600000) (n := 7302250) (Nat.le_of_ble_eq_true rfl) (Nat.le_of_ble_eq_true rfl) ?_
      exact lw_ret hx hb hr hlocks dL_law_736
    have c_34 : i + 6 ≤ L := Nat.le_of_not_lt fun h => c_34 ((lw_gt hL (by omega)).mpr h)
    have next : ∀ (u1 : CS) (Y1 : YS) (H : Heap) (locs : List Loc), Inv (kL G0 L1 n) u1 → InvY n u1.1 Y1 → va_P (gD G0) vwCl (wC (kL G0 L1 n) u1) H → va_P (gD G0) vwCl (wR (kL G0 L2 n) (u1.1, Y1)) H → va_S (fun q : Nat => s.heap.size ≤ q) s.heap H locs → W p l e room_1 s m #[Value.ref b] below meth c H locs 79 18440 (lw_Z below #[Value.ref b] s) (F0 m 729 ls []) := by
      intro u1 Y1 H locs hI1 hY1 g1 g2 hS
      refine lv_iinc (v := nI (i + 6)) (lv' := [(3, .int (nI (i + 6))), (2, .ref (L2 0)), (1, .ref (L1 0)), (0, .ref b)]) hx hb dL_law_729 hl (k := 0) rfl (nI_add i 6) (by decide) rfl (fun ls hl => ?_)
      refine lv_goto (tgt := 28) hx hb dL_law_732 (by decide) ?_
      exact ih (L + 7 - (i + 6)) (by omega) (i + 6) u1 Y1 rfl (by omega) (by omega) hI1 hY1 _ _ _ g1 g2 hS hl
    refine lv_aload_n hx hb dL_law_37 rfl (lv_at hl 3 rfl) ?_
    refine lv_iload_n hx hb dL_law_38 rfl (lv_at hl 0 rfl) ?_
    refine va_sld hx hb hX hbl hbA hS (vp_in_nI (show i < L by omega) (by omega)) dL_law_39 ?_
    refine k_ti (congrArg xs (nI_clamp (n := i) (by omega))) ?_
    refine lv_bipush (v := nI 31) hx hb dL_law_40 (by decide) ?_
    refine lv_iand hx hb dL_law_42 ?_
    rcases ix3 (xs i &&& nI 31) 19 (by decide) with ⟨j, hj, hxj⟩ | hxj
    · refine k_ti hxj ?_
      rcases (show j = 0 ∨ j = 1 ∨ j = 2 ∨ j = 3 ∨ j = 4 ∨ j = 5 ∨ j = 6 ∨ j = 7 ∨ j = 8 ∨ j = 9 ∨ j = 10 ∨ j = 11 ∨ j = 12 ∨ j = 13 ∨ j = 14 ∨ j = 15 ∨ j = 16 ∨ j = 17 ∨ j = 18 by omega) with rfl | rfl | rfl | rfl | rfl | rfl | rfl | rfl | rfl | rfl | rfl | rfl | rfl | rfl | rfl | rfl | rfl | rfl | rfl
      · refine lv_tableIn (off := 89) (tgt := 132) hx hb dL_law_43 (by decide) (by decide) (by decide +kernel) (by decide) ?_
        refine lv_aload_n hx hb dL_law_132 rfl (lv_at hl 2 rfl) ?_
        refine lv_aload_n hx hb dL_law_133 rfl (lv_at hl 3 rfl) ?_
        refine lv_iload_n hx hb dL_law_134 rfl (lv_at hl 0 rfl) ?_
        refine lv_iconst (v := nI 1) hx hb dL_law_135 (by decide) ?_
        refine lv_iadd hx hb dL_law_136 ?_
        refine k_ti (nI_add i 1) ?_
        refine va_sld hx hb hX hbl hbA hS (vp_in_nI (show i + 1 < L by omega) (by omega)) dL_law_137 ?_
        refine k_ti (congrArg xs (nI_clamp (n := i + 1) (by omega))) ?_
        refine lv_aload_n hx hb dL_law_138 rfl (lv_at hl 3 rfl) ?_
        refine lv_iload_n hx hb dL_law_139 rfl (lv_at hl 0 rfl) ?_
        refine lv_iconst (v := nI 2) hx hb dL_law_140 (by decide) ?_
        refine lv_iadd hx hb dL_law_141 ?_
        refine k_ti (nI_add i 2) ?_
        refine va_sld hx hb hX hbl hbA hS (vp_in_nI (show i + 2 < L by omega) (by omega)) dL_law_142 ?_
        refine k_ti (congrArg xs (nI_clamp (n := i + 2) (by omega))) ?_
        refine lawC (w := pLead n u (xs (i + 1)) (xs (i + 2))) (As := [.int (xs (i + 1)), .int (xs (i + 2))]) (rest := []) X hK hF h1 h2 hS rfl (m2_lead l (kL G0 L1 n) u hF.1 hI.1.1 (xs (i + 1)) (xs (i + 2))) ⟨rfl, rfl⟩ tw_1_158 tw_1_159 tw_1_160 tw_1_1 tw_1_161 ⟨by decide +kernel, by decide +kernel, (by decide +kernel : (parseMethodDescriptor yX2_lead.desc).map (fun d => d.parameters.length) = some 2)⟩ ⟨Nat.le_of_ble_eq_true rfl, Nat.le_of_ble_eq_true rfl⟩ hl.1 rfl (Nat.le_of_ble_eq_true rfl) ⟨Nat.le_of_ble_eq_true rfl, Nat.le_of_ble_eq_true rfl⟩ dL_law_143 (fun H locs h1 h2 hS => ?_)
        refine lv_aload_n hx hb dL_law_146 rfl (lv_at hl 1 rfl) ?_
        refine lv_aload_n hx hb dL_law_147 rfl (lv_at hl 3 rfl) ?_
        refine lv_iload_n hx hb dL_law_148 rfl (lv_at hl 0 rfl) ?_
        refine lv_iconst (v := nI 1) hx hb dL_law_149 (by decide) ?_
        refine lv_iadd hx hb dL_law_150 ?_
        refine k_ti (nI_add i 1) ?_
        refine va_sld hx hb hX hbl hbA hS (vp_in_nI (show i + 1 < L by omega) (by omega)) dL_law_151 ?_
        refine k_ti (congrArg xs (nI_clamp (n := i + 1) (by omega))) ?_
        refine lv_aload_n hx hb dL_law_152 rfl (lv_at hl 3 rfl) ?_
        refine lv_iload_n hx hb dL_law_153 rfl (lv_at hl 0 rfl) ?_
        refine lv_iconst (v := nI 2) hx hb dL_law_154 (by decide) ?_
        refine lv_iadd hx hb dL_law_155 ?_
        refine k_ti (nI_add i 2) ?_
        refine va_sld hx hb hX hbl hbA hS (vp_in_nI (show i + 2 < L by omega) (by omega)) dL_law_156 ?_
        refine k_ti (congrArg xs (nI_clamp (n := i + 2) (by omega))) ?_
        refine lawR (w := pLead n u (xs (i + 1)) (xs (i + 2))) (As := [.int (xs (i + 1)), .int (xs (i + 2))]) (rest := [.int (pLead n u (xs (i + 1)) (xs (i + 2))).1]) X hK hF h1 h2 hS rfl (m3_lead l (kL G0 L2 n) u Y hF.2.1 hI hY (xs (i + 1)) (xs (i + 2))) ⟨rfl, rfl⟩ tw_2_218 tw_2_219 tw_2_220 tw_1_6 tw_2_221 ⟨by decide +kernel, by decide +kernel, (by decide +kernel : (parseMethodDescriptor yX3_lead.desc).map (fun d => d.parameters.length) = some 2)⟩ ⟨Nat.le_of_ble_eq_true rfl, Nat.le_of_ble_eq_true rfl⟩ hl.1 rfl (Nat.le_of_ble_eq_true rfl) ⟨Nat.le_of_ble_eq_true rfl, Nat.le_of_ble_eq_true rfl⟩ dL_law_157 (fun Y1 H locs hY1 h1 h2 hS => ?_)
        refine lv_icmp_eq (tgt := 729) hx hb dL_law_160 (by decide) (fun _ => ?_) (fun c => absurd rfl c)
        exact next _ Y1 H locs (pLead_inv (G := kL G0 L1 n) hI (xs (i + 1)) (xs (i + 2))) hY1 h1 h2 hS
      · refine lv_tableIn (off := 122) (tgt := 165) hx hb dL_law_43 (by decide) (by decide) (by decide +kernel) (by decide) ?_
        refine lv_aload_n hx hb dL_law_165 rfl (lv_at hl 2 rfl) ?_
        refine lv_aload_n hx hb dL_law_166 rfl (lv_at hl 3 rfl) ?_
        refine lv_iload_n hx hb dL_law_167 rfl (lv_at hl 0 rfl) ?_
        refine lv_iconst (v := nI 1) hx hb dL_law_168 (by decide) ?_
        refine lv_iadd hx hb dL_law_169 ?_
        refine k_ti (nI_add i 1) ?_
        refine va_sld hx hb hX hbl hbA hS (vp_in_nI (show i + 1 < L by omega) (by omega)) dL_law_170 ?_
        refine k_ti (congrArg xs (nI_clamp (n := i + 1) (by omega))) ?_
        refine lawC (w := pFall n u (xs (i + 1))) (As := [.int (xs (i + 1))]) (rest := []) X hK hF h1 h2 hS rfl (m2_fall l (kL G0 L1 n) u hF.1 hI.1.1 (xs (i + 1))) ⟨rfl, rfl⟩ tw_1_173 tw_1_174 tw_1_175 tw_1_1 tw_1_176 ⟨by decide +kernel, by decide +kernel, (by decide +kernel : (parseMethodDescriptor yX2_fall.desc).map (fun d => d.parameters.length) = some 1)⟩ ⟨Nat.le_of_ble_eq_true rfl, Nat.le_of_ble_eq_true rfl⟩ hl.1 rfl (Nat.le_of_ble_eq_true rfl) ⟨Nat.le_of_ble_eq_true rfl, Nat.le_of_ble_eq_true rfl⟩ dL_law_171 (fun H locs h1 h2 hS => ?_)
        refine lv_aload_n hx hb dL_law_174 rfl (lv_at hl 1 rfl) ?_
        refine lv_aload_n hx hb dL_law_175 rfl (lv_at hl 3 rfl) ?_
        refine lv_iload_n hx hb dL_law_176 rfl (lv_at hl 0 rfl) ?_
        refine lv_iconst (v := nI 1) hx hb dL_law_177 (by decide) ?_
        refine lv_iadd hx hb dL_law_178 ?_
        refine k_ti (nI_add i 1) ?_
        refine va_sld hx hb hX hbl hbA hS (vp_in_nI (show i + 1 < L by omega) (by omega)) dL_law_179 ?_
        refine k_ti (congrArg xs (nI_clamp (n := i + 1) (by omega))) ?_
        refine lawR (w := pFall n u (xs (i + 1))) (As := [.int (xs (i + 1))]) (rest := [.int (pFall n u (xs (i + 1))).1]) X hK hF h1 h2 hS rfl (m3_fall l (kL G0 L2 n) u Y hF.2.1 hI hY (xs (i + 1))) ⟨rfl, rfl⟩ tw_2_233 tw_2_234 tw_2_235 tw_1_6 tw_2_236 ⟨by decide +kernel, by decide +kernel, (by decide +kernel : (parseMethodDescriptor yX3_fall.desc).map (fun d => d.parameters.length) = some 1)⟩ ⟨Nat.le_of_ble_eq_true rfl, Nat.le_of_ble_eq_true rfl⟩ hl.1 rfl (Nat.le_of_ble_eq_true rfl) ⟨Nat.le_of_ble_eq_true rfl, Nat.le_of_ble_eq_true rfl⟩ dL_law_180 (fun Y1 H locs hY1 h1 h2 hS => ?_)
        refine lv_icmp_eq (tgt := 729) hx hb dL_law_183 (by decide) (fun _ => ?_) (fun c => absurd rfl c)
        exact next _ Y1 H locs (pFall_inv (G := kL G0 L1 n) hI (xs (i + 1))) hY1 h1 h2 hS
      · refine lv_tableIn (off := 145) (tgt := 188) hx hb dL_law_43 (by decide) (by decide) (by decide +kernel) (by decide) ?_
        refine lv_aload_n hx hb dL_law_188 rfl (lv_at hl 2 rfl) ?_
        refine lv_aload_n hx hb dL_law_189 rfl (lv_at hl 3 rfl) ?_
        refine lv_iload_n hx hb dL_law_190 rfl (lv_at hl 0 rfl) ?_
        refine lv_iconst (v := nI 1) hx hb dL_law_191 (by decide) ?_
        refine lv_iadd hx hb dL_law_192 ?_
        refine k_ti (nI_add i 1) ?_
        refine va_sld hx hb hX hbl hbA hS (vp_in_nI (show i + 1 < L by omega) (by omega)) dL_law_193 ?_
        refine k_ti (congrArg xs (nI_clamp (n := i + 1) (by omega))) ?_
        refine lv_aload_n hx hb dL_law_194 rfl (lv_at hl 3 rfl) ?_
        refine lv_iload_n hx hb dL_law_195 rfl (lv_at hl 0 rfl) ?_
        refine lv_iconst (v := nI 2) hx hb dL_law_196 (by decide) ?_
        refine lv_iadd hx hb dL_law_197 ?_
        refine k_ti (nI_add i 2) ?_
        refine va_sld hx hb hX hbl hbA hS (vp_in_nI (show i + 2 < L by omega) (by omega)) dL_law_198 ?_
        refine k_ti (congrArg xs (nI_clamp (n := i + 2) (by omega))) ?_
        refine lawC (w := pWish n u (xs (i + 1)) (xs (i + 2))) (As := [.int (xs (i + 1)), .int (xs (i + 2))]) (rest := []) X hK hF h1 h2 hS rfl (m2_wish l (kL G0 L1 n) u hF.1 hI.1.1 (xs (i + 1)) (xs (i + 2))) ⟨rfl, rfl⟩ tw_1_177 tw_1_178 tw_1_179 tw_1_1 tw_1_180 ⟨by decide +kernel, by decide +kernel, (by decide +kernel : (parseMethodDescriptor yX2_wish.desc).map (fun d => d.parameters.length) = some 2)⟩ ⟨Nat.le_of_ble_eq_true rfl, Nat.le_of_ble_eq_true rfl⟩ hl.1 rfl (Nat.le_of_ble_eq_true rfl) ⟨Nat.le_of_ble_eq_true rfl, Nat.le_of_ble_eq_true rfl⟩ dL_law_199 (fun H locs h1 h2 hS => ?_)
        refine lv_aload_n hx hb dL_law_202 rfl (lv_at hl 1 rfl) ?_
        refine lv_aload_n hx hb dL_law_203 rfl (lv_at hl 3 rfl) ?_
        refine lv_iload_n hx hb dL_law_204 rfl (lv_at hl 0 rfl) ?_
        refine lv_iconst (v := nI 1) hx hb dL_law_205 (by decide) ?_
        refine lv_iadd hx hb dL_law_206 ?_
        refine k_ti (nI_add i 1) ?_
        refine va_sld hx hb hX hbl hbA hS (vp_in_nI (show i + 1 < L by omega) (by omega)) dL_law_207 ?_
        refine k_ti (congrArg xs (nI_clamp (n := i + 1) (by omega))) ?_
        refine lv_aload_n hx hb dL_law_208 rfl (lv_at hl 3 rfl) ?_
        refine lv_iload_n hx hb dL_law_209 rfl (lv_at hl 0 rfl) ?_
        refine lv_iconst (v := nI 2) hx hb dL_law_210 (by decide) ?_
        refine lv_iadd hx hb dL_law_211 ?_
        refine k_ti (nI_add i 2) ?_
        refine va_sld hx hb hX hbl hbA hS (vp_in_nI (show i + 2 < L by omega) (by omega)) dL_law_212 ?_
        refine k_ti (congrArg xs (nI_clamp (n := i + 2) (by omega))) ?_
        refine lawR (w := pWish n u (xs (i + 1)) (xs (i + 2))) (As := [.int (xs (i + 1)), .int (xs (i + 2))]) (rest := [.int (pWish n u (xs (i + 1)) (xs (i + 2))).1]) X hK hF h1 h2 hS rfl (m3_wish l (kL G0 L2 n) u Y hF.2.1 hI hY (xs (i + 1)) (xs (i + 2))) ⟨rfl, rfl⟩ tw_2_237 tw_2_238 tw_2_239 tw_1_6 tw_3_0 ⟨by decide +kernel, by decide +kernel, (by decide +kernel : (parseMethodDescriptor yX3_wish.desc).map (fun d => d.parameters.length) = some 2)⟩ ⟨Nat.le_of_ble_eq_true rfl, Nat.le_of_ble_eq_true rfl⟩ hl.1 rfl (Nat.le_of_ble_eq_true rfl) ⟨Nat.le_of_ble_eq_true rfl, Nat.le_of_ble_eq_true rfl⟩ dL_law_213 (fun Y1 H locs hY1 h1 h2 hS => ?_)
        refine lv_icmp_eq (tgt := 729) hx hb dL_law_216 (by decide) (fun _ => ?_) (fun c => absurd rfl c)
        exact next _ Y1 H locs (pWish_inv (G := kL G0 L1 n) hI (xs (i + 1)) (xs (i + 2))) hY1 h1 h2 hS
      · refine lv_tableIn (off := 178) (tgt := 221) hx hb dL_law_43 (by decide) (by decide) (by decide +kernel) (by decide) ?_
        refine lv_aload_n hx hb dL_law_221 rfl (lv_at hl 2 rfl) ?_
        refine lawC (w := pEpoch n u) (As := []) (rest := []) X hK hF h1 h2 hS rfl (m2_epoch l (kL G0 L1 n) u hF.1 hI.1.1) ⟨rfl, rfl⟩ tw_1_181 tw_1_182 tw_1_183 tw_1_1 tw_1_184 ⟨by decide +kernel, by decide +kernel, (by decide +kernel : (parseMethodDescriptor yX2_epoch.desc).map (fun d => d.parameters.length) = some 0)⟩ ⟨Nat.le_of_ble_eq_true rfl, Nat.le_of_ble_eq_true rfl⟩ hl.1 rfl (Nat.le_of_ble_eq_true rfl) ⟨Nat.le_of_ble_eq_true rfl, Nat.le_of_ble_eq_true rfl⟩ dL_law_222 (fun H locs h1 h2 hS => ?_)
        refine lv_aload_n hx hb dL_law_225 rfl (lv_at hl 1 rfl) ?_
        refine lawR (w := pEpoch n u) (As := []) (rest := [.int (pEpoch n u).1]) X hK hF h1 h2 hS rfl (m3_epoch l (kL G0 L2 n) u Y hF.2.1 hI hY) ⟨rfl, rfl⟩ tw_3_2 tw_3_3 tw_3_4 tw_1_6 tw_3_5 ⟨by decide +kernel, by decide +kernel, (by decide +kernel : (parseMethodDescriptor yX3_epoch.desc).map (fun d => d.parameters.length) = some 0)⟩ ⟨Nat.le_of_ble_eq_true rfl, Nat.le_of_ble_eq_true rfl⟩ hl.1 rfl (Nat.le_of_ble_eq_true rfl) ⟨Nat.le_of_ble_eq_true rfl, Nat.le_of_ble_eq_true rfl⟩ dL_law_226 (fun Y1 H locs hY1 h1 h2 hS => ?_)
        refine lv_icmp_eq (tgt := 729) hx hb dL_law_229 (by decide) (fun _ => ?_) (fun c => absurd rfl c)
        exact next _ Y1 H locs (pEpoch_inv (G := kL G0 L1 n) hI) hY1 h1 h2 hS
      · refine lv_tableIn (off := 191) (tgt := 234) hx hb dL_law_43 (by decide) (by decide) (by decide +kernel) (by decide) ?_
        refine lv_aload_n hx hb dL_law_234 rfl (lv_at hl 2 rfl) ?_
        refine lv_aload_n hx hb dL_law_235 rfl (lv_at hl 3 rfl) ?_
        refine lv_iload_n hx hb dL_law_236 rfl (lv_at hl 0 rfl) ?_
        refine lv_iconst (v := nI 1) hx hb dL_law_237 (by decide) ?_
        refine lv_iadd hx hb dL_law_238 ?_
        refine k_ti (nI_add i 1) ?_
        refine va_sld hx hb hX hbl hbA hS (vp_in_nI (show i + 1 < L by omega) (by omega)) dL_law_239 ?_
        refine k_ti (congrArg xs (nI_clamp (n := i + 1) (by omega))) ?_
        refine lv_aload_n hx hb dL_law_240 rfl (lv_at hl 3 rfl) ?_
        refine lv_iload_n hx hb dL_law_241 rfl (lv_at hl 0 rfl) ?_
        refine lv_iconst (v := nI 2) hx hb dL_law_242 (by decide) ?_
        refine lv_iadd hx hb dL_law_243 ?_
        refine k_ti (nI_add i 2) ?_
        refine va_sld hx hb hX hbl hbA hS (vp_in_nI (show i + 2 < L by omega) (by omega)) dL_law_244 ?_
        refine k_ti (congrArg xs (nI_clamp (n := i + 2) (by omega))) ?_
        refine lawC (w := pBring n u (xs (i + 1)) (xs (i + 2))) (As := [.int (xs (i + 1)), .int (xs (i + 2))]) (rest := []) X hK hF h1 h2 hS rfl (m2_bring l (kL G0 L1 n) u hF.1 hI.1.1 (inv_w0 hI.1) (xs (i + 1)) (xs (i + 2))) ⟨rfl, rfl⟩ tw_2_20 tw_2_21 tw_2_22 tw_1_1 tw_2_23 ⟨by decide +kernel, by decide +kernel, (by decide +kernel : (parseMethodDescriptor yX2_bring.desc).map (fun d => d.parameters.length) = some 2)⟩ ⟨Nat.le_of_ble_eq_true rfl, Nat.le_of_ble_eq_true rfl⟩ hl.1 rfl (Nat.le_of_ble_eq_true rfl) ⟨Nat.le_of_ble_eq_true rfl, Nat.le_of_ble_eq_true rfl⟩ dL_law_245 (fun H locs h1 h2 hS => ?_)
        refine lv_aload_n hx hb dL_law_248 rfl (lv_at hl 1 rfl) ?_
        refine lv_aload_n hx hb dL_law_249 rfl (lv_at hl 3 rfl) ?_
        refine lv_iload_n hx hb dL_law_250 rfl (lv_at hl 0 rfl) ?_
        refine lv_iconst (v := nI 1) hx hb dL_law_251 (by decide) ?_
        refine lv_iadd hx hb dL_law_252 ?_
        refine k_ti (nI_add i 1) ?_
        refine va_sld hx hb hX hbl hbA hS (vp_in_nI (show i + 1 < L by omega) (by omega)) dL_law_253 ?_
        refine k_ti (congrArg xs (nI_clamp (n := i + 1) (by omega))) ?_
        refine lv_aload_n hx hb dL_law_254 rfl (lv_at hl 3 rfl) ?_
        refine lv_iload_n hx hb dL_law_255 rfl (lv_at hl 0 rfl) ?_
        refine lv_iconst (v := nI 2) hx hb dL_law_256 (by decide) ?_
        refine lv_iadd hx hb dL_law_257 ?_
        refine k_ti (nI_add i 2) ?_
        refine va_sld hx hb hX hbl hbA hS (vp_in_nI (show i + 2 < L by omega) (by omega)) dL_law_258 ?_
        refine k_ti (congrArg xs (nI_clamp (n := i + 2) (by omega))) ?_
        refine lawR (w := pBring n u (xs (i + 1)) (xs (i + 2))) (As := [.int (xs (i + 1)), .int (xs (i + 2))]) (rest := [.int (pBring n u (xs (i + 1)) (xs (i + 2))).1]) X hK hF h1 h2 hS rfl (m3_bring l (kL G0 L2 n) u Y hF.2.1 hI hY (xs (i + 1)) (xs (i + 2))) ⟨rfl, rfl⟩ tw_3_29 tw_3_30 tw_3_31 tw_1_6 tw_3_32 ⟨by decide +kernel, by decide +kernel, (by decide +kernel : (parseMethodDescriptor yX3_bring.desc).map (fun d => d.parameters.length) = some 2)⟩ ⟨Nat.le_of_ble_eq_true rfl, Nat.le_of_ble_eq_true rfl⟩ hl.1 rfl (Nat.le_of_ble_eq_true rfl) ⟨Nat.le_of_ble_eq_true rfl, Nat.le_of_ble_eq_true rfl⟩ dL_law_259 (fun Y1 H locs hY1 h1 h2 hS => ?_)
        refine lv_icmp_eq (tgt := 729) hx hb dL_law_262 (by decide) (fun _ => ?_) (fun c => absurd rfl c)
        exact next _ Y1 H locs (pBring_inv (G := kL G0 L1 n) hI (xs (i + 1)) (xs (i + 2))) hY1 h1 h2 hS
      · refine lv_tableIn (off := 224) (tgt := 267) hx hb dL_law_43 (by decide) (by decide) (by decide +kernel) (by decide) ?_
        refine lv_aload_n hx hb dL_law_267 rfl (lv_at hl 2 rfl) ?_
        refine lv_aload_n hx hb dL_law_268 rfl (lv_at hl 3 rfl) ?_
        refine lv_iload_n hx hb dL_law_269 rfl (lv_at hl 0 rfl) ?_
        refine lv_iconst (v := nI 1) hx hb dL_law_270 (by decide) ?_
        refine lv_iadd hx hb dL_law_271 ?_
        refine k_ti (nI_add i 1) ?_
        refine va_sld hx hb hX hbl hbA hS (vp_in_nI (show i + 1 < L by omega) (by omega)) dL_law_272 ?_
        refine k_ti (congrArg xs (nI_clamp (n := i + 1) (by omega))) ?_
        refine lv_aload_n hx hb dL_law_273 rfl (lv_at hl 3 rfl) ?_
        refine lv_iload_n hx hb dL_law_274 rfl (lv_at hl 0 rfl) ?_
        refine lv_iconst (v := nI 2) hx hb dL_law_275 (by decide) ?_
        refine lv_iadd hx hb dL_law_276 ?_
        refine k_ti (nI_add i 2) ?_
        refine va_sld hx hb hX hbl hbA hS (vp_in_nI (show i + 2 < L by omega) (by omega)) dL_law_277 ?_
        refine k_ti (congrArg xs (nI_clamp (n := i + 2) (by omega))) ?_
        refine lv_aload_n hx hb dL_law_278 rfl (lv_at hl 3 rfl) ?_
        refine lv_iload_n hx hb dL_law_279 rfl (lv_at hl 0 rfl) ?_
        refine lv_iconst (v := nI 3) hx hb dL_law_280 (by decide) ?_
        refine lv_iadd hx hb dL_law_281 ?_
        refine k_ti (nI_add i 3) ?_
        refine va_sld hx hb hX hbl hbA hS (vp_in_nI (show i + 3 < L by omega) (by omega)) dL_law_282 ?_
        refine k_ti (congrArg xs (nI_clamp (n := i + 3) (by omega))) ?_
        refine lawC (w := pBringVote n u (xs (i + 1)) (xs (i + 2)) (xs (i + 3))) (As := [.int (xs (i + 1)), .int (xs (i + 2)), .int (xs (i + 3))]) (rest := []) X hK hF h1 h2 hS rfl (m2_bringVote l (kL G0 L1 n) u hF.1 hI.1.1 (inv_w0 hI.1) (xs (i + 1)) (xs (i + 2)) (xs (i + 3))) ⟨rfl, rfl⟩ tw_2_32 tw_2_33 tw_2_34 tw_1_1 tw_2_35 ⟨by decide +kernel, by decide +kernel, (by decide +kernel : (parseMethodDescriptor yX2_bringVote.desc).map (fun d => d.parameters.length) = some 3)⟩ ⟨Nat.le_of_ble_eq_true rfl, Nat.le_of_ble_eq_true rfl⟩ hl.1 rfl (Nat.le_of_ble_eq_true rfl) ⟨Nat.le_of_ble_eq_true rfl, Nat.le_of_ble_eq_true rfl⟩ dL_law_283 (fun H locs h1 h2 hS => ?_)
        refine lv_aload_n hx hb dL_law_286 rfl (lv_at hl 1 rfl) ?_
        refine lv_aload_n hx hb dL_law_287 rfl (lv_at hl 3 rfl) ?_
        refine lv_iload_n hx hb dL_law_288 rfl (lv_at hl 0 rfl) ?_
        refine lv_iconst (v := nI 1) hx hb dL_law_289 (by decide) ?_
        refine lv_iadd hx hb dL_law_290 ?_
        refine k_ti (nI_add i 1) ?_
        refine va_sld hx hb hX hbl hbA hS (vp_in_nI (show i + 1 < L by omega) (by omega)) dL_law_291 ?_
        refine k_ti (congrArg xs (nI_clamp (n := i + 1) (by omega))) ?_
        refine lv_aload_n hx hb dL_law_292 rfl (lv_at hl 3 rfl) ?_
        refine lv_iload_n hx hb dL_law_293 rfl (lv_at hl 0 rfl) ?_
        refine lv_iconst (v := nI 2) hx hb dL_law_294 (by decide) ?_
        refine lv_iadd hx hb dL_law_295 ?_
        refine k_ti (nI_add i 2) ?_
        refine va_sld hx hb hX hbl hbA hS (vp_in_nI (show i + 2 < L by omega) (by omega)) dL_law_296 ?_
        refine k_ti (congrArg xs (nI_clamp (n := i + 2) (by omega))) ?_
        refine lv_aload_n hx hb dL_law_297 rfl (lv_at hl 3 rfl) ?_
        refine lv_iload_n hx hb dL_law_298 rfl (lv_at hl 0 rfl) ?_
        refine lv_iconst (v := nI 3) hx hb dL_law_299 (by decide) ?_
        refine lv_iadd hx hb dL_law_300 ?_
        refine k_ti (nI_add i 3) ?_
        refine va_sld hx hb hX hbl hbA hS (vp_in_nI (show i + 3 < L by omega) (by omega)) dL_law_301 ?_
        refine k_ti (congrArg xs (nI_clamp (n := i + 3) (by omega))) ?_
        refine lawR (w := pBringVote n u (xs (i + 1)) (xs (i + 2)) (xs (i + 3))) (As := [.int (xs (i + 1)), .int (xs (i + 2)), .int (xs (i + 3))]) (rest := [.int (pBringVote n u (xs (i + 1)) (xs (i + 2)) (xs (i + 3))).1]) X hK hF h1 h2 hS rfl (m3_bringVote l (kL G0 L2 n) u Y hF.2.1 hI hY (xs (i + 1)) (xs (i + 2)) (xs (i + 3))) ⟨rfl, rfl⟩ tw_3_41 tw_3_42 tw_3_43 tw_1_6 tw_3_44 ⟨by decide +kernel, by decide +kernel, (by decide +kernel : (parseMethodDescriptor yX3_bringVote.desc).map (fun d => d.parameters.length) = some 3)⟩ ⟨Nat.le_of_ble_eq_true rfl, Nat.le_of_ble_eq_true rfl⟩ hl.1 rfl (Nat.le_of_ble_eq_true rfl) ⟨Nat.le_of_ble_eq_true rfl, Nat.le_of_ble_eq_true rfl⟩ dL_law_302 (fun Y1 H locs hY1 h1 h2 hS => ?_)
        refine lv_icmp_eq (tgt := 729) hx hb dL_law_305 (by decide) (fun _ => ?_) (fun c => absurd rfl c)
        exact next _ Y1 H locs (pBringVote_inv (G := kL G0 L1 n) hI (xs (i + 1)) (xs (i + 2)) (xs (i + 3))) hY1 h1 h2 hS
      · refine lv_tableIn (off := 267) (tgt := 310) hx hb dL_law_43 (by decide) (by decide) (by decide +kernel) (by decide) ?_
        refine lv_aload_n hx hb dL_law_310 rfl (lv_at hl 2 rfl) ?_
        refine lv_aload_n hx hb dL_law_311 rfl (lv_at hl 3 rfl) ?_
        refine lv_iload_n hx hb dL_law_312 rfl (lv_at hl 0 rfl) ?_
        refine lv_iconst (v := nI 1) hx hb dL_law_313 (by decide) ?_
        refine lv_iadd hx hb dL_law_314 ?_
        refine k_ti (nI_add i 1) ?_
        refine va_sld hx hb hX hbl hbA hS (vp_in_nI (show i + 1 < L by omega) (by omega)) dL_law_315 ?_
        refine k_ti (congrArg xs (nI_clamp (n := i + 1) (by omega))) ?_
        refine lawC (w := pFlow n u (xs (i + 1))) (As := [.int (xs (i + 1))]) (rest := []) X hK hF h1 h2 hS rfl (m2_flow l (kL G0 L1 n) u hF.1 hI.1.1 (xs (i + 1))) ⟨rfl, rfl⟩ tw_2_44 tw_2_45 tw_2_46 tw_1_1 tw_2_47 ⟨by decide +kernel, by decide +kernel, (by decide +kernel : (parseMethodDescriptor yX2_flow.desc).map (fun d => d.parameters.length) = some 1)⟩ ⟨Nat.le_of_ble_eq_true rfl, Nat.le_of_ble_eq_true rfl⟩ hl.1 rfl (Nat.le_of_ble_eq_true rfl) ⟨Nat.le_of_ble_eq_true rfl, Nat.le_of_ble_eq_true rfl⟩ dL_law_316 (fun H locs h1 h2 hS => ?_)
        refine lv_aload_n hx hb dL_law_319 rfl (lv_at hl 1 rfl) ?_
        refine lv_aload_n hx hb dL_law_320 rfl (lv_at hl 3 rfl) ?_
        refine lv_iload_n hx hb dL_law_321 rfl (lv_at hl 0 rfl) ?_
        refine lv_iconst (v := nI 1) hx hb dL_law_322 (by decide) ?_
        refine lv_iadd hx hb dL_law_323 ?_
        refine k_ti (nI_add i 1) ?_
        refine va_sld hx hb hX hbl hbA hS (vp_in_nI (show i + 1 < L by omega) (by omega)) dL_law_324 ?_
        refine k_ti (congrArg xs (nI_clamp (n := i + 1) (by omega))) ?_
        refine lawR (w := pFlow n u (xs (i + 1))) (As := [.int (xs (i + 1))]) (rest := [.int (pFlow n u (xs (i + 1))).1]) X hK hF h1 h2 hS rfl (m3_flow l (kL G0 L2 n) u Y hF.2.1 hI hY (xs (i + 1))) ⟨rfl, rfl⟩ tw_3_45 tw_3_46 tw_3_47 tw_1_6 tw_3_48 ⟨by decide +kernel, by decide +kernel, (by decide +kernel : (parseMethodDescriptor yX3_flow.desc).map (fun d => d.parameters.length) = some 1)⟩ ⟨Nat.le_of_ble_eq_true rfl, Nat.le_of_ble_eq_true rfl⟩ hl.1 rfl (Nat.le_of_ble_eq_true rfl) ⟨Nat.le_of_ble_eq_true rfl, Nat.le_of_ble_eq_true rfl⟩ dL_law_325 (fun Y1 H locs hY1 h1 h2 hS => ?_)
        refine lv_icmp_eq (tgt := 729) hx hb dL_law_328 (by decide) (fun _ => ?_) (fun c => absurd rfl c)
        exact next _ Y1 H locs (pFlow_inv (G := kL G0 L1 n) hI (xs (i + 1))) hY1 h1 h2 hS
      · refine lv_tableIn (off := 290) (tgt := 333) hx hb dL_law_43 (by decide) (by decide) (by decide +kernel) (by decide) ?_
        refine lv_aload_n hx hb dL_law_333 rfl (lv_at hl 2 rfl) ?_
        refine lawC (w := pSettle n u) (As := []) (rest := []) X hK hF h1 h2 hS rfl (m2_settle l (kL G0 L1 n) u hF.1 hI.1.1) ⟨rfl, rfl⟩ tw_2_52 tw_2_53 tw_2_54 tw_1_1 tw_2_55 ⟨by decide +kernel, by decide +kernel, (by decide +kernel : (parseMethodDescriptor yX2_settle.desc).map (fun d => d.parameters.length) = some 0)⟩ ⟨Nat.le_of_ble_eq_true rfl, Nat.le_of_ble_eq_true rfl⟩ hl.1 rfl (Nat.le_of_ble_eq_true rfl) ⟨Nat.le_of_ble_eq_true rfl, Nat.le_of_ble_eq_true rfl⟩ dL_law_334 (fun H locs h1 h2 hS => ?_)
        refine lv_aload_n hx hb dL_law_337 rfl (lv_at hl 1 rfl) ?_
        refine lawR (w := pSettle n u) (As := []) (rest := [.int (pSettle n u).1]) X hK hF h1 h2 hS rfl (m3_settle l (kL G0 L2 n) u Y hF.2.1 hI hY) ⟨rfl, rfl⟩ tw_3_53 tw_3_54 tw_3_55 tw_1_6 tw_3_56 ⟨by decide +kernel, by decide +kernel, (by decide +kernel : (parseMethodDescriptor yX3_settle.desc).map (fun d => d.parameters.length) = some 0)⟩ ⟨Nat.le_of_ble_eq_true rfl, Nat.le_of_ble_eq_true rfl⟩ hl.1 rfl (Nat.le_of_ble_eq_true rfl) ⟨Nat.le_of_ble_eq_true rfl, Nat.le_of_ble_eq_true rfl⟩ dL_law_338 (fun Y1 H locs hY1 h1 h2 hS => ?_)
        refine lv_icmp_eq (tgt := 729) hx hb dL_law_341 (by decide) (fun _ => ?_) (fun c => absurd rfl c)
        exact next _ Y1 H locs (pSettle_inv (G := kL G0 L1 n) hI) hY1 h1 h2 hS
      · refine lv_tableIn (off := 303) (tgt := 346) hx hb dL_law_43 (by decide) (by decide) (by decide +kernel) (by decide) ?_
        refine lv_aload_n hx hb dL_law_346 rfl (lv_at hl 2 rfl) ?_
        refine lv_aload_n hx hb dL_law_347 rfl (lv_at hl 3 rfl) ?_
        refine lv_iload_n hx hb dL_law_348 rfl (lv_at hl 0 rfl) ?_
        refine lv_iconst (v := nI 1) hx hb dL_law_349 (by decide) ?_
        refine lv_iadd hx hb dL_law_350 ?_
        refine k_ti (nI_add i 1) ?_
        refine va_sld hx hb hX hbl hbA hS (vp_in_nI (show i + 1 < L by omega) (by omega)) dL_law_351 ?_
        refine k_ti (congrArg xs (nI_clamp (n := i + 1) (by omega))) ?_
        refine lv_aload_n hx hb dL_law_352 rfl (lv_at hl 3 rfl) ?_
        refine lv_iload_n hx hb dL_law_353 rfl (lv_at hl 0 rfl) ?_
        refine lv_iconst (v := nI 2) hx hb dL_law_354 (by decide) ?_
        refine lv_iadd hx hb dL_law_355 ?_
        refine k_ti (nI_add i 2) ?_
        refine va_sld hx hb hX hbl hbA hS (vp_in_nI (show i + 2 < L by omega) (by omega)) dL_law_356 ?_
        refine k_ti (congrArg xs (nI_clamp (n := i + 2) (by omega))) ?_
        refine lv_aload_n hx hb dL_law_357 rfl (lv_at hl 3 rfl) ?_
        refine lv_iload_n hx hb dL_law_358 rfl (lv_at hl 0 rfl) ?_
        refine lv_iconst (v := nI 3) hx hb dL_law_359 (by decide) ?_
        refine lv_iadd hx hb dL_law_360 ?_
        refine k_ti (nI_add i 3) ?_
        refine va_sld hx hb hX hbl hbA hS (vp_in_nI (show i + 3 < L by omega) (by omega)) dL_law_361 ?_
        refine k_ti (congrArg xs (nI_clamp (n := i + 3) (by omega))) ?_
        refine lv_aload_n hx hb dL_law_362 rfl (lv_at hl 3 rfl) ?_
        refine lv_iload_n hx hb dL_law_363 rfl (lv_at hl 0 rfl) ?_
        refine lv_iconst (v := nI 4) hx hb dL_law_364 (by decide) ?_
        refine lv_iadd hx hb dL_law_365 ?_
        refine k_ti (nI_add i 4) ?_
        refine va_sld hx hb hX hbl hbA hS (vp_in_nI (show i + 4 < L by omega) (by omega)) dL_law_366 ?_
        refine k_ti (congrArg xs (nI_clamp (n := i + 4) (by omega))) ?_
        refine lv_aload_n hx hb dL_law_367 rfl (lv_at hl 3 rfl) ?_
        refine lv_iload_n hx hb dL_law_368 rfl (lv_at hl 0 rfl) ?_
        refine lv_iconst (v := nI 5) hx hb dL_law_369 (by decide) ?_
        refine lv_iadd hx hb dL_law_370 ?_
        refine k_ti (nI_add i 5) ?_
        refine va_sld hx hb hX hbl hbA hS (vp_in_nI (show i + 5 < L by omega) (by omega)) dL_law_371 ?_
        refine k_ti (congrArg xs (nI_clamp (n := i + 5) (by omega))) ?_
        refine lawC (w := pPropose n u (xs (i + 1)) (xs (i + 2)) (xs (i + 3)) (xs (i + 4)) (xs (i + 5))) (As := [.int (xs (i + 1)), .int (xs (i + 2)), .int (xs (i + 3)), .int (xs (i + 4)), .int (xs (i + 5))]) (rest := []) X hK hF h1 h2 hS rfl (m2_propose l (kL G0 L1 n) u hF.1 hI.1.1 (xs (i + 1)) (xs (i + 2)) (xs (i + 3)) (xs (i + 4)) (xs (i + 5))) ⟨rfl, rfl⟩ tw_2_67 tw_2_68 tw_2_69 tw_1_1 tw_2_70 ⟨by decide +kernel, by decide +kernel, (by decide +kernel : (parseMethodDescriptor yX2_propose.desc).map (fun d => d.parameters.length) = some 5)⟩ ⟨Nat.le_of_ble_eq_true rfl, Nat.le_of_ble_eq_true rfl⟩ hl.1 rfl (Nat.le_of_ble_eq_true rfl) ⟨Nat.le_of_ble_eq_true rfl, Nat.le_of_ble_eq_true rfl⟩ dL_law_372 (fun H locs h1 h2 hS => ?_)
        refine lv_aload_n hx hb dL_law_375 rfl (lv_at hl 1 rfl) ?_
        refine lv_aload_n hx hb dL_law_376 rfl (lv_at hl 3 rfl) ?_
        refine lv_iload_n hx hb dL_law_377 rfl (lv_at hl 0 rfl) ?_
        refine lv_iconst (v := nI 1) hx hb dL_law_378 (by decide) ?_
        refine lv_iadd hx hb dL_law_379 ?_
        refine k_ti (nI_add i 1) ?_
        refine va_sld hx hb hX hbl hbA hS (vp_in_nI (show i + 1 < L by omega) (by omega)) dL_law_380 ?_
        refine k_ti (congrArg xs (nI_clamp (n := i + 1) (by omega))) ?_
        refine lv_aload_n hx hb dL_law_381 rfl (lv_at hl 3 rfl) ?_
        refine lv_iload_n hx hb dL_law_382 rfl (lv_at hl 0 rfl) ?_
        refine lv_iconst (v := nI 2) hx hb dL_law_383 (by decide) ?_
        refine lv_iadd hx hb dL_law_384 ?_
        refine k_ti (nI_add i 2) ?_
        refine va_sld hx hb hX hbl hbA hS (vp_in_nI (show i + 2 < L by omega) (by omega)) dL_law_385 ?_
        refine k_ti (congrArg xs (nI_clamp (n := i + 2) (by omega))) ?_
        refine lv_aload_n hx hb dL_law_386 rfl (lv_at hl 3 rfl) ?_
        refine lv_iload_n hx hb dL_law_387 rfl (lv_at hl 0 rfl) ?_
        refine lv_iconst (v := nI 3) hx hb dL_law_388 (by decide) ?_
        refine lv_iadd hx hb dL_law_389 ?_
        refine k_ti (nI_add i 3) ?_
        refine va_sld hx hb hX hbl hbA hS (vp_in_nI (show i + 3 < L by omega) (by omega)) dL_law_390 ?_
        refine k_ti (congrArg xs (nI_clamp (n := i + 3) (by omega))) ?_
        refine lv_aload_n hx hb dL_law_391 rfl (lv_at hl 3 rfl) ?_
        refine lv_iload_n hx hb dL_law_392 rfl (lv_at hl 0 rfl) ?_
        refine lv_iconst (v := nI 4) hx hb dL_law_393 (by decide) ?_
        refine lv_iadd hx hb dL_law_394 ?_
        refine k_ti (nI_add i 4) ?_
        refine va_sld hx hb hX hbl hbA hS (vp_in_nI (show i + 4 < L by omega) (by omega)) dL_law_395 ?_
        refine k_ti (congrArg xs (nI_clamp (n := i + 4) (by omega))) ?_
        refine lv_aload_n hx hb dL_law_396 rfl (lv_at hl 3 rfl) ?_
        refine lv_iload_n hx hb dL_law_397 rfl (lv_at hl 0 rfl) ?_
        refine lv_iconst (v := nI 5) hx hb dL_law_398 (by decide) ?_
        refine lv_iadd hx hb dL_law_399 ?_
        refine k_ti (nI_add i 5) ?_
        refine va_sld hx hb hX hbl hbA hS (vp_in_nI (show i + 5 < L by omega) (by omega)) dL_law_400 ?_
        refine k_ti (congrArg xs (nI_clamp (n := i + 5) (by omega))) ?_
        refine lawR (w := pPropose n u (xs (i + 1)) (xs (i + 2)) (xs (i + 3)) (xs (i + 4)) (xs (i + 5))) (As := [.int (xs (i + 1)), .int (xs (i + 2)), .int (xs (i + 3)), .int (xs (i + 4)), .int (xs (i + 5))]) (rest := [.int (pPropose n u (xs (i + 1)) (xs (i + 2)) (xs (i + 3)) (xs (i + 4)) (xs (i + 5))).1]) X hK hF h1 h2 hS rfl (m3_propose l (kL G0 L2 n) u Y hF.2.1 hI hY (xs (i + 1)) (xs (i + 2)) (xs (i + 3)) (xs (i + 4)) (xs (i + 5))) ⟨rfl, rfl⟩ tw_3_57 tw_3_58 tw_3_59 tw_1_6 tw_3_60 ⟨by decide +kernel, by decide +kernel, (by decide +kernel : (parseMethodDescriptor yX3_propose.desc).map (fun d => d.parameters.length) = some 5)⟩ ⟨Nat.le_of_ble_eq_true rfl, Nat.le_of_ble_eq_true rfl⟩ hl.1 rfl (Nat.le_of_ble_eq_true rfl) ⟨Nat.le_of_ble_eq_true rfl, Nat.le_of_ble_eq_true rfl⟩ dL_law_401 (fun Y1 H locs hY1 h1 h2 hS => ?_)
        refine lv_icmp_eq (tgt := 729) hx hb dL_law_404 (by decide) (fun _ => ?_) (fun c => absurd rfl c)
        exact next _ Y1 H locs (pPropose_inv (G := kL G0 L1 n) hI (xs (i + 1)) (xs (i + 2)) (xs (i + 3)) (xs (i + 4)) (xs (i + 5))) hY1 h1 h2 hS
      · refine lv_tableIn (off := 366) (tgt := 409) hx hb dL_law_43 (by decide) (by decide) (by decide +kernel) (by decide) ?_
        refine lv_aload_n hx hb dL_law_409 rfl (lv_at hl 2 rfl) ?_
        refine lv_aload_n hx hb dL_law_410 rfl (lv_at hl 3 rfl) ?_
        refine lv_iload_n hx hb dL_law_411 rfl (lv_at hl 0 rfl) ?_
        refine lv_iconst (v := nI 1) hx hb dL_law_412 (by decide) ?_
        refine lv_iadd hx hb dL_law_413 ?_
        refine k_ti (nI_add i 1) ?_
        refine va_sld hx hb hX hbl hbA hS (vp_in_nI (show i + 1 < L by omega) (by omega)) dL_law_414 ?_
        refine k_ti (congrArg xs (nI_clamp (n := i + 1) (by omega))) ?_
        refine lv_aload_n hx hb dL_law_415 rfl (lv_at hl 3 rfl) ?_
        refine lv_iload_n hx hb dL_law_416 rfl (lv_at hl 0 rfl) ?_
        refine lv_iconst (v := nI 2) hx hb dL_law_417 (by decide) ?_
        refine lv_iadd hx hb dL_law_418 ?_
        refine k_ti (nI_add i 2) ?_
        refine va_sld hx hb hX hbl hbA hS (vp_in_nI (show i + 2 < L by omega) (by omega)) dL_law_419 ?_
        refine k_ti (congrArg xs (nI_clamp (n := i + 2) (by omega))) ?_
        refine lv_aload_n hx hb dL_law_420 rfl (lv_at hl 3 rfl) ?_
        refine lv_iload_n hx hb dL_law_421 rfl (lv_at hl 0 rfl) ?_
        refine lv_iconst (v := nI 3) hx hb dL_law_422 (by decide) ?_
        refine lv_iadd hx hb dL_law_423 ?_
        refine k_ti (nI_add i 3) ?_
        refine va_sld hx hb hX hbl hbA hS (vp_in_nI (show i + 3 < L by omega) (by omega)) dL_law_424 ?_
        refine k_ti (congrArg xs (nI_clamp (n := i + 3) (by omega))) ?_
        refine lawC (w := pLie n u (xs (i + 1)) (xs (i + 2)) (xs (i + 3))) (As := [.int (xs (i + 1)), .int (xs (i + 2)), .int (xs (i + 3))]) (rest := []) X hK hF h1 h2 hS rfl (m2_lie l (kL G0 L1 n) u hF.1 hI.1.1 (xs (i + 1)) (xs (i + 2)) (xs (i + 3))) ⟨rfl, rfl⟩ tw_2_75 tw_2_76 tw_2_77 tw_1_1 tw_2_78 ⟨by decide +kernel, by decide +kernel, (by decide +kernel : (parseMethodDescriptor yX2_lie.desc).map (fun d => d.parameters.length) = some 3)⟩ ⟨Nat.le_of_ble_eq_true rfl, Nat.le_of_ble_eq_true rfl⟩ hl.1 rfl (Nat.le_of_ble_eq_true rfl) ⟨Nat.le_of_ble_eq_true rfl, Nat.le_of_ble_eq_true rfl⟩ dL_law_425 (fun H locs h1 h2 hS => ?_)
        refine lv_aload_n hx hb dL_law_428 rfl (lv_at hl 1 rfl) ?_
        refine lv_aload_n hx hb dL_law_429 rfl (lv_at hl 3 rfl) ?_
        refine lv_iload_n hx hb dL_law_430 rfl (lv_at hl 0 rfl) ?_
        refine lv_iconst (v := nI 1) hx hb dL_law_431 (by decide) ?_
        refine lv_iadd hx hb dL_law_432 ?_
        refine k_ti (nI_add i 1) ?_
        refine va_sld hx hb hX hbl hbA hS (vp_in_nI (show i + 1 < L by omega) (by omega)) dL_law_433 ?_
        refine k_ti (congrArg xs (nI_clamp (n := i + 1) (by omega))) ?_
        refine lv_aload_n hx hb dL_law_434 rfl (lv_at hl 3 rfl) ?_
        refine lv_iload_n hx hb dL_law_435 rfl (lv_at hl 0 rfl) ?_
        refine lv_iconst (v := nI 2) hx hb dL_law_436 (by decide) ?_
        refine lv_iadd hx hb dL_law_437 ?_
        refine k_ti (nI_add i 2) ?_
        refine va_sld hx hb hX hbl hbA hS (vp_in_nI (show i + 2 < L by omega) (by omega)) dL_law_438 ?_
        refine k_ti (congrArg xs (nI_clamp (n := i + 2) (by omega))) ?_
        refine lv_aload_n hx hb dL_law_439 rfl (lv_at hl 3 rfl) ?_
        refine lv_iload_n hx hb dL_law_440 rfl (lv_at hl 0 rfl) ?_
        refine lv_iconst (v := nI 3) hx hb dL_law_441 (by decide) ?_
        refine lv_iadd hx hb dL_law_442 ?_
        refine k_ti (nI_add i 3) ?_
        refine va_sld hx hb hX hbl hbA hS (vp_in_nI (show i + 3 < L by omega) (by omega)) dL_law_443 ?_
        refine k_ti (congrArg xs (nI_clamp (n := i + 3) (by omega))) ?_
        refine lawR (w := pLie n u (xs (i + 1)) (xs (i + 2)) (xs (i + 3))) (As := [.int (xs (i + 1)), .int (xs (i + 2)), .int (xs (i + 3))]) (rest := [.int (pLie n u (xs (i + 1)) (xs (i + 2)) (xs (i + 3))).1]) X hK hF h1 h2 hS rfl (m3_lie l (kL G0 L2 n) u Y hF.2.1 hI hY (xs (i + 1)) (xs (i + 2)) (xs (i + 3))) ⟨rfl, rfl⟩ tw_3_69 tw_3_70 tw_3_71 tw_1_6 tw_3_72 ⟨by decide +kernel, by decide +kernel, (by decide +kernel : (parseMethodDescriptor yX3_lie.desc).map (fun d => d.parameters.length) = some 3)⟩ ⟨Nat.le_of_ble_eq_true rfl, Nat.le_of_ble_eq_true rfl⟩ hl.1 rfl (Nat.le_of_ble_eq_true rfl) ⟨Nat.le_of_ble_eq_true rfl, Nat.le_of_ble_eq_true rfl⟩ dL_law_444 (fun Y1 H locs hY1 h1 h2 hS => ?_)
        refine lv_icmp_eq (tgt := 729) hx hb dL_law_447 (by decide) (fun _ => ?_) (fun c => absurd rfl c)
        exact next _ Y1 H locs (pLie_inv (G := kL G0 L1 n) hI (xs (i + 1)) (xs (i + 2)) (xs (i + 3))) hY1 h1 h2 hS
      · refine lv_tableIn (off := 409) (tgt := 452) hx hb dL_law_43 (by decide) (by decide) (by decide +kernel) (by decide) ?_
        refine lv_aload_n hx hb dL_law_452 rfl (lv_at hl 2 rfl) ?_
        refine lv_aload_n hx hb dL_law_453 rfl (lv_at hl 3 rfl) ?_
        refine lv_iload_n hx hb dL_law_454 rfl (lv_at hl 0 rfl) ?_
        refine lv_iconst (v := nI 1) hx hb dL_law_455 (by decide) ?_
        refine lv_iadd hx hb dL_law_456 ?_
        refine k_ti (nI_add i 1) ?_
        refine va_sld hx hb hX hbl hbA hS (vp_in_nI (show i + 1 < L by omega) (by omega)) dL_law_457 ?_
        refine k_ti (congrArg xs (nI_clamp (n := i + 1) (by omega))) ?_
        refine lv_aload_n hx hb dL_law_458 rfl (lv_at hl 3 rfl) ?_
        refine lv_iload_n hx hb dL_law_459 rfl (lv_at hl 0 rfl) ?_
        refine lv_iconst (v := nI 2) hx hb dL_law_460 (by decide) ?_
        refine lv_iadd hx hb dL_law_461 ?_
        refine k_ti (nI_add i 2) ?_
        refine va_sld hx hb hX hbl hbA hS (vp_in_nI (show i + 2 < L by omega) (by omega)) dL_law_462 ?_
        refine k_ti (congrArg xs (nI_clamp (n := i + 2) (by omega))) ?_
        refine lv_aload_n hx hb dL_law_463 rfl (lv_at hl 3 rfl) ?_
        refine lv_iload_n hx hb dL_law_464 rfl (lv_at hl 0 rfl) ?_
        refine lv_iconst (v := nI 3) hx hb dL_law_465 (by decide) ?_
        refine lv_iadd hx hb dL_law_466 ?_
        refine k_ti (nI_add i 3) ?_
        refine va_sld hx hb hX hbl hbA hS (vp_in_nI (show i + 3 < L by omega) (by omega)) dL_law_467 ?_
        refine k_ti (congrArg xs (nI_clamp (n := i + 3) (by omega))) ?_
        refine lawC (w := pPass n u (xs (i + 1)) (xs (i + 2)) (xs (i + 3))) (As := [.int (xs (i + 1)), .int (xs (i + 2)), .int (xs (i + 3))]) (rest := []) X hK hF h1 h2 hS rfl (m2_pass l (kL G0 L1 n) u hF.1 hI.1.1 (xs (i + 1)) (xs (i + 2)) (xs (i + 3))) ⟨rfl, rfl⟩ tw_2_79 tw_2_80 tw_2_81 tw_1_1 tw_2_82 ⟨by decide +kernel, by decide +kernel, (by decide +kernel : (parseMethodDescriptor yX2_pass.desc).map (fun d => d.parameters.length) = some 3)⟩ ⟨Nat.le_of_ble_eq_true rfl, Nat.le_of_ble_eq_true rfl⟩ hl.1 rfl (Nat.le_of_ble_eq_true rfl) ⟨Nat.le_of_ble_eq_true rfl, Nat.le_of_ble_eq_true rfl⟩ dL_law_468 (fun H locs h1 h2 hS => ?_)
        refine lv_aload_n hx hb dL_law_471 rfl (lv_at hl 1 rfl) ?_
        refine lv_aload_n hx hb dL_law_472 rfl (lv_at hl 3 rfl) ?_
        refine lv_iload_n hx hb dL_law_473 rfl (lv_at hl 0 rfl) ?_
        refine lv_iconst (v := nI 1) hx hb dL_law_474 (by decide) ?_
        refine lv_iadd hx hb dL_law_475 ?_
        refine k_ti (nI_add i 1) ?_
        refine va_sld hx hb hX hbl hbA hS (vp_in_nI (show i + 1 < L by omega) (by omega)) dL_law_476 ?_
        refine k_ti (congrArg xs (nI_clamp (n := i + 1) (by omega))) ?_
        refine lv_aload_n hx hb dL_law_477 rfl (lv_at hl 3 rfl) ?_
        refine lv_iload_n hx hb dL_law_478 rfl (lv_at hl 0 rfl) ?_
        refine lv_iconst (v := nI 2) hx hb dL_law_479 (by decide) ?_
        refine lv_iadd hx hb dL_law_480 ?_
        refine k_ti (nI_add i 2) ?_
        refine va_sld hx hb hX hbl hbA hS (vp_in_nI (show i + 2 < L by omega) (by omega)) dL_law_481 ?_
        refine k_ti (congrArg xs (nI_clamp (n := i + 2) (by omega))) ?_
        refine lv_aload_n hx hb dL_law_482 rfl (lv_at hl 3 rfl) ?_
        refine lv_iload_n hx hb dL_law_483 rfl (lv_at hl 0 rfl) ?_
        refine lv_iconst (v := nI 3) hx hb dL_law_484 (by decide) ?_
        refine lv_iadd hx hb dL_law_485 ?_
        refine k_ti (nI_add i 3) ?_
        refine va_sld hx hb hX hbl hbA hS (vp_in_nI (show i + 3 < L by omega) (by omega)) dL_law_486 ?_
        refine k_ti (congrArg xs (nI_clamp (n := i + 3) (by omega))) ?_
        refine lawR (w := pPass n u (xs (i + 1)) (xs (i + 2)) (xs (i + 3))) (As := [.int (xs (i + 1)), .int (xs (i + 2)), .int (xs (i + 3))]) (rest := [.int (pPass n u (xs (i + 1)) (xs (i + 2)) (xs (i + 3))).1]) X hK hF h1 h2 hS rfl (m3_pass l (kL G0 L2 n) u Y hF.2.1 hI hY (xs (i + 1)) (xs (i + 2)) (xs (i + 3))) ⟨rfl, rfl⟩ tw_3_73 tw_3_74 tw_3_75 tw_1_6 tw_3_76 ⟨by decide +kernel, by decide +kernel, (by decide +kernel : (parseMethodDescriptor yX3_pass.desc).map (fun d => d.parameters.length) = some 3)⟩ ⟨Nat.le_of_ble_eq_true rfl, Nat.le_of_ble_eq_true rfl⟩ hl.1 rfl (Nat.le_of_ble_eq_true rfl) ⟨Nat.le_of_ble_eq_true rfl, Nat.le_of_ble_eq_true rfl⟩ dL_law_487 (fun Y1 H locs hY1 h1 h2 hS => ?_)
        refine lv_icmp_eq (tgt := 729) hx hb dL_law_490 (by decide) (fun _ => ?_) (fun c => absurd rfl c)
        exact next _ Y1 H locs (pPass_inv (G := kL G0 L1 n) hI (xs (i + 1)) (xs (i + 2)) (xs (i + 3))) hY1 h1 h2 hS
      · refine lv_tableIn (off := 452) (tgt := 495) hx hb dL_law_43 (by decide) (by decide) (by decide +kernel) (by decide) ?_
        refine lv_aload_n hx hb dL_law_495 rfl (lv_at hl 2 rfl) ?_
        refine lv_aload_n hx hb dL_law_496 rfl (lv_at hl 3 rfl) ?_
        refine lv_iload_n hx hb dL_law_497 rfl (lv_at hl 0 rfl) ?_
        refine lv_iconst (v := nI 1) hx hb dL_law_498 (by decide) ?_
        refine lv_iadd hx hb dL_law_499 ?_
        refine k_ti (nI_add i 1) ?_
        refine va_sld hx hb hX hbl hbA hS (vp_in_nI (show i + 1 < L by omega) (by omega)) dL_law_500 ?_
        refine k_ti (congrArg xs (nI_clamp (n := i + 1) (by omega))) ?_
        refine lv_aload_n hx hb dL_law_501 rfl (lv_at hl 3 rfl) ?_
        refine lv_iload_n hx hb dL_law_502 rfl (lv_at hl 0 rfl) ?_
        refine lv_iconst (v := nI 2) hx hb dL_law_503 (by decide) ?_
        refine lv_iadd hx hb dL_law_504 ?_
        refine k_ti (nI_add i 2) ?_
        refine va_sld hx hb hX hbl hbA hS (vp_in_nI (show i + 2 < L by omega) (by omega)) dL_law_505 ?_
        refine k_ti (congrArg xs (nI_clamp (n := i + 2) (by omega))) ?_
        refine lawC (w := pAbout u (xs (i + 1)) (xs (i + 2))) (As := [.int (xs (i + 1)), .int (xs (i + 2))]) (rest := []) X hK hF h1 h2 hS rfl (m2_about l (kL G0 L1 n) u hF.1 hI.1.1 (xs (i + 1)) (xs (i + 2))) ⟨rfl, rfl⟩ tw_2_83 tw_2_84 tw_2_85 tw_1_1 tw_2_86 ⟨by decide +kernel, by decide +kernel, (by decide +kernel : (parseMethodDescriptor yX2_about.desc).map (fun d => d.parameters.length) = some 2)⟩ ⟨Nat.le_of_ble_eq_true rfl, Nat.le_of_ble_eq_true rfl⟩ hl.1 rfl (Nat.le_of_ble_eq_true rfl) ⟨Nat.le_of_ble_eq_true rfl, Nat.le_of_ble_eq_true rfl⟩ dL_law_506 (fun H locs h1 h2 hS => ?_)
        refine lv_aload_n hx hb dL_law_509 rfl (lv_at hl 1 rfl) ?_
        refine lv_aload_n hx hb dL_law_510 rfl (lv_at hl 3 rfl) ?_
        refine lv_iload_n hx hb dL_law_511 rfl (lv_at hl 0 rfl) ?_
        refine lv_iconst (v := nI 1) hx hb dL_law_512 (by decide) ?_
        refine lv_iadd hx hb dL_law_513 ?_
        refine k_ti (nI_add i 1) ?_
        refine va_sld hx hb hX hbl hbA hS (vp_in_nI (show i + 1 < L by omega) (by omega)) dL_law_514 ?_
        refine k_ti (congrArg xs (nI_clamp (n := i + 1) (by omega))) ?_
        refine lv_aload_n hx hb dL_law_515 rfl (lv_at hl 3 rfl) ?_
        refine lv_iload_n hx hb dL_law_516 rfl (lv_at hl 0 rfl) ?_
        refine lv_iconst (v := nI 2) hx hb dL_law_517 (by decide) ?_
        refine lv_iadd hx hb dL_law_518 ?_
        refine k_ti (nI_add i 2) ?_
        refine va_sld hx hb hX hbl hbA hS (vp_in_nI (show i + 2 < L by omega) (by omega)) dL_law_519 ?_
        refine k_ti (congrArg xs (nI_clamp (n := i + 2) (by omega))) ?_
        refine lawR (w := pAbout u (xs (i + 1)) (xs (i + 2))) (As := [.int (xs (i + 1)), .int (xs (i + 2))]) (rest := [.int (pAbout u (xs (i + 1)) (xs (i + 2))).1]) X hK hF h1 h2 hS rfl (m3_about l (kL G0 L2 n) u Y hF.2.1 hI hY (xs (i + 1)) (xs (i + 2))) ⟨rfl, rfl⟩ tw_3_77 tw_3_78 tw_3_79 tw_1_6 tw_3_80 ⟨by decide +kernel, by decide +kernel, (by decide +kernel : (parseMethodDescriptor yX3_about.desc).map (fun d => d.parameters.length) = some 2)⟩ ⟨Nat.le_of_ble_eq_true rfl, Nat.le_of_ble_eq_true rfl⟩ hl.1 rfl (Nat.le_of_ble_eq_true rfl) ⟨Nat.le_of_ble_eq_true rfl, Nat.le_of_ble_eq_true rfl⟩ dL_law_520 (fun Y1 H locs hY1 h1 h2 hS => ?_)
        refine lv_icmp_eq (tgt := 729) hx hb dL_law_523 (by decide) (fun _ => ?_) (fun c => absurd rfl c)
        exact next _ Y1 H locs (pAbout_inv (G := kL G0 L1 n) hI (xs (i + 1)) (xs (i + 2))) hY1 h1 h2 hS
      · refine lv_tableIn (off := 485) (tgt := 528) hx hb dL_law_43 (by decide) (by decide) (by decide +kernel) (by decide) ?_
        refine lv_aload_n hx hb dL_law_528 rfl (lv_at hl 2 rfl) ?_
        refine lv_aload_n hx hb dL_law_529 rfl (lv_at hl 3 rfl) ?_
        refine lv_iload_n hx hb dL_law_530 rfl (lv_at hl 0 rfl) ?_
        refine lv_iconst (v := nI 1) hx hb dL_law_531 (by decide) ?_
        refine lv_iadd hx hb dL_law_532 ?_
        refine k_ti (nI_add i 1) ?_
        refine va_sld hx hb hX hbl hbA hS (vp_in_nI (show i + 1 < L by omega) (by omega)) dL_law_533 ?_
        refine k_ti (congrArg xs (nI_clamp (n := i + 1) (by omega))) ?_
        refine lv_aload_n hx hb dL_law_534 rfl (lv_at hl 3 rfl) ?_
        refine lv_iload_n hx hb dL_law_535 rfl (lv_at hl 0 rfl) ?_
        refine lv_iconst (v := nI 2) hx hb dL_law_536 (by decide) ?_
        refine lv_iadd hx hb dL_law_537 ?_
        refine k_ti (nI_add i 2) ?_
        refine va_sld hx hb hX hbl hbA hS (vp_in_nI (show i + 2 < L by omega) (by omega)) dL_law_538 ?_
        refine k_ti (congrArg xs (nI_clamp (n := i + 2) (by omega))) ?_
        refine lawC (w := pSeen n u (xs (i + 1)) (xs (i + 2))) (As := [.int (xs (i + 1)), .int (xs (i + 2))]) (rest := []) X hK hF h1 h2 hS rfl (m2_seen l (kL G0 L1 n) u hF.1 hI.1.1 (xs (i + 1)) (xs (i + 2))) ⟨rfl, rfl⟩ tw_2_87 tw_2_88 tw_2_89 tw_1_1 tw_2_90 ⟨by decide +kernel, by decide +kernel, (by decide +kernel : (parseMethodDescriptor yX2_seen.desc).map (fun d => d.parameters.length) = some 2)⟩ ⟨Nat.le_of_ble_eq_true rfl, Nat.le_of_ble_eq_true rfl⟩ hl.1 rfl (Nat.le_of_ble_eq_true rfl) ⟨Nat.le_of_ble_eq_true rfl, Nat.le_of_ble_eq_true rfl⟩ dL_law_539 (fun H locs h1 h2 hS => ?_)
        refine lv_aload_n hx hb dL_law_542 rfl (lv_at hl 1 rfl) ?_
        refine lv_aload_n hx hb dL_law_543 rfl (lv_at hl 3 rfl) ?_
        refine lv_iload_n hx hb dL_law_544 rfl (lv_at hl 0 rfl) ?_
        refine lv_iconst (v := nI 1) hx hb dL_law_545 (by decide) ?_
        refine lv_iadd hx hb dL_law_546 ?_
        refine k_ti (nI_add i 1) ?_
        refine va_sld hx hb hX hbl hbA hS (vp_in_nI (show i + 1 < L by omega) (by omega)) dL_law_547 ?_
        refine k_ti (congrArg xs (nI_clamp (n := i + 1) (by omega))) ?_
        refine lv_aload_n hx hb dL_law_548 rfl (lv_at hl 3 rfl) ?_
        refine lv_iload_n hx hb dL_law_549 rfl (lv_at hl 0 rfl) ?_
        refine lv_iconst (v := nI 2) hx hb dL_law_550 (by decide) ?_
        refine lv_iadd hx hb dL_law_551 ?_
        refine k_ti (nI_add i 2) ?_
        refine va_sld hx hb hX hbl hbA hS (vp_in_nI (show i + 2 < L by omega) (by omega)) dL_law_552 ?_
        refine k_ti (congrArg xs (nI_clamp (n := i + 2) (by omega))) ?_
        refine lawR (w := pSeen n u (xs (i + 1)) (xs (i + 2))) (As := [.int (xs (i + 1)), .int (xs (i + 2))]) (rest := [.int (pSeen n u (xs (i + 1)) (xs (i + 2))).1]) X hK hF h1 h2 hS rfl (m3_seen l (kL G0 L2 n) u Y hF.2.1 hI hY (xs (i + 1)) (xs (i + 2))) ⟨rfl, rfl⟩ tw_3_82 tw_3_83 tw_3_84 tw_1_6 tw_3_85 ⟨by decide +kernel, by decide +kernel, (by decide +kernel : (parseMethodDescriptor yX3_seen.desc).map (fun d => d.parameters.length) = some 2)⟩ ⟨Nat.le_of_ble_eq_true rfl, Nat.le_of_ble_eq_true rfl⟩ hl.1 rfl (Nat.le_of_ble_eq_true rfl) ⟨Nat.le_of_ble_eq_true rfl, Nat.le_of_ble_eq_true rfl⟩ dL_law_553 (fun Y1 H locs hY1 h1 h2 hS => ?_)
        refine lv_icmp_eq (tgt := 729) hx hb dL_law_556 (by decide) (fun _ => ?_) (fun c => absurd rfl c)
        exact next _ Y1 H locs (pSeen_inv (G := kL G0 L1 n) hI (xs (i + 1)) (xs (i + 2))) hY1 h1 h2 hS
      · refine lv_tableIn (off := 518) (tgt := 561) hx hb dL_law_43 (by decide) (by decide) (by decide +kernel) (by decide) ?_
        refine lv_aload_n hx hb dL_law_561 rfl (lv_at hl 2 rfl) ?_
        refine lv_aload_n hx hb dL_law_562 rfl (lv_at hl 3 rfl) ?_
        refine lv_iload_n hx hb dL_law_563 rfl (lv_at hl 0 rfl) ?_
        refine lv_iconst (v := nI 1) hx hb dL_law_564 (by decide) ?_
        refine lv_iadd hx hb dL_law_565 ?_
        refine k_ti (nI_add i 1) ?_
        refine va_sld hx hb hX hbl hbA hS (vp_in_nI (show i + 1 < L by omega) (by omega)) dL_law_566 ?_
        refine k_ti (congrArg xs (nI_clamp (n := i + 1) (by omega))) ?_
        refine lv_aload_n hx hb dL_law_567 rfl (lv_at hl 3 rfl) ?_
        refine lv_iload_n hx hb dL_law_568 rfl (lv_at hl 0 rfl) ?_
        refine lv_iconst (v := nI 2) hx hb dL_law_569 (by decide) ?_
        refine lv_iadd hx hb dL_law_570 ?_
        refine k_ti (nI_add i 2) ?_
        refine va_sld hx hb hX hbl hbA hS (vp_in_nI (show i + 2 < L by omega) (by omega)) dL_law_571 ?_
        refine k_ti (congrArg xs (nI_clamp (n := i + 2) (by omega))) ?_
        refine lawC (w := pVotes n u (xs (i + 1)) (xs (i + 2))) (As := [.int (xs (i + 1)), .int (xs (i + 2))]) (rest := []) X hK hF h1 h2 hS rfl (m2_votes l (kL G0 L1 n) u hF.1 hI.1.1 (xs (i + 1)) (xs (i + 2))) ⟨rfl, rfl⟩ tw_2_91 tw_2_92 tw_2_93 tw_1_1 tw_2_94 ⟨by decide +kernel, by decide +kernel, (by decide +kernel : (parseMethodDescriptor yX2_votes.desc).map (fun d => d.parameters.length) = some 2)⟩ ⟨Nat.le_of_ble_eq_true rfl, Nat.le_of_ble_eq_true rfl⟩ hl.1 rfl (Nat.le_of_ble_eq_true rfl) ⟨Nat.le_of_ble_eq_true rfl, Nat.le_of_ble_eq_true rfl⟩ dL_law_572 (fun H locs h1 h2 hS => ?_)
        refine lv_aload_n hx hb dL_law_575 rfl (lv_at hl 1 rfl) ?_
        refine lv_aload_n hx hb dL_law_576 rfl (lv_at hl 3 rfl) ?_
        refine lv_iload_n hx hb dL_law_577 rfl (lv_at hl 0 rfl) ?_
        refine lv_iconst (v := nI 1) hx hb dL_law_578 (by decide) ?_
        refine lv_iadd hx hb dL_law_579 ?_
        refine k_ti (nI_add i 1) ?_
        refine va_sld hx hb hX hbl hbA hS (vp_in_nI (show i + 1 < L by omega) (by omega)) dL_law_580 ?_
        refine k_ti (congrArg xs (nI_clamp (n := i + 1) (by omega))) ?_
        refine lv_aload_n hx hb dL_law_581 rfl (lv_at hl 3 rfl) ?_
        refine lv_iload_n hx hb dL_law_582 rfl (lv_at hl 0 rfl) ?_
        refine lv_iconst (v := nI 2) hx hb dL_law_583 (by decide) ?_
        refine lv_iadd hx hb dL_law_584 ?_
        refine k_ti (nI_add i 2) ?_
        refine va_sld hx hb hX hbl hbA hS (vp_in_nI (show i + 2 < L by omega) (by omega)) dL_law_585 ?_
        refine k_ti (congrArg xs (nI_clamp (n := i + 2) (by omega))) ?_
        refine lawR (w := pVotes n u (xs (i + 1)) (xs (i + 2))) (As := [.int (xs (i + 1)), .int (xs (i + 2))]) (rest := [.int (pVotes n u (xs (i + 1)) (xs (i + 2))).1]) X hK hF h1 h2 hS rfl (m3_votes l (kL G0 L2 n) u Y hF.2.1 hI hY (xs (i + 1)) (xs (i + 2))) ⟨rfl, rfl⟩ tw_3_86 tw_3_87 tw_3_88 tw_1_6 tw_3_89 ⟨by decide +kernel, by decide +kernel, (by decide +kernel : (parseMethodDescriptor yX3_votes.desc).map (fun d => d.parameters.length) = some 2)⟩ ⟨Nat.le_of_ble_eq_true rfl, Nat.le_of_ble_eq_true rfl⟩ hl.1 rfl (Nat.le_of_ble_eq_true rfl) ⟨Nat.le_of_ble_eq_true rfl, Nat.le_of_ble_eq_true rfl⟩ dL_law_586 (fun Y1 H locs hY1 h1 h2 hS => ?_)
        refine lv_icmp_eq (tgt := 729) hx hb dL_law_589 (by decide) (fun _ => ?_) (fun c => absurd rfl c)
        exact next _ Y1 H locs (pVotes_inv (G := kL G0 L1 n) hI (xs (i + 1)) (xs (i + 2))) hY1 h1 h2 hS
      · refine lv_tableIn (off := 551) (tgt := 594) hx hb dL_law_43 (by decide) (by decide) (by decide +kernel) (by decide) ?_
        refine lv_aload_n hx hb dL_law_594 rfl (lv_at hl 2 rfl) ?_
        refine lv_aload_n hx hb dL_law_595 rfl (lv_at hl 3 rfl) ?_
        refine lv_iload_n hx hb dL_law_596 rfl (lv_at hl 0 rfl) ?_
        refine lv_iconst (v := nI 1) hx hb dL_law_597 (by decide) ?_
        refine lv_iadd hx hb dL_law_598 ?_
        refine k_ti (nI_add i 1) ?_
        refine va_sld hx hb hX hbl hbA hS (vp_in_nI (show i + 1 < L by omega) (by omega)) dL_law_599 ?_
        refine k_ti (congrArg xs (nI_clamp (n := i + 1) (by omega))) ?_
        refine lv_aload_n hx hb dL_law_600 rfl (lv_at hl 3 rfl) ?_
        refine lv_iload_n hx hb dL_law_601 rfl (lv_at hl 0 rfl) ?_
        refine lv_iconst (v := nI 2) hx hb dL_law_602 (by decide) ?_
        refine lv_iadd hx hb dL_law_603 ?_
        refine k_ti (nI_add i 2) ?_
        refine va_sld hx hb hX hbl hbA hS (vp_in_nI (show i + 2 < L by omega) (by omega)) dL_law_604 ?_
        refine k_ti (congrArg xs (nI_clamp (n := i + 2) (by omega))) ?_
        refine lawC (w := pVoted n u (xs (i + 1)) (xs (i + 2))) (As := [.int (xs (i + 1)), .int (xs (i + 2))]) (rest := []) X hK hF h1 h2 hS rfl (m2_voted l (kL G0 L1 n) u hF.1 hI.1.1 (xs (i + 1)) (xs (i + 2))) ⟨rfl, rfl⟩ tw_2_95 tw_2_96 tw_2_97 tw_1_1 tw_2_98 ⟨by decide +kernel, by decide +kernel, (by decide +kernel : (parseMethodDescriptor yX2_voted.desc).map (fun d => d.parameters.length) = some 2)⟩ ⟨Nat.le_of_ble_eq_true rfl, Nat.le_of_ble_eq_true rfl⟩ hl.1 rfl (Nat.le_of_ble_eq_true rfl) ⟨Nat.le_of_ble_eq_true rfl, Nat.le_of_ble_eq_true rfl⟩ dL_law_605 (fun H locs h1 h2 hS => ?_)
        refine lv_aload_n hx hb dL_law_608 rfl (lv_at hl 1 rfl) ?_
        refine lv_aload_n hx hb dL_law_609 rfl (lv_at hl 3 rfl) ?_
        refine lv_iload_n hx hb dL_law_610 rfl (lv_at hl 0 rfl) ?_
        refine lv_iconst (v := nI 1) hx hb dL_law_611 (by decide) ?_
        refine lv_iadd hx hb dL_law_612 ?_
        refine k_ti (nI_add i 1) ?_
        refine va_sld hx hb hX hbl hbA hS (vp_in_nI (show i + 1 < L by omega) (by omega)) dL_law_613 ?_
        refine k_ti (congrArg xs (nI_clamp (n := i + 1) (by omega))) ?_
        refine lv_aload_n hx hb dL_law_614 rfl (lv_at hl 3 rfl) ?_
        refine lv_iload_n hx hb dL_law_615 rfl (lv_at hl 0 rfl) ?_
        refine lv_iconst (v := nI 2) hx hb dL_law_616 (by decide) ?_
        refine lv_iadd hx hb dL_law_617 ?_
        refine k_ti (nI_add i 2) ?_
        refine va_sld hx hb hX hbl hbA hS (vp_in_nI (show i + 2 < L by omega) (by omega)) dL_law_618 ?_
        refine k_ti (congrArg xs (nI_clamp (n := i + 2) (by omega))) ?_
        refine lawR (w := pVoted n u (xs (i + 1)) (xs (i + 2))) (As := [.int (xs (i + 1)), .int (xs (i + 2))]) (rest := [.int (pVoted n u (xs (i + 1)) (xs (i + 2))).1]) X hK hF h1 h2 hS rfl (m3_voted l (kL G0 L2 n) u Y hF.2.1 hI hY (xs (i + 1)) (xs (i + 2))) ⟨rfl, rfl⟩ tw_3_90 tw_3_91 tw_3_92 tw_1_6 tw_3_93 ⟨by decide +kernel, by decide +kernel, (by decide +kernel : (parseMethodDescriptor yX3_voted.desc).map (fun d => d.parameters.length) = some 2)⟩ ⟨Nat.le_of_ble_eq_true rfl, Nat.le_of_ble_eq_true rfl⟩ hl.1 rfl (Nat.le_of_ble_eq_true rfl) ⟨Nat.le_of_ble_eq_true rfl, Nat.le_of_ble_eq_true rfl⟩ dL_law_619 (fun Y1 H locs hY1 h1 h2 hS => ?_)
        refine lv_icmp_eq (tgt := 729) hx hb dL_law_622 (by decide) (fun _ => ?_) (fun c => absurd rfl c)
        exact next _ Y1 H locs (pVoted_inv (G := kL G0 L1 n) hI (xs (i + 1)) (xs (i + 2))) hY1 h1 h2 hS
      · refine lv_tableIn (off := 584) (tgt := 627) hx hb dL_law_43 (by decide) (by decide) (by decide +kernel) (by decide) ?_
        refine lv_aload_n hx hb dL_law_627 rfl (lv_at hl 2 rfl) ?_
        refine lv_aload_n hx hb dL_law_628 rfl (lv_at hl 3 rfl) ?_
        refine lv_iload_n hx hb dL_law_629 rfl (lv_at hl 0 rfl) ?_
        refine lv_iconst (v := nI 1) hx hb dL_law_630 (by decide) ?_
        refine lv_iadd hx hb dL_law_631 ?_
        refine k_ti (nI_add i 1) ?_
        refine va_sld hx hb hX hbl hbA hS (vp_in_nI (show i + 1 < L by omega) (by omega)) dL_law_632 ?_
        refine k_ti (congrArg xs (nI_clamp (n := i + 1) (by omega))) ?_
        refine lv_aload_n hx hb dL_law_633 rfl (lv_at hl 3 rfl) ?_
        refine lv_iload_n hx hb dL_law_634 rfl (lv_at hl 0 rfl) ?_
        refine lv_iconst (v := nI 2) hx hb dL_law_635 (by decide) ?_
        refine lv_iadd hx hb dL_law_636 ?_
        refine k_ti (nI_add i 2) ?_
        refine va_sld hx hb hX hbl hbA hS (vp_in_nI (show i + 2 < L by omega) (by omega)) dL_law_637 ?_
        refine k_ti (congrArg xs (nI_clamp (n := i + 2) (by omega))) ?_
        refine lawC (w := pReach n u (xs (i + 1)) (xs (i + 2))) (As := [.int (xs (i + 1)), .int (xs (i + 2))]) (rest := []) X hK hF h1 h2 hS rfl (m2_reach l (kL G0 L1 n) u hF.1 hI.1.1 (xs (i + 1)) (xs (i + 2))) ⟨rfl, rfl⟩ tw_2_99 tw_2_100 tw_2_101 tw_1_1 tw_2_102 ⟨by decide +kernel, by decide +kernel, (by decide +kernel : (parseMethodDescriptor yX2_reach.desc).map (fun d => d.parameters.length) = some 2)⟩ ⟨Nat.le_of_ble_eq_true rfl, Nat.le_of_ble_eq_true rfl⟩ hl.1 rfl (Nat.le_of_ble_eq_true rfl) ⟨Nat.le_of_ble_eq_true rfl, Nat.le_of_ble_eq_true rfl⟩ dL_law_638 (fun H locs h1 h2 hS => ?_)
        refine lv_aload_n hx hb dL_law_641 rfl (lv_at hl 1 rfl) ?_
        refine lv_aload_n hx hb dL_law_642 rfl (lv_at hl 3 rfl) ?_
        refine lv_iload_n hx hb dL_law_643 rfl (lv_at hl 0 rfl) ?_
        refine lv_iconst (v := nI 1) hx hb dL_law_644 (by decide) ?_
        refine lv_iadd hx hb dL_law_645 ?_
        refine k_ti (nI_add i 1) ?_
        refine va_sld hx hb hX hbl hbA hS (vp_in_nI (show i + 1 < L by omega) (by omega)) dL_law_646 ?_
        refine k_ti (congrArg xs (nI_clamp (n := i + 1) (by omega))) ?_
        refine lv_aload_n hx hb dL_law_647 rfl (lv_at hl 3 rfl) ?_
        refine lv_iload_n hx hb dL_law_648 rfl (lv_at hl 0 rfl) ?_
        refine lv_iconst (v := nI 2) hx hb dL_law_649 (by decide) ?_
        refine lv_iadd hx hb dL_law_650 ?_
        refine k_ti (nI_add i 2) ?_
        refine va_sld hx hb hX hbl hbA hS (vp_in_nI (show i + 2 < L by omega) (by omega)) dL_law_651 ?_
        refine k_ti (congrArg xs (nI_clamp (n := i + 2) (by omega))) ?_
        refine lawR (w := pReach n u (xs (i + 1)) (xs (i + 2))) (As := [.int (xs (i + 1)), .int (xs (i + 2))]) (rest := [.int (pReach n u (xs (i + 1)) (xs (i + 2))).1]) X hK hF h1 h2 hS rfl (m3_reach l (kL G0 L2 n) u Y hF.2.1 hI hY (xs (i + 1)) (xs (i + 2))) ⟨rfl, rfl⟩ tw_3_94 tw_3_95 tw_3_96 tw_1_6 tw_3_97 ⟨by decide +kernel, by decide +kernel, (by decide +kernel : (parseMethodDescriptor yX3_reach.desc).map (fun d => d.parameters.length) = some 2)⟩ ⟨Nat.le_of_ble_eq_true rfl, Nat.le_of_ble_eq_true rfl⟩ hl.1 rfl (Nat.le_of_ble_eq_true rfl) ⟨Nat.le_of_ble_eq_true rfl, Nat.le_of_ble_eq_true rfl⟩ dL_law_652 (fun Y1 H locs hY1 h1 h2 hS => ?_)
        refine lv_icmp_eq (tgt := 729) hx hb dL_law_655 (by decide) (fun _ => ?_) (fun c => absurd rfl c)
        exact next _ Y1 H locs (pReach_inv (G := kL G0 L1 n) hI (xs (i + 1)) (xs (i + 2))) hY1 h1 h2 hS
      · refine lv_tableIn (off := 617) (tgt := 660) hx hb dL_law_43 (by decide) (by decide) (by decide +kernel) (by decide) ?_
        refine lv_aload_n hx hb dL_law_660 rfl (lv_at hl 2 rfl) ?_
        refine lv_aload_n hx hb dL_law_661 rfl (lv_at hl 3 rfl) ?_
        refine lv_iload_n hx hb dL_law_662 rfl (lv_at hl 0 rfl) ?_
        refine lv_iconst (v := nI 1) hx hb dL_law_663 (by decide) ?_
        refine lv_iadd hx hb dL_law_664 ?_
        refine k_ti (nI_add i 1) ?_
        refine va_sld hx hb hX hbl hbA hS (vp_in_nI (show i + 1 < L by omega) (by omega)) dL_law_665 ?_
        refine k_ti (congrArg xs (nI_clamp (n := i + 1) (by omega))) ?_
        refine lv_aload_n hx hb dL_law_666 rfl (lv_at hl 3 rfl) ?_
        refine lv_iload_n hx hb dL_law_667 rfl (lv_at hl 0 rfl) ?_
        refine lv_iconst (v := nI 2) hx hb dL_law_668 (by decide) ?_
        refine lv_iadd hx hb dL_law_669 ?_
        refine k_ti (nI_add i 2) ?_
        refine va_sld hx hb hX hbl hbA hS (vp_in_nI (show i + 2 < L by omega) (by omega)) dL_law_670 ?_
        refine k_ti (congrArg xs (nI_clamp (n := i + 2) (by omega))) ?_
        refine lawC (w := pLedger n u (xs (i + 1)) (xs (i + 2))) (As := [.int (xs (i + 1)), .int (xs (i + 2))]) (rest := []) X hK hF h1 h2 hS rfl (m2_ledger l (kL G0 L1 n) u hF.1 hI.1.1 (xs (i + 1)) (xs (i + 2))) ⟨rfl, rfl⟩ tw_2_103 tw_2_104 tw_2_105 tw_1_1 tw_2_106 ⟨by decide +kernel, by decide +kernel, (by decide +kernel : (parseMethodDescriptor yX2_ledger.desc).map (fun d => d.parameters.length) = some 2)⟩ ⟨Nat.le_of_ble_eq_true rfl, Nat.le_of_ble_eq_true rfl⟩ hl.1 rfl (Nat.le_of_ble_eq_true rfl) ⟨Nat.le_of_ble_eq_true rfl, Nat.le_of_ble_eq_true rfl⟩ dL_law_671 (fun H locs h1 h2 hS => ?_)
        refine lv_aload_n hx hb dL_law_674 rfl (lv_at hl 1 rfl) ?_
        refine lv_aload_n hx hb dL_law_675 rfl (lv_at hl 3 rfl) ?_
        refine lv_iload_n hx hb dL_law_676 rfl (lv_at hl 0 rfl) ?_
        refine lv_iconst (v := nI 1) hx hb dL_law_677 (by decide) ?_
        refine lv_iadd hx hb dL_law_678 ?_
        refine k_ti (nI_add i 1) ?_
        refine va_sld hx hb hX hbl hbA hS (vp_in_nI (show i + 1 < L by omega) (by omega)) dL_law_679 ?_
        refine k_ti (congrArg xs (nI_clamp (n := i + 1) (by omega))) ?_
        refine lv_aload_n hx hb dL_law_680 rfl (lv_at hl 3 rfl) ?_
        refine lv_iload_n hx hb dL_law_681 rfl (lv_at hl 0 rfl) ?_
        refine lv_iconst (v := nI 2) hx hb dL_law_682 (by decide) ?_
        refine lv_iadd hx hb dL_law_683 ?_
        refine k_ti (nI_add i 2) ?_
        refine va_sld hx hb hX hbl hbA hS (vp_in_nI (show i + 2 < L by omega) (by omega)) dL_law_684 ?_
        refine k_ti (congrArg xs (nI_clamp (n := i + 2) (by omega))) ?_
        refine lawR (w := pLedger n u (xs (i + 1)) (xs (i + 2))) (As := [.int (xs (i + 1)), .int (xs (i + 2))]) (rest := [.int (pLedger n u (xs (i + 1)) (xs (i + 2))).1]) X hK hF h1 h2 hS rfl (m3_ledger l (kL G0 L2 n) u Y hF.2.1 hI hY (xs (i + 1)) (xs (i + 2))) ⟨rfl, rfl⟩ tw_3_99 tw_3_100 tw_3_101 tw_1_6 tw_3_102 ⟨by decide +kernel, by decide +kernel, (by decide +kernel : (parseMethodDescriptor yX3_ledger.desc).map (fun d => d.parameters.length) = some 2)⟩ ⟨Nat.le_of_ble_eq_true rfl, Nat.le_of_ble_eq_true rfl⟩ hl.1 rfl (Nat.le_of_ble_eq_true rfl) ⟨Nat.le_of_ble_eq_true rfl, Nat.le_of_ble_eq_true rfl⟩ dL_law_685 (fun Y1 H locs hY1 h1 h2 hS => ?_)
        refine lv_icmp_eq (tgt := 729) hx hb dL_law_688 (by decide) (fun _ => ?_) (fun c => absurd rfl c)
        exact next _ Y1 H locs (pLedger_inv (G := kL G0 L1 n) hI (xs (i + 1)) (xs (i + 2))) hY1 h1 h2 hS
      · refine lv_tableIn (off := 650) (tgt := 693) hx hb dL_law_43 (by decide) (by decide) (by decide +kernel) (by decide) ?_
        refine lv_aload_n hx hb dL_law_693 rfl (lv_at hl 2 rfl) ?_
        refine lawC (w := pAgree n u) (As := []) (rest := []) X hK hF h1 h2 hS rfl (m2_agree l (kL G0 L1 n) u hF.1 hI.1.1) ⟨rfl, rfl⟩ tw_2_110 tw_2_111 tw_2_112 tw_1_1 tw_2_113 ⟨by decide +kernel, by decide +kernel, (by decide +kernel : (parseMethodDescriptor yX2_agree.desc).map (fun d => d.parameters.length) = some 0)⟩ ⟨Nat.le_of_ble_eq_true rfl, Nat.le_of_ble_eq_true rfl⟩ hl.1 rfl (Nat.le_of_ble_eq_true rfl) ⟨Nat.le_of_ble_eq_true rfl, Nat.le_of_ble_eq_true rfl⟩ dL_law_694 (fun H locs h1 h2 hS => ?_)
        refine lv_aload_n hx hb dL_law_697 rfl (lv_at hl 1 rfl) ?_
        refine lawR (w := pAgree n u) (As := []) (rest := [.int (pAgree n u).1]) X hK hF h1 h2 hS rfl (m3_agree l (kL G0 L2 n) u Y hF.2.1 hI hY) ⟨rfl, rfl⟩ tw_3_103 tw_3_104 tw_3_105 tw_1_6 tw_3_106 ⟨by decide +kernel, by decide +kernel, (by decide +kernel : (parseMethodDescriptor yX3_agree.desc).map (fun d => d.parameters.length) = some 0)⟩ ⟨Nat.le_of_ble_eq_true rfl, Nat.le_of_ble_eq_true rfl⟩ hl.1 rfl (Nat.le_of_ble_eq_true rfl) ⟨Nat.le_of_ble_eq_true rfl, Nat.le_of_ble_eq_true rfl⟩ dL_law_698 (fun Y1 H locs hY1 h1 h2 hS => ?_)
        refine lv_icmp_eq (tgt := 729) hx hb dL_law_701 (by decide) (fun _ => ?_) (fun c => absurd rfl c)
        exact next _ Y1 H locs (pAgree_inv (G := kL G0 L1 n) hI) hY1 h1 h2 hS
      · refine lv_tableIn (off := 663) (tgt := 706) hx hb dL_law_43 (by decide) (by decide) (by decide +kernel) (by decide) ?_
        refine lv_aload_n hx hb dL_law_706 rfl (lv_at hl 2 rfl) ?_
        refine lv_aload_n hx hb dL_law_707 rfl (lv_at hl 3 rfl) ?_
        refine lv_iload_n hx hb dL_law_708 rfl (lv_at hl 0 rfl) ?_
        refine lv_iconst (v := nI 1) hx hb dL_law_709 (by decide) ?_
        refine lv_iadd hx hb dL_law_710 ?_
        refine k_ti (nI_add i 1) ?_
        refine va_sld hx hb hX hbl hbA hS (vp_in_nI (show i + 1 < L by omega) (by omega)) dL_law_711 ?_
        refine k_ti (congrArg xs (nI_clamp (n := i + 1) (by omega))) ?_
        refine lawC (w := pCount n u (xs (i + 1))) (As := [.int (xs (i + 1))]) (rest := []) X hK hF h1 h2 hS rfl (m2_count l (kL G0 L1 n) u hF.1 hI.1.1 (xs (i + 1))) ⟨rfl, rfl⟩ tw_2_118 tw_2_119 tw_2_120 tw_1_1 tw_2_121 ⟨by decide +kernel, by decide +kernel, (by decide +kernel : (parseMethodDescriptor yX2_count.desc).map (fun d => d.parameters.length) = some 1)⟩ ⟨Nat.le_of_ble_eq_true rfl, Nat.le_of_ble_eq_true rfl⟩ hl.1 rfl (Nat.le_of_ble_eq_true rfl) ⟨Nat.le_of_ble_eq_true rfl, Nat.le_of_ble_eq_true rfl⟩ dL_law_712 (fun H locs h1 h2 hS => ?_)
        refine lv_aload_n hx hb dL_law_715 rfl (lv_at hl 1 rfl) ?_
        refine lv_aload_n hx hb dL_law_716 rfl (lv_at hl 3 rfl) ?_
        refine lv_iload_n hx hb dL_law_717 rfl (lv_at hl 0 rfl) ?_
        refine lv_iconst (v := nI 1) hx hb dL_law_718 (by decide) ?_
        refine lv_iadd hx hb dL_law_719 ?_
        refine k_ti (nI_add i 1) ?_
        refine va_sld hx hb hX hbl hbA hS (vp_in_nI (show i + 1 < L by omega) (by omega)) dL_law_720 ?_
        refine k_ti (congrArg xs (nI_clamp (n := i + 1) (by omega))) ?_
        refine lawR (w := pCount n u (xs (i + 1))) (As := [.int (xs (i + 1))]) (rest := [.int (pCount n u (xs (i + 1))).1]) X hK hF h1 h2 hS rfl (m3_count l (kL G0 L2 n) u Y hF.2.1 hI hY (xs (i + 1))) ⟨rfl, rfl⟩ tw_3_111 tw_3_112 tw_3_113 tw_1_6 tw_3_114 ⟨by decide +kernel, by decide +kernel, (by decide +kernel : (parseMethodDescriptor yX3_count.desc).map (fun d => d.parameters.length) = some 1)⟩ ⟨Nat.le_of_ble_eq_true rfl, Nat.le_of_ble_eq_true rfl⟩ hl.1 rfl (Nat.le_of_ble_eq_true rfl) ⟨Nat.le_of_ble_eq_true rfl, Nat.le_of_ble_eq_true rfl⟩ dL_law_721 (fun Y1 H locs hY1 h1 h2 hS => ?_)
        refine lv_icmp_eq (tgt := 729) hx hb dL_law_724 (by decide) (fun _ => ?_) (fun c => absurd rfl c)
        exact next _ Y1 H locs (pCount_inv (G := kL G0 L1 n) hI (xs (i + 1))) hY1 h1 h2 hS
    · refine lv_tableOut (tgt := 729) hx hb dL_law_43 (sw_out (n := 18) hxj (by decide)) (by decide) ?_
      exact next u Y H locs hI hY h1 h2 hS
