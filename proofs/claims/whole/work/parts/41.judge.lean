theorem jKn_kn (M : MS) (X : XS) (v b : Nat) : xKn (jKn M X v b) = if mHs M (11 * b) v && xKn X v (mPar M b) then up2 (xKn X) v b true else xKn X := by
  unfold jKn; split <;> rfl
theorem jKn_no (M : MS) (X : XS) (v b : Nat) : xNo (jKn M X v b) = xNo X := by unfold jKn; split <;> rfl
theorem jKn_fi (M : MS) (X : XS) (v b : Nat) : xFi (jKn M X v b) = xFi X := by unfold jKn; split <;> rfl
theorem jKn_ch (M : MS) (X : XS) (v b : Nat) : xCh (jKn M X v b) = xCh X := by unfold jKn; split <;> rfl
theorem jKn_cl (M : MS) (X : XS) (v b : Nat) : xCl (jKn M X v b) = xCl X := by unfold jKn; split <;> rfl
theorem cTip_kn (M : MS) (X : XS) (v b : Nat) : xKn (cTip M X v b) = xKn X := by unfold cTip; split <;> rfl
theorem cTip_no (M : MS) (X : XS) (v b : Nat) : xNo (cTip M X v b) = xNo X := by unfold cTip; split <;> rfl
theorem cTip_fi (M : MS) (X : XS) (v b : Nat) : xFi (cTip M X v b) = xFi X := by unfold cTip; split <;> rfl
theorem cTip_ch (M : MS) (X : XS) (v b : Nat) : xCh (cTip M X v b) = xCh X := by unfold cTip; split <;> rfl
theorem cTip_cl (M : MS) (X : XS) (v b : Nat) : xCl (cTip M X v b) = xCl X := by unfold cTip; split <;> rfl
theorem cTip_at (M : MS) (X : XS) (v b : Nat) : xTp (cTip M X v b) = if better M (xTp X v) b then va_up (xTp X) v b else xTp X := by unfold cTip; split <;> rfl
theorem cFin_kn (M : MS) (X : XS) (v c p : Nat) : xKn (cFin M X v c p) = xKn X := by unfold cFin; split <;> first | rfl | (split <;> rfl)
theorem cFin_no (M : MS) (X : XS) (v c p : Nat) : xNo (cFin M X v c p) = xNo X := by unfold cFin; split <;> first | rfl | (split <;> rfl)
theorem cFin_ch (M : MS) (X : XS) (v c p : Nat) : xCh (cFin M X v c p) = xCh X := by unfold cFin; split <;> first | rfl | (split <;> rfl)
theorem cFin_cl (M : MS) (X : XS) (v c p : Nat) : xCl (cFin M X v c p) = xCl X := by unfold cFin; split <;> first | rfl | (split <;> rfl)
theorem cFin_fi (M : MS) (X : XS) (v c p : Nat) : xFi (cFin M X v c p) = if isThree M c p then va_up (xFi X) v (fun k => xFi X v k || xCh X p k) else xFi X := by unfold cFin; split <;> first | rfl | (split <;> rfl)
theorem cFin_hfa (M : MS) (X : XS) (v c p : Nat) : xHf (cFin M X v c p) = if isThree M c p then (if betterF M (xHf X v) p then va_up (xHf X) v p else xHf X) else xHf X := by unfold cFin; split <;> first | rfl | (split <;> rfl)
theorem ji_step {n : Nat} {M : MS} {v : Nat} {X0 X : XS} {i : Nat} (hp : ∀ b, 0 < b → mPar M b < b) (hcE : chE M (xCh X0)) (hh : htI M) (h0 : 0 < i) (hT : i < mT M)
    (oK : ∀ b, 0 < b → b < mT M → xKn X0 v b = true → mHs M (11 * b) v = true ∧ xKn X0 v (mPar M b) = true)
    (oN : ∀ b, 0 < b → b < mT M → xNo X0 v b = true → xKn X0 v b = true ∧ xNo X0 v (mPar M b) = true ∧ 2 * n ≤ 3 * nVo M b v)
    (h : JI n M v X0 X i) : JI n M v X0 (jStep n M X v i) (i + 1) := by
  obtain ⟨k1, k2, k3, n1, n2, n3, t1, f1, hf1, z1, c1, c2, fr⟩ := h
  have hpi := hp i h0
  rw [jStep, if_neg (Nat.ne_of_gt h0)]
  generalize hX1 : jKn M X v i = X1
  have e_no : xNo X1 = xNo X := by rw [← hX1]; exact jKn_no _ _ _ _
  have e_fi : xFi X1 = xFi X := by rw [← hX1]; exact jKn_fi _ _ _ _
  have e_tp : xTp X1 = xTp X := by rw [← hX1]; exact jKn_tp _ _ _ _
  have e_hf : xHf X1 = xHf X := by rw [← hX1]; exact jKn_hf _ _ _ _
  have e_ch : xCh X1 = xCh X := by rw [← hX1]; exact jKn_ch _ _ _ _
  have e_cl : xCl X1 = xCl X := by rw [← hX1]; exact jKn_cl _ _ _ _
  have e_kn : xKn X1 = if mHs M (11 * i) v && xKn X v (mPar M i) then up2 (xKn X) v i true else xKn X := by rw [← hX1]; exact jKn_kn _ _ _ _
  have e_b : ∀ b, b ≠ i → xKn X1 v b = xKn X v b := by
    intro b hb
    rw [e_kn]; split
    · exact up2_ne _ _ (fun q => hb q.2)
    · rfl
  have e_i : xKn X1 v i = (mHs M (11 * i) v && xKn X v (mPar M i)) := by
    rw [e_kn]; split
    · rename_i hc
      rw [up2_self, hc]
    · rename_i hc
      have hf : (mHs M (11 * i) v && xKn X v (mPar M i)) = false := by simpa using hc
      rw [hf, k2 i (Nat.le_refl _)]
      cases hk : xKn X0 v i
      · rfl
      · have := oK i h0 hT hk
        rw [this.1, k3 _ this.2] at hf
        cases hf
  have e_w : ∀ w, w ≠ v → xKn X1 w = xKn X w := by
    intro w hw
    rw [e_kn]; split
    · exact up2_rne _ _ _ hw
    · rfl
  have K1 : ∀ b, b < i + 1 → knE M v (xKn X1 v) b := by
    intro b hb
    unfold knE
    rcases Nat.eq_zero_or_pos b with q | q
    · subst q
      rw [e_b 0 (by omega), k1 0 h0]; simp
    · have hpb := hp b q
      by_cases e : b = i
      · subst e
        rw [e_i, e_b _ (by omega), decide_eq_false (by omega)]; rfl
      · rw [e_b b e, e_b _ (by omega)]
        exact k1 b (by omega)
  have K2 : ∀ b, i + 1 ≤ b → xKn X1 v b = xKn X0 v b := fun b hb => by rw [e_b b (by omega)]; exact k2 b (by omega)
  have K3 : ∀ b, xKn X0 v b = true → xKn X1 v b = true := by
    intro b hb
    by_cases e : b = i
    · subst e
      have := oK b h0 hT hb
      rw [e_i, this.1, k3 _ this.2]; rfl
    · rw [e_b b e]; exact k3 b hb
  unfold jNo
  split
  · -- notarized now
    rename_i hc
    simp only [Bool.and_eq_true, decide_eq_true_eq, Bool.not_eq_true'] at hc
    obtain ⟨hv1, hv2, hv3, hv4⟩ := hc
    rw [e_no] at hv2 hv4
    generalize hX2 : cTip M (tNo X1 (up2 (xNo X1) v i true)) v i = X2
    have a_kn : xKn X2 = xKn X1 := by rw [← hX2, cTip_kn]
    have a_no : xNo X2 = up2 (xNo X) v i true := by rw [← hX2, cTip_no, ← e_no]
    have a_fi : xFi X2 = xFi X := by rw [← hX2, cTip_fi]; exact e_fi
    have a_hf : xHf X2 = xHf X := by rw [← hX2, cTip_hf]; exact e_hf
    have a_ch : xCh X2 = xCh X0 := by rw [← hX2, cTip_ch]; exact e_ch.trans c1
    have a_cl : xCl X2 = xCl X0 := by rw [← hX2, cTip_cl]; exact e_cl.trans c2
    have a_tp : xTp X2 = if better M (xTp X v) i then va_up (xTp X) v i else xTp X := by rw [← hX2, cTip_at]; show (if better M (xTp X1 v) i then va_up (xTp X1) v i else xTp X1) = _; rw [e_tp]
    have o_b : ∀ b, b ≠ i → up2 (xNo X) v i true v b = xNo X v b := fun b hb => up2_ne _ _ (fun q => hb q.2)
    have o_i : up2 (xNo X) v i true v i = true := up2_self _ _ _ _
    have N1 : ∀ b, b < i + 1 → noE n M v (xKn X1 v) (up2 (xNo X) v i true v) b := by
      intro b hb
      unfold noE
      rcases Nat.eq_zero_or_pos b with q | q
      · subst q
        rw [o_b 0 (by omega), n1 0 h0]; simp
      · have hpb := hp b q
        by_cases e : b = i
        · subst e
          rw [o_i, o_b _ (by omega), hv3, hv4, decide_eq_true hv1]; simp
        · rw [o_b b e, o_b _ (by omega), e_b b e]
          exact n1 b (by omega)
    have T1 : tpE M (up2 (xNo X) v i true v) (mT M) (xTp X2 v) := by
      obtain ⟨g1, g2, g3⟩ := t1
      rw [a_tp]
      cases hbt : better M (xTp X v) i
      · rw [if_neg (by decide)]
        refine ⟨g1, ?_, fun b hb hb2 => ?_⟩
        · by_cases e : xTp X v = i
          · rw [e]; exact o_i
          · rw [o_b _ e]; exact g2
        · by_cases e : b = i
          · subst e; exact hbt
          · rw [o_b b e] at hb2; exact g3 b hb hb2
      · rw [if_pos rfl, va_up_self]
        have hbt' := (better_iff _ _ _).mp hbt
        refine ⟨hT, o_i, fun b hb hb2 => ?_⟩
        by_cases e : b = i
        · subst e; exact better_ff (by omega)
        · rw [o_b b e] at hb2
          have := better_nf (g3 b hb hb2)
          exact better_ff (by omega)
    have hw : ∀ w, w ≠ v → xKn X1 w = xKn X0 w ∧ up2 (xNo X) v i true w = xNo X0 w ∧ xTp X2 w = xTp X0 w := by
      intro w hw
      obtain ⟨w1, w2, -, w4, -⟩ := fr w hw
      refine ⟨(e_w w hw).trans w1, (up2_rne _ _ _ hw).trans w2, ?_⟩
      rw [a_tp]; split
      · rw [va_up_ne _ _ hw]; exact w4
      · exact w4
    have N3 : ∀ b, xNo X0 v b = true → up2 (xNo X) v i true v b = true := by
      intro b hb
      by_cases e : b = i
      · rw [e]; exact o_i
      · rw [o_b b e]; exact n3 b hb
    unfold JI
    rw [cFin_kn, cFin_no, cFin_tp, cFin_ch, cFin_cl, a_kn, a_no, a_ch, a_cl]
    have hpT : mPar M i < mT M := by omega
    have hchp := ch_le hcE hp hh (mPar M i)
    cases h3 : isThree M i (mPar M i)
    · -- nothing becomes final
      have F : xFi (cFin M X2 v i (mPar M i)) = xFi X := by rw [cFin_fi, h3, if_neg (by decide), a_fi]
      have HF : xHf (cFin M X2 v i (mPar M i)) = xHf X := by rw [cFin_hfa, h3, if_neg (by decide), a_hf]
      rw [F, HF]
      refine ⟨K1, K2, K3, N1, fun b hb => ?_, N3, T1, fun b hb => ?_, hf1, z1, rfl, rfl, fun w hw' => ⟨(hw w hw').1, (hw w hw').2.1, (fr w hw').2.2.1, (hw w hw').2.2, (fr w hw').2.2.2.2⟩⟩
      · rw [o_b b (by omega)]; exact n2 b (by omega)
      · refine (f1 b hb).trans ⟨fun q => q.imp id fun ⟨c, q1, q2, q3, q4, q5⟩ => ⟨c, q1, q2, ?_, q4, q5⟩, fun q => q.imp id fun ⟨c, q1, q2, q3, q4, q5⟩ => ⟨c, q1, q2, ?_, q4, q5⟩⟩
        · by_cases e : c = i
          · rw [e]; exact o_i
          · rw [o_b c e]; exact q3
        · by_cases e : c = i
          · rw [e, h3] at q4; cases q4
          · rw [o_b c e] at q3; exact q3
    · -- the parent's chain becomes final
      have F : xFi (cFin M X2 v i (mPar M i)) = va_up (xFi X) v (fun k => xFi X v k || xCh X0 (mPar M i) k) := by rw [cFin_fi, h3, if_pos rfl, a_fi, a_ch]
      have HF : xHf (cFin M X2 v i (mPar M i)) = if betterF M (xHf X v) (mPar M i) then va_up (xHf X) v (mPar M i) else xHf X := by rw [cFin_hfa, h3, if_pos rfl, a_hf]
      rw [F, HF, va_up_self]
      refine ⟨K1, K2, K3, N1, fun b hb => ?_, N3, T1, fun b hb => ?_, ?_, fun b hb => ?_, rfl, rfl, fun w hw' => ⟨(hw w hw').1, (hw w hw').2.1, by rw [va_up_ne _ _ hw']; exact (fr w hw').2.2.1, (hw w hw').2.2, ?_⟩⟩
      · rw [o_b b (by omega)]; exact n2 b (by omega)
      · unfold fiE
        rw [Bool.or_eq_true, show xFi X v b = true ↔ _ from f1 b hb]
        constructor
        · rintro ((q | ⟨c, q1, q2, q3, q4, q5⟩) | q)
          · exact Or.inl q
          · refine Or.inr ⟨c, q1, q2, ?_, q4, q5⟩
            by_cases e : c = i
            · rw [e]; exact o_i
            · rw [o_b c e]; exact q3
          · exact Or.inr ⟨i, h0, hT, o_i, h3, q⟩
        · rintro (q | ⟨c, q1, q2, q3, q4, q5⟩)
          · exact Or.inl (Or.inl q)
          · by_cases e : c = i
            · rw [e] at q5; exact Or.inr q5
            · rw [o_b c e] at q3
              exact Or.inl (Or.inr ⟨c, q1, q2, q3, q4, q5⟩)
      · obtain ⟨g1, g2, g3⟩ := hf1
        cases hbt : betterF M (xHf X v) (mPar M i)
        · rw [if_neg (by decide)]
          refine ⟨g1, by show (xFi X v (xHf X v) || _) = true; rw [g2]; rfl, fun b hb hb2 => ?_⟩
          have hb2 : (xFi X v b || xCh X0 (mPar M i) b) = true := hb2
          rw [Bool.or_eq_true] at hb2
          have h7 := betterF_nf hbt
          rcases hb2 with q | q
          · exact g3 b hb q
          · have := hchp b hpT q
            rcases this.2 with e | e
            · rw [e]; exact hbt
            · exact betterF_ff (by omega)
        · rw [if_pos rfl, va_up_self]
          have h7 := (betterF_iff _ _ _).mp hbt
          refine ⟨hpT, by show (_ || xCh X0 (mPar M i) (mPar M i)) = true; rw [ch_self hcE hpT, Bool.or_true], fun b hb hb2 => ?_⟩
          have hb2 : (xFi X v b || xCh X0 (mPar M i) b) = true := hb2
          rw [Bool.or_eq_true] at hb2
          rcases hb2 with q | q
          · have := betterF_nf (g3 b hb q)
            exact betterF_ff (by omega)
          · have := hchp b hpT q
            rcases this.2 with e | e
            · rw [e]; exact betterF_ff (by omega)
            · exact betterF_ff (by omega)
      · rw [z1 b hb, Bool.false_or]
        cases hq : xCh X0 (mPar M i) b
        · rfl
        · have := (hchp b hpT hq).1
          omega
      · split
        · rw [va_up_ne _ _ hw']; exact (fr w hw').2.2.2.2
        · exact (fr w hw').2.2.2.2
  · -- not now
    rename_i hc
    unfold JI
    rw [e_no, e_fi, e_tp, e_hf, e_ch, e_cl]
    refine ⟨K1, K2, K3, fun b hb => ?_, fun b hb => n2 b (by omega), n3, t1, f1, hf1, z1, c1, c2, fun w hw => ⟨(e_w w hw).trans (fr w hw).1, (fr w hw).2⟩⟩
    unfold noE
    rcases Nat.eq_zero_or_pos b with q | q
    · subst q
      rw [n1 0 h0]; simp
    · have hpb := hp b q
      by_cases e : b = i
      · subst e
        rw [decide_eq_false (by omega), Bool.false_or]
        cases hk : xNo X v b
        · rw [e_no, hk] at hc
          cases hr : (xKn X1 v b && (xNo X v (mPar M b) && decide (2 * n ≤ 3 * nVo M b v)))
          · rfl
          · simp only [Bool.and_eq_true, decide_eq_true_eq] at hr
            exact absurd (by simp [hr.1, hr.2.1, hr.2.2]) hc
        · rw [n2 b (Nat.le_refl _)] at hk
          have := oN b q hT hk
          rw [K3 b this.1, n3 _ this.2.1, decide_eq_true this.2.2]; rfl
      · rw [e_b b e]
        exact n1 b (by omega)
