/-! a new block -/
theorem Inv0_make {G : kG} {u : CS} (h : Inv0 G u) {o e v : Nat} (w : Int32) (ho : o < mT u.1) (he1 : 1 ≤ e) (he : e ≤ 40) (hT : mT u.1 ≤ 60) : Inv0 G (cMake u o e w v) := by
  have hp := inv_par h
  obtain ⟨k, r, d, ow, f, ep, o2, t, ce, cl, dv⟩ := h
  have hT1 := k.2.2.1
  have hFc := k.2.2.2.2.2.2.2.2.2.1
  have eEp : ∀ b, b < mT u.1 → mEp (mMake u.1 o e w v) b = mEp u.1 b := fun b hb => va_up_ne _ _ (by omega)
  have ePar : ∀ b, b < mT u.1 → mPar (mMake u.1 o e w v) b = mPar u.1 b := fun b hb => va_up_ne _ _ (by omega)
  have eHt : ∀ b, b < mT u.1 → mHt (mMake u.1 o e w v) b = mHt u.1 b := fun b hb => va_up_ne _ _ (by omega)
  have eLo : ∀ b, b < mT u.1 → mLo (mMake u.1 o e w v) b = mLo u.1 b := fun b hb => va_up_ne _ _ (by omega)
  have eCh : ∀ b, b < mT u.1 → xCh (xMake u.1 u.2 o w) b = xCh u.2 b := fun b hb => va_up_ne _ _ (by omega)
  have eCl : ∀ b, b < mT u.1 → xCl (xMake u.1 u.2 o w) b = xCl u.2 b := fun b hb => va_up_ne _ _ (by omega)
  have nEp : mEp (mMake u.1 o e w v) (mT u.1) = e := va_up_self _ _ _
  have nPar : mPar (mMake u.1 o e w v) (mT u.1) = o := va_up_self _ _ _
  have nHt : mHt (mMake u.1 o e w v) (mT u.1) = mHt u.1 o + 1 := va_up_self _ _ _
  have nLo : mLo (mMake u.1 o e w v) (mT u.1) = w := va_up_self _ _ _
  have nCh : xCh (xMake u.1 u.2 o w) (mT u.1) = va_up (xCh u.2 o) (mT u.1) true := va_up_self _ _ _
  have nCl : xCl (xMake u.1 u.2 o w) (mT u.1) = xCl u.2 o ||| w := va_up_self _ _ _
  have eT : mT (mMake u.1 o e w v) = mT u.1 + 1 := rfl
  have lt : ∀ b, b < mT u.1 + 1 → b < mT u.1 ∨ b = mT u.1 := fun b hb => by omega
  refine ⟨ok_make k w ho he hT, fun l' v' hq => ?_, d, ow, ⟨fun w' e' hne => ?_, fun w' b hq => ?_⟩, ⟨?_, fun b hb hbT => ?_⟩, fun v' b hv' hf hq => ?_, ⟨?_, fun b hb hbT => ?_⟩, fun b c hb => ?_, fun b hb => ?_, fun x hx => ?_⟩
  · have := r l' v' hq
    show 11 ≤ l' ∧ l' < 11 * (mT u.1 + 1) ∧ v' < gn G ∧ l' % 11 ≤ gn G
    exact ⟨this.1, by omega, this.2.2⟩
  · have := f.1 w' e' hne
    refine ⟨?_, this.2⟩
    show mEp (mMake u.1 o e w v) (mFc u.1 w' e') = e'
    rw [eEp _ (hFc w' e')]; exact this.1
  · show mFc u.1 w' (mEp (mMake u.1 o e w v) b) ≠ 0
    have := (r _ _ (Or.inl hq)).2.1
    rw [eEp b (by omega)]
    exact f.2 w' b hq
  · show mEp (mMake u.1 o e w v) 0 = 0
    rw [eEp 0 hT1]; exact ep.1
  · show 1 ≤ mEp (mMake u.1 o e w v) b
    rcases lt b hbT with q | q
    · rw [eEp b q]; exact ep.2 b hb q
    · rw [q, nEp]; exact he1
  · show mVf u.1 v' (mEp (mMake u.1 o e w v) b) ≠ 0
    have := (r _ _ (Or.inl hq)).2.1
    rw [eEp b (by omega)]
    exact o2 v' b hv' hf hq
  · show mHt (mMake u.1 o e w v) 0 = 0
    rw [eHt 0 hT1]; exact t.1
  · show mHt (mMake u.1 o e w v) b = mHt (mMake u.1 o e w v) (mPar (mMake u.1 o e w v) b) + 1
    rcases lt b hbT with q | q
    · have := hp b hb
      rw [eHt b q, ePar b q, eHt _ (by omega)]; exact t.2 b hb q
    · rw [q, nHt, nPar, eHt o ho]
  · show xCh (xMake u.1 u.2 o w) b c = (decide (c = b) || (decide (b ≠ 0) && xCh (xMake u.1 u.2 o w) (mPar (mMake u.1 o e w v) b) c))
    rcases lt b hb with q | q
    · rw [eCh b q, ePar b q, ce b c q]
      rcases Nat.eq_zero_or_pos b with z | z
      · rw [z]; rfl
      · rw [eCh _ (by have := hp b z; omega)]
    · rw [q, nCh, nPar, eCh o ho, decide_eq_true (show mT u.1 ≠ 0 by omega), Bool.true_and]
      by_cases z : c = mT u.1
      · rw [z, va_up_self, decide_eq_true rfl]; rfl
      · rw [va_up_ne _ _ z, decide_eq_false z]; rfl
  · show xCl (xMake u.1 u.2 o w) b = if b = 0 then mLo (mMake u.1 o e w v) 0 else xCl (xMake u.1 u.2 o w) (mPar (mMake u.1 o e w v) b) ||| mLo (mMake u.1 o e w v) b
    rcases lt b hb with q | q
    · rw [eCl b q, cl b q]
      by_cases z : b = 0
      · rw [if_pos z, if_pos z, eLo 0 hT1]
      · rw [if_neg z, if_neg z, ePar b q, eLo b q, eCl _ (by have := hp b (Nat.pos_of_ne_zero z); omega)]
    · rw [q, nCl, if_neg (by omega), nPar, nLo, eCl o ho]
  · have hd := dv x hx
    obtain ⟨⟨d1, d2, d3, d4, d5⟩, dz⟩ := hd
    have z0 := dz (mT u.1) (Nat.le_refl _)
    show dvV (gn G) (mMake u.1 o e w v) (xMake u.1 u.2 o w) x
    have ebet : ∀ a b, a < mT u.1 → b < mT u.1 → better (mMake u.1 o e w v) a b = better u.1 a b := fun a b ha hb => by simp only [better, eHt a ha, eHt b hb, eEp a ha, eEp b hb]
    have ebetF : ∀ a b, a < mT u.1 → b < mT u.1 → betterF (mMake u.1 o e w v) a b = betterF u.1 a b := fun a b ha hb => by simp only [betterF, eHt a ha, eHt b hb]
    have eth : ∀ c, 0 < c → c < mT u.1 → isThree (mMake u.1 o e w v) c (mPar (mMake u.1 o e w v) c) = isThree u.1 c (mPar u.1 c) := fun c hc hcT => by
      have hpc := hp c hc
      rw [ePar c hcT]
      rcases Nat.eq_zero_or_pos (mPar u.1 c) with z | z
      · simp [isThree, z]
      · have hpp := hp _ z
        simp only [isThree, ePar _ (show mPar u.1 c < mT u.1 by omega), eEp _ (show mPar u.1 c < mT u.1 by omega), eEp c hcT, eEp _ (show mPar u.1 (mPar u.1 c) < mT u.1 by omega)]
    refine ⟨⟨fun b hb => ?_, fun b hb => ?_, ⟨?_, d3.2.1, fun b hb hn => ?_⟩, fun b hb => ?_, ⟨?_, d5.2.1, fun b hb hf => ?_⟩⟩, fun b hb => dz b (by have : mT u.1 + 1 ≤ b := hb; omega)⟩
    · show xKn u.2 x b = (decide (b = 0) || (mHs u.1 (11 * b) x && xKn u.2 x (mPar (mMake u.1 o e w v) b)))
      rcases lt b hb with q | q
      · rw [ePar b q]; exact d1 b q
      · have hhs : mHs u.1 (11 * b) x = false := by
          cases z : mHs u.1 (11 * b) x
          · rfl
          · have := (r _ _ (Or.inl z)).2.1; omega
        rw [hhs, q, z0.1, decide_eq_false (by omega)]; rfl
    · show xNo u.2 x b = (decide (b = 0) || (xKn u.2 x b && (xNo u.2 x (mPar (mMake u.1 o e w v) b) && decide (2 * gn G ≤ 3 * nVo u.1 b x))))
      rcases lt b hb with q | q
      · rw [ePar b q]; exact d2 b q
      · rw [q, z0.1, z0.2.1, decide_eq_false (by omega)]; rfl
    · show xTp u.2 x < mT u.1 + 1
      have := d3.1; omega
    · have hn : xNo u.2 x b = true := hn
      rcases lt b hb with q | q
      · show better (mMake u.1 o e w v) (xTp u.2 x) b = false
        rw [ebet _ _ d3.1 q]; exact d3.2.2 b q hn
      · rw [q, z0.2.1] at hn; cases hn
    · show xFi u.2 x b = true ↔ b = 0 ∨ ∃ c, 0 < c ∧ c < mT u.1 + 1 ∧ xNo u.2 x c = true ∧ isThree (mMake u.1 o e w v) c (mPar (mMake u.1 o e w v) c) = true ∧ xCh (xMake u.1 u.2 o w) (mPar (mMake u.1 o e w v) c) b = true
      have key : (∃ c, 0 < c ∧ c < mT u.1 + 1 ∧ xNo u.2 x c = true ∧ isThree (mMake u.1 o e w v) c (mPar (mMake u.1 o e w v) c) = true ∧ xCh (xMake u.1 u.2 o w) (mPar (mMake u.1 o e w v) c) b = true) ↔ ∃ c, 0 < c ∧ c < mT u.1 ∧ xNo u.2 x c = true ∧ isThree u.1 c (mPar u.1 c) = true ∧ xCh u.2 (mPar u.1 c) b = true := by
        constructor
        · rintro ⟨c, q1, q2, q3, q4, q5⟩
          have hcT : c < mT u.1 := by
            rcases lt c q2 with z | z
            · exact z
            · rw [z, z0.2.1] at q3; cases q3
          have hpc := hp c q1
          rw [eth c q1 hcT] at q4
          rw [ePar c hcT, eCh _ (by omega)] at q5
          exact ⟨c, q1, hcT, q3, q4, q5⟩
        · rintro ⟨c, q1, q2, q3, q4, q5⟩
          have hpc := hp c q1
          exact ⟨c, q1, by omega, q3, by rw [eth c q1 q2]; exact q4, by rw [ePar c q2, eCh _ (by omega)]; exact q5⟩
      rw [key]
      rcases lt b hb with q | q
      · exact d4 b q
      · rw [q, z0.2.2]
        refine ⟨fun z => (by cases z), fun z => ?_⟩
        rcases z with z | ⟨c, q1, q2, q3, q4, q5⟩
        · omega
        · have hpc := hp c q1
          have := (ch_le ce hp t (mPar u.1 c) (mT u.1) (by omega) q5).1
          omega
    · show xHf u.2 x < mT u.1 + 1
      have := d5.1; omega
    · have hf : xFi u.2 x b = true := hf
      rcases lt b hb with q | q
      · show betterF (mMake u.1 o e w v) (xHf u.2 x) b = false
        rw [ebetF _ _ d5.1 q]; exact d5.2.2 b q hf
      · rw [q, z0.2.2] at hf; cases hf
theorem make_K {u : CS} {o e v : Nat} (w : Int32) (h : mC u.1 ≤ hc u.1) : mC (cMake u o e w v).1 ≤ hc (cMake u o e w v).1 := h
/-! the public methods keep it -/
theorem Inv_lead {G : kG} {u : CS} (h : Inv G u) {e v : Nat} (hv : v < gn G) : Inv G (sLd u.1 (va_up (mLd u.1) e v), u.2) := by
  obtain ⟨⟨k, r⟩, hK⟩ := h
  exact ⟨⟨ok_lead k hv, r⟩, hK⟩
theorem Inv_fall {G : kG} {u : CS} (h : Inv G u) (v : Nat) : Inv G (sFa u.1 (va_up (mFa u.1) v true), u.2) := by
  obtain ⟨⟨k, r, d, ow, f, e, o2, rest⟩, hK⟩ := h
  refine ⟨⟨k, r, d, ow, f, e, fun v' b hv' hf hq => ?_, rest⟩, hK⟩
  have hf : va_up (mFa u.1) v true v' = false := hf
  by_cases q : v' = v
  · rw [q, va_up_self] at hf; cases hf
  · rw [va_up_ne _ _ q] at hf
    exact o2 v' b hv' hf hq
theorem Inv_wish {G : kG} {u : CS} (h : Inv G u) (f : Nat → Int32) : Inv G (sWi u.1 f, u.2) := h
theorem Inv_next {G : kG} {u : CS} (h : Inv G u) (hP : mP u.1 < 40) : Inv G (cNext u) := by
  obtain ⟨⟨k, r⟩, hK⟩ := h
  exact ⟨⟨ok_next k hP, r⟩, hK⟩
theorem takeP_K {n : Nat} {u : CS} {v b : Nat} (h : mC u.1 ≤ hc u.1) : mC (cTakeP n u v b).1 ≤ hc (cTakeP n u v b).1 := by
  rw [takeP_C]
  exact Nat.le_trans h (hc_mono fun l w hq => by rw [takeP_hs]; exact up2_mono l w hq)
theorem takeV_K {n : Nat} {u : CS} {v x b : Nat} (h : mC u.1 ≤ hc u.1) : mC (cTakeV n u v x b).1 ≤ hc (cTakeV n u v x b).1 := by
  rw [takeV_C]
  exact Nat.le_trans h (hc_mono fun l w hq => by rw [takeV_hs]; exact up2_mono l w hq)
theorem snd_K {M : MS} {l : Nat} {to : Int32} {k : Nat} (h : mC M ≤ hc M) : mC (sndM M l to k) ≤ hc (sndM M l to k) := by
  rw [snd_C]
  exact Nat.le_trans h (hc_mono fun l w hq => by rw [snd_hs]; exact hq)
theorem look_K {n : Nat} {u : CS} {v : Nat} (h : mC u.1 ≤ hc u.1) : mC (cLook n u v).1 ≤ hc (cLook n u v).1 := by
  rw [look_C]
  exact Nat.le_trans h (hc_mono (look_hs_mono n u v))
theorem Inv_look {G : kG} {u : CS} (h : Inv G u) {v : Nat} (hv : v < gn G) : Inv G (cLook (gn G) u v) := ⟨Inv0_look h.1 hv, look_K h.2⟩
theorem Inv_lkAll {G : kG} {u : CS} (h : Inv G u) : ∀ k, k ≤ gn G → Inv G (lkAll (gn G) u k) := by
  intro k
  induction k with
  | zero => intro _; exact h
  | succ k ih => intro hk; exact Inv_look (ih (by omega)) (by omega)
theorem Inv_mkTip {G : kG} {u : CS} (h : Inv G u) {v : Nat} (hP : 1 ≤ mP u.1) (hT : mT u.1 ≤ 60) : Inv G (cMkTip u v) := ⟨Inv0_make h.1 _ (h.1.1.2.2.2.2.2.2.2.2.2.2.2.1 v) hP h.1.1.2.2.2.2.1 hT, h.2⟩
theorem Inv_takeP {G : kG} {u : CS} (h : Inv G u) {v b : Nat} (hv : v < gn G) (hb0 : 0 < b) (hbT : b < mT u.1) : Inv G (cTakeP (gn G) u v b) := ⟨Inv0_takeP h.1 hv hb0 hbT, takeP_K h.2⟩
theorem Inv_begin {G : kG} {u : CS} (h : Inv G u) {v : Nat} (hv : v < gn G) (hP : mP u.1 < 40) (hr : mFa u.1 v = true ∨ mT u.1 ≤ 60) : Inv G (cBegin (gn G) u v) := by
  unfold cBegin; split
  · exact Inv_next h hP
  · rename_i hf
    have hT := hr.resolve_left hf
    have h1 := h.1.1.2.2.1
    exact Inv_takeP (Inv_mkTip (Inv_next h hP) (Nat.succ_le_succ (Nat.zero_le _)) hT) hv (show 0 < mT u.1 by omega) (show mT u.1 < mT u.1 + 1 by omega)
theorem Inv_snd {G : kG} {u : CS} (h : Inv G u) {l : Nat} (to : Int32) (h1 : 11 ≤ l) (h2 : l < 11 * mT u.1) (h3 : l % 11 ≤ gn G) (hw : ∀ b x, x < 10 → l = 11 * b + 1 + x → mHs u.1 l x = true) : Inv G (sndM u.1 l to (gn G), u.2) := ⟨Inv0_snd h.1 to h1 h2 h3 hw _ (Nat.le_refl _), snd_K h.2⟩
theorem inv_w0 {G : kG} {u : CS} (h : Inv0 G u) : ∀ l v, l < 11 → mWy u.1 l v = false := by
  intro l v hl
  cases q : mWy u.1 l v
  · rfl
  · have := (h.2.1 l v (Or.inr q)).1; omega
theorem pLead_inv {G : kG} {u : CS} (h : Inv G u) (x y : Int32) : Inv G (pLead (gn G) u x y).2 := by
  have hn10 := h.1.1.2.1
  unfold pLead; split
  · exact h
  · split
    · exact h
    · rename_i v hv
      split
      · exact h
      · exact Inv_lead h (ix_of hv (by omega)).1
theorem pFall_inv {G : kG} {u : CS} (h : Inv G u) (x : Int32) : Inv G (pFall (gn G) u x).2 := by
  unfold pFall; split
  · exact h
  · split
    · exact h
    · exact Inv_fall h _
theorem pWish_inv {G : kG} {u : CS} (h : Inv G u) (x y : Int32) : Inv G (pWish (gn G) u x y).2 := by
  unfold pWish; split
  · exact h
  · split
    · exact h
    · exact Inv_wish h _
theorem pEpoch_inv {G : kG} {u : CS} (h : Inv G u) : Inv G (pEpoch (gn G) u).2 := by
  unfold pEpoch; split
  · exact h
  · split
    · exact h
    · rename_i h1 h2
      refine Inv_lkAll (Inv_begin h (h.1.1.2.2.2.2.2.1 _) (by omega) ?_) _ (Nat.le_refl _)
      cases q : mFa u.1 (mLd u.1 (mP u.1 + 1))
      · right
        rw [q] at h2
        simpa using h2
      · exact Or.inl rfl
theorem pBring_inv {G : kG} {u : CS} (h : Inv G u) (x y : Int32) : Inv G (pBring (gn G) u x y).2 := by
  have hn10 := h.1.1.2.1
  have h61 := h.1.1.2.2.2.1
  unfold pBring; split
  · exact h
  · rename_i v hv
    split
    · exact h
    · rename_i b hb
      split
      · rename_i hw
        have hvn := (ix_of hv (by omega)).1
        have hbT := (ix_of hb (by omega)).1
        have hb0 := (h.1.2.1 _ _ (Or.inr hw)).1
        exact ⟨Inv0_letP h.1 hvn (by omega) hbT, letP_K h.1 h.2 hvn (by omega) hbT hw⟩
      · exact h
theorem pBringVote_inv {G : kG} {u : CS} (h : Inv G u) (x y z : Int32) : Inv G (pBringVote (gn G) u x y z).2 := by
  have hn10 := h.1.1.2.1
  have h61 := h.1.1.2.2.2.1
  unfold pBringVote; split
  · exact h
  · rename_i v hv
    split
    · exact h
    · rename_i w hw1
      split
      · exact h
      · rename_i b hb
        split
        · rename_i hw
          have hvn := (ix_of hv (by omega)).1
          have hwn := (ix_of hw1 (by omega)).1
          have hbT := (ix_of hb (by omega)).1
          have hb0 := (h.1.2.1 _ _ (Or.inr hw)).1
          exact ⟨Inv0_letV h.1 hvn hwn (by omega) hbT hw, letV_K h.1 h.2 hvn hwn (by omega) hbT hw⟩
        · exact h
theorem pFlow_inv {G : kG} {u : CS} (h : Inv G u) (x : Int32) : Inv G (pFlow (gn G) u x).2 := by
  have hn10 := h.1.1.2.1
  unfold pFlow; split
  · exact h
  · rename_i v hv
    exact flow_inv h (ix_of hv (by omega)).1
theorem pSettle_inv {G : kG} {u : CS} (h : Inv G u) : Inv G (pSettle (gn G) u).2 := stl_inv h _
theorem ixE_of {x : Int32} {j : Nat} (h : ixE x = some j) : 1 ≤ j ∧ j ≤ 40 := by
  unfold ixE at h
  split at h
  · cases h; omega
  · cases h
theorem pPropose_inv {G : kG} {u : CS} (h : Inv G u) (x y z w t : Int32) : Inv G (pPropose (gn G) u x y z w t).2 := by
  have hn10 := h.1.1.2.1
  have h61 := h.1.1.2.2.2.1
  have hT1 := h.1.1.2.2.1
  unfold pPropose; split
  · exact h
  · rename_i v hv
    split
    · exact h
    · rename_i b hb
      split
      · exact h
      · rename_i e he
        split
        · split
          · exact h
          · split
            · exact h
            · rename_i hT
              have hT : mT u.1 ≤ 60 := by simpa using hT
              have hvn := (ix_of hv (by omega)).1
              have hbT := (ix_of hb (by omega)).1
              have he' := ixE_of he
              have hI : Inv G (cTakeP (gn G) (cMake u b e w v) v (mT u.1)) := Inv_takeP ⟨Inv0_make h.1 w hbT he'.1 he'.2 hT, h.2⟩ hvn (by omega) (show mT u.1 < mT u.1 + 1 by omega)
              refine Inv_snd hI t (by omega) ?_ (by omega) (fun b' x' hx' e' => by omega)
              rw [stat_T (st_takeP _ _ _ _)]
              show 11 * mT u.1 < 11 * (mT u.1 + 1)
              omega
        · exact h
theorem pLie_inv {G : kG} {u : CS} (h : Inv G u) (x y t : Int32) : Inv G (pLie (gn G) u x y t).2 := by
  have hn10 := h.1.1.2.1
  have h61 := h.1.1.2.2.2.1
  unfold pLie; split
  · exact h
  · rename_i v hv
    split
    · exact h
    · rename_i hy0
      split
      · exact h
      · rename_i b hb
        split
        · split
          · exact h
          · rename_i hf
            have hf : mFa u.1 v = true := by simpa using hf
            have hvn := (ix_of hv (by omega)).1
            have hbT := ix_of hb (by omega)
            have hb0 : 0 < b := Nat.pos_of_ne_zero fun q => hy0 (by rw [hbT.2, q]; rfl)
            have hI : Inv G (cTakeV (gn G) u v v b) := ⟨Inv0_takeV h.1 hvn hvn hb0 hbT.1 (Or.inl rfl) (fun _ q => by rw [hf] at q; cases q), takeV_K h.2⟩
            refine Inv_snd hI t (by omega) ?_ (by omega) (fun b' x' hx' e' => ?_)
            · rw [stat_T (st_takeV _ _ _ _ _)]; omega
            · rw [takeV_hs, show x' = v by omega, up2_self]
        · exact h
theorem pPass_inv {G : kG} {u : CS} (h : Inv G u) (x y t : Int32) : Inv G (pPass (gn G) u x y t).2 := by
  have hn10 := h.1.1.2.1
  have h61 := h.1.1.2.2.2.1
  unfold pPass; split
  · exact h
  · rename_i v hv
    split
    · exact h
    · rename_i hy0
      split
      · exact h
      · rename_i b hb
        split
        · split
          · exact h
          · have hbT := ix_of hb (by omega)
            have hb0 : 0 < b := Nat.pos_of_ne_zero fun q => hy0 (by rw [hbT.2, q]; rfl)
            exact Inv_snd h t (by omega) (by omega) (by omega) (fun b' x' hx' e' => by omega)
        · exact h
