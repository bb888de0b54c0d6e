/-- a node comes to have a letter: what was holds again -/
theorem Inv0_gain {G : kG} {u : CS} (h : Inv0 G u) {N : MS} {l v c : Nat} (hst : stat N = stat u.1) (hHs : mHs N = up2 (mHs u.1) l v true) (hWy : mWy N = up2 (mWy u.1) l v false) (hVf : mVf N = mVf u.1) (hc : l / 11 = c) (h1 : 11 ≤ l) (h2 : l < 11 * mT u.1) (h3 : l % 11 ≤ gn G) (hv : v < gn G)
    (hown : ∀ b x, x < 10 → l = 11 * b + 1 + x → x = v ∨ mHs u.1 l x = true) (ho2 : ∀ b, l = 11 * b + 1 + v → mFa u.1 v = false → mVf u.1 v (mEp u.1 b) ≠ 0) (hfc : fcI N) (hok : okC G (N, judge (gn G) N u.2 v c)) : Inv0 G (N, judge (gn G) N u.2 v c) := by
  have hp := inv_par h
  obtain ⟨k, r, d, ow, f, e, o2, t, ce, cl, dv⟩ := h
  have hn10 := k.2.1
  have hmono : ∀ l' w, mHs u.1 l' w = true → mHs N l' w = true := by
    intro l' w hw
    rw [hHs]
    by_cases q : l' = l ∧ w = v
    · rw [q.1, q.2, up2_self]
    · rw [up2_ne _ _ q]; exact hw
  have J := judge_dv (n := gn G) (N := N) (X := u.2) (v := v) (c := c) hst hp ce t (by omega) (by omega) (fun l' => hmono l' v) (fun l' hl' => by rw [hHs]; exact up2_ne _ _ (fun q => hl' (by rw [q.1]; exact hc))) (dv v hv)
  obtain ⟨J1, J2, J3, J4⟩ := J
  refine ⟨hok, fun l' v' hq => ?_, fun l' v' hq => ?_, fun b x o hx hq => ?_, hfc, epI_st hst e, fun v' b hv' hf hq => ?_, htI_st hst t, ?_, ?_, fun w hw => ?_⟩
  · have hq : up2 (mHs u.1) l v true l' v' = true ∨ up2 (mWy u.1) l v false l' v' = true := by rw [← hHs, ← hWy]; exact hq
    show 11 ≤ l' ∧ l' < 11 * mT N ∧ v' < gn G ∧ l' % 11 ≤ gn G
    rw [stat_T hst]
    by_cases q : l' = l ∧ v' = v
    · rw [q.1, q.2]; exact ⟨h1, h2, hv, h3⟩
    · rw [up2_ne _ _ q, up2_ne _ _ q] at hq
      exact r l' v' hq
  · show mWy N l' v' = false
    have hq : mHs N l' v' = true := hq
    rw [hHs] at hq
    rw [hWy]
    by_cases q : l' = l ∧ v' = v
    · rw [q.1, q.2, up2_self]
    · rw [up2_ne _ _ q] at hq ⊢
      exact d l' v' hq
  · show mHs N (11 * b + 1 + x) x = true
    have hq : mHs N (11 * b + 1 + x) o = true ∨ mWy N (11 * b + 1 + x) o = true := hq
    by_cases q : 11 * b + 1 + x = l ∧ o = v
    · rw [q.1]
      rcases hown b x hx q.1.symm with e2 | e2
      · rw [e2, hHs, up2_self]
      · exact hmono _ _ e2
    · rw [hHs, hWy, up2_ne _ _ q, up2_ne _ _ q] at hq
      exact hmono _ _ (ow b x o hx hq)
  · show mVf N v' (mEp N b) ≠ 0
    have hq : mHs N (11 * b + 1 + v') v' = true := hq
    have hf : mFa N v' = false := hf
    rw [stat_Fa hst] at hf
    rw [hVf, stat_Ep hst]
    by_cases q : 11 * b + 1 + v' = l ∧ v' = v
    · rw [q.2] at hf ⊢
      exact ho2 b (by rw [← q.1, q.2]) hf
    · rw [hHs, up2_ne _ _ q] at hq
      exact o2 v' b hv' hf hq
  · show chE N (xCh (judge (gn G) N u.2 v c))
    rw [J2]; exact chE_st hst ce
  · show clI N (judge (gn G) N u.2 v c)
    intro b hb
    rw [J3]
    exact clI_st hst cl b hb
  · by_cases e2 : w = v
    · rw [e2]; exact J1
    · obtain ⟨j1, j2, j3, j4, j5⟩ := J4 w e2
      show dvV (gn G) N (judge (gn G) N u.2 v c) w
      unfold dvV
      rw [J2, j1, j2, j3, j4, j5]
      exact dvV_st (X := u.2) hst (fun l' => by rw [hHs]; exact up2_ne _ _ (fun q => e2 q.2)) (dv w hw)
theorem Inv0_haveV {G : kG} {u : CS} (h : Inv0 G u) {v x b : Nat} (hv : v < gn G) (hx : x < gn G) (hb0 : 0 < b) (hbT : b < mT u.1) (hown : x = v ∨ mHs u.1 (11 * b + 1 + x) x = true) (ho2 : x = v → mFa u.1 v = false → mVf u.1 v (mEp u.1 b) ≠ 0) : Inv0 G (cHaveV (gn G) u v x b) := by
  have hn10 := h.1.2.1
  refine Inv0_gain (N := mHaveV u.1 v x b) (l := 11 * b + 1 + x) h rfl rfl rfl rfl (by omega) (by omega) (by omega) (by omega) hv (fun b' x' hx' e => ?_) (fun b' e hf => ?_) ?_ (ok_cHaveV h.1 hbT)
  · have e1 : x' = x := by omega
    rw [e1]; exact hown
  · have e1 : x = v := by omega
    have e2 : b' = b := by omega
    rw [e2]; exact ho2 e1 hf
  · obtain ⟨f1, f2⟩ := h.2.2.2.2.1
    refine ⟨fun w e hne => ⟨(f1 w e hne).1, ?_⟩, fun w b' hq => f2 w b' ?_⟩
    · show up2 (mHs u.1) (11 * b + 1 + x) v true (11 * mFc u.1 w e) w = true
      rw [up2_ne _ _ (by omega)]; exact (f1 w e hne).2
    · have hq : up2 (mHs u.1) (11 * b + 1 + x) v true (11 * b') w = true := hq
      rwa [up2_ne _ _ (by omega)] at hq
theorem haveP_hs (M : MS) (v b : Nat) : mHs (mHaveP M v b) = up2 (mHs M) (11 * b) v true := by unfold mHaveP; split <;> rfl
theorem haveP_wy (M : MS) (v b : Nat) : mWy (mHaveP M v b) = up2 (mWy M) (11 * b) v false := by unfold mHaveP; split <;> rfl
theorem haveP_vf (M : MS) (v b : Nat) : mVf (mHaveP M v b) = mVf M := by unfold mHaveP; split <;> rfl
theorem haveP_C (M : MS) (v b : Nat) : mC (mHaveP M v b) = mC M := by unfold mHaveP; split <;> rfl
theorem haveP_G (M : MS) (v b : Nat) : mG (mHaveP M v b) = mG M := by unfold mHaveP; split <;> rfl
theorem haveP_fc (M : MS) (v b : Nat) : mFc (mHaveP M v b) = if mFc M v (mEp M b) = 0 then up2 (mFc M) v (mEp M b) b else mFc M := by unfold mHaveP; split <;> rfl
theorem Inv0_haveP {G : kG} {u : CS} (h : Inv0 G u) {v b : Nat} (hv : v < gn G) (hb0 : 0 < b) (hbT : b < mT u.1) : Inv0 G (cHaveP (gn G) u v b) := by
  refine Inv0_gain (N := mHaveP u.1 v b) (l := 11 * b) h (st_haveP _ _ _) (haveP_hs _ _ _) (haveP_wy _ _ _) (haveP_vf _ _ _) (by omega) (by omega) (by omega) (by omega) hv (fun b' x' hx' e => by omega) (fun b' e hf => by have := h.1.2.1; omega) ?_ (ok_cHaveP h.1 hbT)
  obtain ⟨f1, f2⟩ := h.2.2.2.2.1
  have hmono : ∀ l' w, mHs u.1 l' w = true → up2 (mHs u.1) (11 * b) v true l' w = true := by
    intro l' w hw
    by_cases q : l' = 11 * b ∧ w = v
    · rw [q.1, q.2, up2_self]
    · rw [up2_ne _ _ q]; exact hw
  unfold fcI
  rw [haveP_fc, haveP_hs, stat_Ep (st_haveP _ _ _)]
  split
  · rename_i hz
    refine ⟨fun w e hne => ?_, fun w b' hq => ?_⟩
    · by_cases q : w = v ∧ e = mEp u.1 b
      · rw [q.1, q.2, up2_self]
        exact ⟨rfl, up2_self _ _ _ _⟩
      · rw [up2_ne _ _ q] at hne ⊢
        exact ⟨(f1 w e hne).1, hmono _ _ (f1 w e hne).2⟩
    · by_cases q : w = v ∧ mEp u.1 b' = mEp u.1 b
      · rw [q.1, q.2, up2_self]; omega
      · rw [up2_ne _ _ q]
        by_cases q2 : 11 * b' = 11 * b ∧ w = v
        · exact absurd ⟨q2.2, by rw [show b' = b by omega]⟩ q
        · rw [up2_ne _ _ q2] at hq
          exact f2 w b' hq
  · rename_i hz
    refine ⟨fun w e hne => ⟨(f1 w e hne).1, hmono _ _ (f1 w e hne).2⟩, fun w b' hq => ?_⟩
    by_cases q2 : 11 * b' = 11 * b ∧ w = v
    · rw [q2.2, show b' = b by omega]; exact hz
    · rw [up2_ne _ _ q2] at hq
      exact f2 w b' hq
theorem Inv0_sendAll {G : kG} {u : CS} (h : Inv0 G u) {l : Nat} (h1 : 11 ≤ l) (h2 : l < 11 * mT u.1) (h3 : l % 11 ≤ gn G) (hw : ∀ b x, x < 10 → l = 11 * b + 1 + x → mHs u.1 l x = true) : Inv0 G (cSendAll (gn G) u l) := Inv0_snd h _ h1 h2 h3 hw _ (Nat.le_refl _)
theorem Inv0_takeP {G : kG} {u : CS} (h : Inv0 G u) {v b : Nat} (hv : v < gn G) (hb0 : 0 < b) (hbT : b < mT u.1) : Inv0 G (cTakeP (gn G) u v b) := by
  unfold cTakeP; split
  · exact Inv0_haveP h hv hb0 hbT
  · exact Inv0_sendAll (Inv0_haveP h hv hb0 hbT) (by omega) (by rw [stat_T (st_cHaveP _ _ _ _)]; omega) (by omega) (fun b' x hx e => by omega)
theorem Inv0_takeV {G : kG} {u : CS} (h : Inv0 G u) {v x b : Nat} (hv : v < gn G) (hx : x < gn G) (hb0 : 0 < b) (hbT : b < mT u.1) (hown : x = v ∨ mHs u.1 (11 * b + 1 + x) x = true) (ho2 : x = v → mFa u.1 v = false → mVf u.1 v (mEp u.1 b) ≠ 0) : Inv0 G (cTakeV (gn G) u v x b) := by
  have hi := Inv0_haveV h hv hx hb0 hbT hown ho2
  have hn10 := h.1.2.1
  unfold cTakeV; split
  · exact hi
  · refine Inv0_sendAll hi (by omega) (by rw [stat_T (st_cHaveV _ _ _ _ _)]; omega) (by omega) (fun b' x' hx' e => ?_)
    have e1 : x' = x := by omega
    rw [e1]
    show up2 (mHs u.1) (11 * b + 1 + x) v true (11 * b + 1 + x) x = true
    rcases hown with q | q
    · rw [q, up2_self]
    · by_cases q2 : 11 * b + 1 + x = 11 * b + 1 + x ∧ x = v
      · rw [q2.2, up2_self]
      · rw [up2_ne _ _ q2]; exact q
theorem cCh_ne {u : CS} {v : Nat} (h : cCh u v ≠ 0) : mFa u.1 v = false ∧ cCh u v = mFc u.1 v (mP u.1) ∧ mFc u.1 v (mP u.1) ≠ 0 ∧ mVf u.1 v (mP u.1) = 0 := by
  unfold cCh at h ⊢
  cases hf : mFa u.1 v
  · rw [hf, if_neg (by decide)] at h
    rw [if_neg (by decide)]
    unfold cChoice at h ⊢
    split at h
    · rename_i hc
      rw [if_pos hc]
      simp only [Bool.and_eq_true, decide_eq_true_eq] at hc
      exact ⟨rfl, rfl, hc.1, hc.2.1⟩
    · exact absurd rfl h
  · rw [hf, if_pos rfl] at h
    exact absurd rfl h
theorem Inv0_look {G : kG} {u : CS} (h : Inv0 G u) {v : Nat} (hv : v < gn G) : Inv0 G (cLook (gn G) u v) := by
  unfold cLook
  split
  · exact h
  · rename_i hne
    obtain ⟨c1, c2, c3, c4⟩ := cCh_ne hne
    have hlt := cCh_lt h.1 v
    have hn10 := h.1.2.1
    obtain ⟨k, r, d, ow, f, e, o2, rest⟩ := id h
    have hep : mEp u.1 (cCh u v) = mP u.1 := by rw [c2]; exact (f.1 v (mP u.1) c3).1
    have h61 := h.1.2.2.2.1
    have hI : Inv0 G (sG (sVf u.1 (up2 (mVf u.1) v (mP u.1) (cCh u v))) (mG u.1 + 1), u.2) := by
      refine Inv0_st h rfl (ok_Vf k (by omega)) rfl rfl rfl r d ow (fun v' b hv' hf hq => ?_)
      show up2 (mVf u.1) v (mP u.1) (cCh u v) v' (mEp u.1 b) ≠ 0
      by_cases q : v' = v ∧ mEp u.1 b = mP u.1
      · rw [q.1, q.2, up2_self]; exact hne
      · rw [up2_ne _ _ q]; exact o2 v' b hv' hf hq
    unfold cVote
    have hI2 := Inv0_haveV hI hv hv (Nat.pos_of_ne_zero hne) hlt (Or.inl rfl) (fun _ _ => by
      show up2 (mVf u.1) v (mP u.1) (cCh u v) v (mEp u.1 (cCh u v)) ≠ 0
      rw [hep, up2_self]; exact hne)
    refine Inv0_sendAll hI2 (by omega) ?_ (by omega) (fun b' x' hx' e' => ?_)
    · show 11 * cCh u v + 1 + v < 11 * mT u.1
      omega
    · have e1 : x' = v := by omega
      rw [e1]
      show up2 (mHs u.1) (11 * cCh u v + 1 + v) v true (11 * cCh u v + 1 + v) v = true
      exact up2_self _ _ _ _
theorem Inv0_up {G : kG} {u : CS} (h : Inv0 G u) : Inv0 G (cUp u) := Inv0_st h rfl h.1 rfl rfl rfl h.2.1 h.2.2.1 h.2.2.2.1 h.2.2.2.2.2.2.1
theorem Inv0_letP {G : kG} {u : CS} (h : Inv0 G u) {v b : Nat} (hv : v < gn G) (hb0 : 0 < b) (hbT : b < mT u.1) : Inv0 G (cLetP (gn G) u v b) := Inv0_look (Inv0_takeP (Inv0_up h) hv hb0 hbT) hv
theorem way_own {G : kG} {u : CS} (h : Inv0 G u) {v x b : Nat} (hx : x < 10) (hw : mWy u.1 (11 * b + 1 + x) v = true) : x ≠ v ∧ mHs u.1 (11 * b + 1 + x) x = true := by
  have h1 := h.2.2.2.1 b x v hx (Or.inr hw)
  refine ⟨fun e => ?_, h1⟩
  rw [e] at h1 hw
  rw [h.2.2.1 _ _ h1] at hw
  cases hw
theorem Inv0_letV {G : kG} {u : CS} (h : Inv0 G u) {v x b : Nat} (hv : v < gn G) (hx : x < gn G) (hb0 : 0 < b) (hbT : b < mT u.1) (hw : mWy u.1 (11 * b + 1 + x) v = true) : Inv0 G (cLetV (gn G) u v x b) := by
  have hn10 := h.1.2.1
  have ho := way_own h (show x < 10 by omega) hw
  exact Inv0_look (Inv0_takeV (Inv0_up h) hv hx hb0 hbT (Or.inr ho.2) (fun e => absurd e ho.1)) hv
