/-! rows and facts for the reference's walks -/
theorem k_wr {G : kG} {a b : RS} {H : Heap} (h : wR G a = wR G b) (hP : va_P (gD G) vwCl (wR G a) H) : va_P (gD G) vwCl (wR G b) H := h ▸ hP
/-- the reference answers as the class does and is in its state -/
def RP (n : Nat) (p : Int32 × CS) (z : Int32) (r : RS) : Prop := z = p.1 ∧ r.1 = p.2.1 ∧ InvY n p.2.1 r.2
theorem rp {n : Nat} {p : Int32 × CS} {z : Int32} {w : CS} {Y : YS} (e : p = (z, w)) (h : InvY n w.1 Y) : RP n p z (w.1, Y) := by
  rw [e]; exact ⟨rfl, rfl, h⟩
/-- the reference has gone on to the class's state w -/
def LK (n : Nat) (w : CS) (Y : YS) (r : RS) : Prop := r.1 = w.1 ∧ InvY n w.1 r.2 ∧ yTc r.2 = yTc Y
theorem lk_of {n : Nat} {w : CS} {Y Z : YS} {M : MS} (e : M = w.1) (h : InvY n w.1 Z) (ht : yTc Z = yTc Y) : LK n w Y (M, Z) := ⟨e, h, ht⟩
theorem fc_P0 {G : kG} {u : CS} (h : Inv0 G u) (v : Nat) (hP : mP u.1 = 0) : mFc u.1 v (mP u.1) = 0 := by
  by_cases hne : mFc u.1 v (mP u.1) = 0
  · exact hne
  · have h1 := h.2.2.2.2.1.1 v _ hne
    have h2 := h.1.2.2.2.2.2.2.2.2.2.1 v (mP u.1)
    have h3 := h.2.2.2.2.2.1.2 _ (Nat.pos_of_ne_zero hne) h2
    omega
theorem look_id {n : Nat} {u : CS} {v : Nat} (h : cCh u v = 0) : cLook n u v = u := by rw [cLook, if_pos h]
theorem cCh_fa {u : CS} {v : Nat} (h : mFa u.1 v = true) : cCh u v = 0 := by rw [cCh, if_pos h]
theorem cCh_fc0 {u : CS} {v : Nat} (h : mFc u.1 v (mP u.1) = 0) : cCh u v = 0 := by
  unfold cCh cChoice; split
  · rfl
  · rw [h]; simp
theorem cCh_vf {u : CS} {v : Nat} (h : mVf u.1 v (mP u.1) ≠ 0) : cCh u v = 0 := by
  unfold cCh cChoice; split
  · rfl
  · simp [h]
theorem cCh_no {u : CS} {v f : Nat} (hf : mFc u.1 v (mP u.1) = f) (h : ¬ (xKn u.2 v f = true ∧ xNo u.2 v (mPar u.1 f) = true ∧ mHt u.1 (mPar u.1 f) = mHt u.1 (xTp u.2 v))) : cCh u v = 0 := by
  unfold cCh cChoice; split
  · rfl
  · rw [hf, if_neg]
    simp only [Bool.and_eq_true, decide_eq_true_eq]
    exact fun ⟨_, _, a, b, c⟩ => h ⟨a, b, c⟩
theorem cCh_yes {u : CS} {v f : Nat} (ha : mFa u.1 v = false) (hf : mFc u.1 v (mP u.1) = f) (h0 : 0 < f) (hv : mVf u.1 v (mP u.1) = 0) (h1 : xKn u.2 v f = true) (h2 : xNo u.2 v (mPar u.1 f) = true) (h3 : mHt u.1 (mPar u.1 f) = mHt u.1 (xTp u.2 v)) : cCh u v = f := by
  unfold cCh cChoice
  rw [if_neg (by rw [ha]; decide), hf, if_pos]
  simp only [Bool.and_eq_true, decide_eq_true_eq]
  exact ⟨Nat.ne_of_gt h0, hv, h1, h2, h3⟩
/-- f is the first of those below b that came of the present epoch -/
def fstI (M : MS) (Y : YS) (v b f : Nat) : Prop := (f = 0 ∧ ∀ c, 0 < c → c < b → ¬ (mEp M c = mP M ∧ mHs M (11 * c) v = true)) ∨ (0 < f ∧ f < b ∧ mEp M f = mP M ∧ mHs M (11 * f) v = true ∧ ∀ c, 0 < c → c < b → mEp M c = mP M → mHs M (11 * c) v = true → yCa Y f v ≤ yCa Y c v)
theorem fst_0 (M : MS) (Y : YS) (v : Nat) : fstI M Y v 1 0 := Or.inl ⟨rfl, fun c h1 h2 => by omega⟩
theorem fst_skip {M : MS} {Y : YS} {v b f : Nat} (h : fstI M Y v b f) (hn : ¬ (mEp M b = mP M ∧ mHs M (11 * b) v = true)) : fstI M Y v (b + 1) f := by
  rcases h with ⟨h1, h2⟩ | ⟨h1, h2, h3, h4, h5⟩
  · refine Or.inl ⟨h1, fun c c1 c2 q => ?_⟩
    by_cases e : c = b
    · rw [e] at q; exact hn q
    · exact h2 c c1 (by omega) q
  · refine Or.inr ⟨h1, by omega, h3, h4, fun c c1 c2 q1 q2 => ?_⟩
    by_cases e : c = b
    · rw [e] at q1 q2; exact absurd ⟨q1, q2⟩ hn
    · exact h5 c c1 (by omega) q1 q2
theorem fst_keep {M : MS} {Y : YS} {v b f : Nat} (h : fstI M Y v b f) (h0 : 0 < f) (hc : yCa Y f v ≤ yCa Y b v) : fstI M Y v (b + 1) f := by
  rcases h with ⟨h1, h2⟩ | ⟨h1, h2, h3, h4, h5⟩
  · omega
  · refine Or.inr ⟨h1, by omega, h3, h4, fun c c1 c2 q1 q2 => ?_⟩
    by_cases e : c = b
    · rw [e]; exact hc
    · exact h5 c c1 (by omega) q1 q2
theorem fst_take {M : MS} {Y : YS} {v b f : Nat} (h : fstI M Y v b f) (hb : 0 < b) (h1' : mEp M b = mP M) (h2' : mHs M (11 * b) v = true) (hc : f = 0 ∨ yCa Y b v < yCa Y f v) : fstI M Y v (b + 1) b := by
  refine Or.inr ⟨hb, by omega, h1', h2', fun c c1 c2 q1 q2 => ?_⟩
  by_cases e : c = b
  · rw [e]; exact Nat.le_refl _
  · rcases h with ⟨h1, h2⟩ | ⟨h1, h2, h3, h4, h5⟩
    · exact absurd ⟨q1, q2⟩ (h2 c c1 (by omega))
    · have := h5 c c1 (by omega) q1 q2
      omega
theorem fst_end {G : kG} {u : CS} {Y : YS} (h : Inv0 G u) (hY : InvY (gn G) u.1 Y) {v b f : Nat} (hv : v < gn G) (hf : fstI u.1 Y v b f) (hb : mT u.1 ≤ b) : mFc u.1 v (mP u.1) = f := by
  obtain ⟨f1, f2⟩ := h.2.2.2.2.1
  have hlt := h.1.2.2.2.2.2.2.2.2.2.1 v (mP u.1)
  rcases hf with ⟨h1, h2⟩ | ⟨h1, h2, h3, h4, h5⟩
  · by_cases hne : mFc u.1 v (mP u.1) = 0
    · omega
    · exact absurd (f1 v _ hne) (h2 _ (Nat.pos_of_ne_zero hne) (by omega))
  · have h6 := f2 v f h4
    rw [h3] at h6
    have h7 := f1 v _ h6
    have h8 := h5 _ (Nat.pos_of_ne_zero h6) (by omega) h7.1 h7.2
    by_cases e : f = mFc u.1 v (mP u.1)
    · exact e.symm
    · have h9 := hY.2.2 v f hv h4 (by rw [h3]; exact e)
      rw [h3] at h9
      omega
/-! a letter that comes -/
def tkL (n v : Nat) (u : CS) (l : Nat) : CS := if l % 11 = 0 then cTakeP n (cUp u) v (l / 11) else cTakeV n (cUp u) v (l % 11 - 1) (l / 11)
theorem step_tk {n v : Nat} {u : CS} {l : Nat} (h : mWy u.1 l v = true) : stepL n v u l = cLook n (tkL n v u l) v := by
  unfold stepL tkL
  rw [if_pos h]
  split <;> rfl
theorem tk_wR {G : kG} {u : CS} (h : Inv0 G u) (v l : Nat) (Z : YS) : wR G (gnM (gn G) (sC u.1 (mC u.1 + 1)) l v, Z) = wR G ((tkL (gn G) v u l).1, Z) := by
  have hn := h.1.2.1
  unfold tkL
  split
  · have e := takeP_gn hn (u := cUp u) h.2.2.1 v (l / 11)
    rw [show 11 * (l / 11) = l by omega] at e
    rw [e, wR_fc]; rfl
  · have e := takeV_gn hn (u := cUp u) h.2.2.1 v (l % 11 - 1) (l / 11)
    rw [show 11 * (l / 11) + 1 + (l % 11 - 1) = l by omega] at e
    rw [e]; rfl
theorem tk_inv {G : kG} {u : CS} (h : Inv0 G u) {v l : Nat} (hv : v < gn G) (hw : mWy u.1 l v = true) : Inv0 G (tkL (gn G) v u l) := by
  have hn := h.1.2.1
  obtain ⟨h1, h2, h3, h4⟩ := h.2.1 l v (Or.inr hw)
  unfold tkL
  split
  · exact Inv0_takeP (Inv0_up h) hv (by omega) (by show l / 11 < mT u.1; omega)
  · have e : 11 * (l / 11) + 1 + (l % 11 - 1) = l := by omega
    have ho := way_own h (v := v) (x := l % 11 - 1) (b := l / 11) (by omega) (by rw [e]; exact hw)
    exact Inv0_takeV (Inv0_up h) hv (by omega) (by omega) (by show l / 11 < mT u.1; omega) (Or.inr ho.2) (fun q => absurd q ho.1)
theorem tk_Y {G : kG} {u : CS} (h : Inv0 G u) {Y : YS} (hY : InvY (gn G) u.1 Y) {v l : Nat} (hv : v < gn G) (hw : mWy u.1 l v = true) : InvY (gn G) (tkL (gn G) v u l).1 (gnY Y l v) := by
  have hn := h.1.2.1
  obtain ⟨h1, h2, h3, h4⟩ := h.2.1 l v (Or.inr hw)
  have h0 : mHs u.1 l v = false := by
    cases q : mHs u.1 l v
    · rfl
    · rw [h.2.2.1 l v q] at hw; cases hw
  unfold tkL
  split
  · have e : 11 * (l / 11) = l := by omega
    have := InvY_takeP (Inv0_up h) (Y := Y) hY (v := v) (b := l / 11) hv (by omega) (by show l / 11 < mT u.1; omega) (by rw [e]; exact h0)
    rw [e] at this
    exact this
  · have e : 11 * (l / 11) + 1 + (l % 11 - 1) = l := by omega
    have := InvY_takeV (G := G) (u := cUp u) (Y := Y) hY (v := v) (x := l % 11 - 1) (b := l / 11) (by omega)
    rw [e] at this
    exact this
theorem gnY_tc (Y : YS) (l v : Nat) : yTc (gnY Y l v) = yTc Y := by unfold gnY; split <;> rfl
theorem InvY_snd {n : Nat} {M : MS} {Y : YS} (h : InvY n M Y) (l : Nat) (to : Int32) (k : Nat) : InvY n (sndM M l to k) Y := InvY_same h (fun l' v' q => by rw [snd_hs]; exact q) (fun b v => by rw [snd_hs]) (snd_Fc _ _ _ _) (fun _ _ _ => by rw [stat_Ep (st_snd _ _ _ _)]) rfl rfl
theorem y_bnd {n : Nat} {M : MS} {Y : YS} (h : InvY n M Y) (b v : Nat) : yCa Y b v ≤ 6600 := Nat.le_trans (h.2.1 b v) (Nat.le_trans h.1 (hc_le M))
