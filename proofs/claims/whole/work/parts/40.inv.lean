/-! what holds between calls -/
def hc (M : MS) : Nat := cnt (fun k => mHs M (11 + k / 10) (k % 10)) 6600
def rngI (n : Nat) (M : MS) : Prop := ∀ l v, (mHs M l v = true ∨ mWy M l v = true) → 11 ≤ l ∧ l < 11 * mT M ∧ v < n ∧ l % 11 ≤ n
def disI (M : MS) : Prop := ∀ l v, mHs M l v = true → mWy M l v = false
def ownI (M : MS) : Prop := ∀ b x o, x < 10 → (mHs M (11 * b + 1 + x) o = true ∨ mWy M (11 * b + 1 + x) o = true) → mHs M (11 * b + 1 + x) x = true
def fcI (M : MS) : Prop := (∀ v e, mFc M v e ≠ 0 → mEp M (mFc M v e) = e ∧ mHs M (11 * mFc M v e) v = true) ∧ (∀ v b, mHs M (11 * b) v = true → mFc M v (mEp M b) ≠ 0)
def epI (M : MS) : Prop := mEp M 0 = 0 ∧ ∀ b, 0 < b → b < mT M → 1 ≤ mEp M b
def own2I (n : Nat) (M : MS) : Prop := ∀ v b, v < n → mFa M v = false → mHs M (11 * b + 1 + v) v = true → mVf M v (mEp M b) ≠ 0
def htI (M : MS) : Prop := mHt M 0 = 0 ∧ ∀ b, 0 < b → b < mT M → mHt M b = mHt M (mPar M b) + 1
def clI (M : MS) (X : XS) : Prop := ∀ b, b < mT M → xCl X b = if b = 0 then mLo M 0 else xCl X (mPar M b) ||| mLo M b
def dvV (n : Nat) (M : MS) (X : XS) (v : Nat) : Prop := DV n M (xCh X) v (xKn X v) (xNo X v) (xFi X v) (xTp X v) (xHf X v) ∧ ∀ b, mT M ≤ b → xKn X v b = false ∧ xNo X v b = false ∧ xFi X v b = false
def Inv0 (G : kG) (u : CS) : Prop := okC G u ∧ rngI (gn G) u.1 ∧ disI u.1 ∧ ownI u.1 ∧ fcI u.1 ∧ epI u.1 ∧ own2I (gn G) u.1 ∧ htI u.1 ∧ chE u.1 (xCh u.2) ∧ clI u.1 u.2 ∧ ∀ v, v < gn G → dvV (gn G) u.1 u.2 v
def Inv (G : kG) (u : CS) : Prop := Inv0 G u ∧ mC u.1 ≤ hc u.1
theorem hc_le (M : MS) : hc M ≤ 6600 := cnt_le _ _
theorem cnt_pt {f g : Nat → Bool} {k : Nat} (hf : f k = false) (hg : g k = true) (h : ∀ j, j ≠ k → g j = f j) : ∀ m, k < m → cnt g m = cnt f m + 1 := by
  intro m
  induction m with
  | zero => intro hm; omega
  | succ m ih =>
    intro hm
    by_cases e : m = k
    · subst e
      simp only [cnt, hf, hg]
      rw [cnt_congr (f := g) (g := f) fun j hj => h j (by omega)]
      simp
    · simp only [cnt, h m e]
      rw [ih (by omega)]
      omega
theorem cnt_le_cnt {f g : Nat → Bool} (m : Nat) (h : ∀ j, j < m → f j = true → g j = true) : cnt f m ≤ cnt g m := by
  induction m with
  | zero => exact Nat.le_refl _
  | succ m ih =>
    have := ih fun j hj => h j (by omega)
    simp only [cnt]
    have h2 := h m (by omega)
    cases hfm : f m
    · simp; omega
    · simp [h2 hfm]; omega
/-! chains -/
theorem ch_le {M : MS} {ch : Nat → Nat → Bool} (hc : chE M ch) (hp : ∀ b, 0 < b → mPar M b < b) (hh : htI M) : ∀ b c, b < mT M → ch b c = true → c ≤ b ∧ (c = b ∨ mHt M c < mHt M b) := by
  intro b
  induction b using Nat.strongRecOn with
  | ind b ih =>
    intro c hb h
    rw [hc b c hb] at h
    simp only [Bool.or_eq_true, Bool.and_eq_true, decide_eq_true_eq] at h
    rcases h with h | ⟨h1, h2⟩
    · exact ⟨by omega, Or.inl h⟩
    · have hpb := hp b (Nat.pos_of_ne_zero h1)
      have := ih (mPar M b) hpb c (by omega) h2
      have hht := hh.2 b (Nat.pos_of_ne_zero h1) hb
      refine ⟨by omega, Or.inr ?_⟩
      rcases this.2 with q | q
      · rw [q]; omega
      · omega
theorem ch_self {M : MS} {ch : Nat → Nat → Bool} (hc : chE M ch) {b : Nat} (hb : b < mT M) : ch b b = true := by rw [hc b b hb]; simp
/-! what a change of the state that keeps 'stat' keeps -/
theorem better_st {M N : MS} (h : stat M = stat N) : better M = better N := by
  funext t b; simp only [better, stat_Ht h, stat_Ep h]
theorem betterF_st {M N : MS} (h : stat M = stat N) : betterF M = betterF N := by
  funext t b; simp only [betterF, stat_Ht h]
theorem isThree_st {M N : MS} (h : stat M = stat N) : isThree M = isThree N := by
  funext t b; simp only [isThree, stat_Par h, stat_Ep h]
theorem chE_st {M N : MS} {ch : Nat → Nat → Bool} (h : stat M = stat N) (hc : chE N ch) : chE M ch := by
  intro b c hb
  rw [stat_Par h]
  exact hc b c (by rw [← stat_T h]; exact hb)
theorem htI_st {M N : MS} (h : stat M = stat N) (hc : htI N) : htI M := by
  unfold htI
  rw [stat_Ht h, stat_T h, stat_Par h]
  exact hc
theorem epI_st {M N : MS} (h : stat M = stat N) (hc : epI N) : epI M := by
  unfold epI
  rw [stat_Ep h, stat_T h]
  exact hc
theorem clI_st {M N : MS} {X : XS} (h : stat M = stat N) (hc : clI N X) : clI M X := by
  intro b hb
  rw [stat_Par h, stat_Lo h]
  exact hc b (by rw [← stat_T h]; exact hb)
/-- DV looks at M by 'stat' and by what the node has -/
theorem DV_st {n : Nat} {M N : MS} {ch : Nat → Nat → Bool} {v : Nat} {kn no fi : Nat → Bool} {tp hf : Nat} (h : stat M = stat N) (hh : ∀ l, mHs M l v = mHs N l v) (hd : DV n N ch v kn no fi tp hf) : DV n M ch v kn no fi tp hf := by
  obtain ⟨h1, h2, h3, h4, h5⟩ := hd
  have hnv : ∀ b, nVo M b v = nVo N b v := fun b => cnt_congr fun j _ => hh _
  unfold DV
  rw [stat_T h]
  refine ⟨fun b hb => ?_, fun b hb => ?_, ?_, fun b hb => ?_, ?_⟩
  · unfold knE; rw [hh, stat_Par h]; exact h1 b hb
  · unfold noE; rw [stat_Par h, hnv]; exact h2 b hb
  · unfold tpE; rw [better_st h]; exact h3
  · unfold fiE; rw [isThree_st h, stat_Par h]; exact h4 b hb
  · unfold hfE; rw [betterF_st h]; exact h5
theorem dvV_st {n : Nat} {M N : MS} {X : XS} {v : Nat} (h : stat M = stat N) (hh : ∀ l, mHs M l v = mHs N l v) (hd : dvV n N X v) : dvV n M X v :=
  ⟨DV_st h hh hd.1, fun b hb => hd.2 b (by rw [← stat_T h]; exact hb)⟩
/-! judging after a letter has come -/
/-- the state of the pass at block i: below i the new equations, from i on what was -/
def JI (n : Nat) (M : MS) (v : Nat) (X0 X : XS) (i : Nat) : Prop :=
  (∀ b, b < i → knE M v (xKn X v) b) ∧ (∀ b, i ≤ b → xKn X v b = xKn X0 v b) ∧ (∀ b, xKn X0 v b = true → xKn X v b = true) ∧
  (∀ b, b < i → noE n M v (xKn X v) (xNo X v) b) ∧ (∀ b, i ≤ b → xNo X v b = xNo X0 v b) ∧ (∀ b, xNo X0 v b = true → xNo X v b = true) ∧
  tpE M (xNo X v) (mT M) (xTp X v) ∧ (∀ b, b < mT M → fiE M (xCh X0) (xNo X v) (mT M) (xFi X v) b) ∧ hfE M (xFi X v) (mT M) (xHf X v) ∧
  (∀ b, mT M ≤ b → xFi X v b = false) ∧
  xCh X = xCh X0 ∧ xCl X = xCl X0 ∧ ∀ w, w ≠ v → xKn X w = xKn X0 w ∧ xNo X w = xNo X0 w ∧ xFi X w = xFi X0 w ∧ xTp X w = xTp X0 w ∧ xHf X w = xHf X0 w
