/-! what blocks are to a node: equations that decide it, and how the reference works it out -/
def same4 (Y Z : YS) : Prop := yCa Y = yCa Z ∧ yCm Y = yCm Z ∧ yTc Y = yTc Z ∧ yCn Y = yCn Z
def knE (M : MS) (v : Nat) (kn : Nat → Bool) (b : Nat) : Prop := kn b = (decide (b = 0) || (mHs M (11 * b) v && kn (mPar M b)))
def noE (n : Nat) (M : MS) (v : Nat) (kn no : Nat → Bool) (b : Nat) : Prop := no b = (decide (b = 0) || (kn b && (no (mPar M b) && decide (2 * n ≤ 3 * nVo M b v))))
def tpE (M : MS) (no : Nat → Bool) (T tp : Nat) : Prop := tp < T ∧ no tp = true ∧ ∀ b, b < T → no b = true → better M tp b = false
def fiE (M : MS) (ch : Nat → Nat → Bool) (no : Nat → Bool) (C : Nat) (fi : Nat → Bool) (b : Nat) : Prop := fi b = true ↔ b = 0 ∨ ∃ c, 0 < c ∧ c < C ∧ no c = true ∧ isThree M c (mPar M c) = true ∧ ch (mPar M c) b = true
def hfE (M : MS) (fi : Nat → Bool) (T hf : Nat) : Prop := hf < T ∧ fi hf = true ∧ ∀ b, b < T → fi b = true → betterF M hf b = false
def DV (n : Nat) (M : MS) (ch : Nat → Nat → Bool) (v : Nat) (kn no fi : Nat → Bool) (tp hf : Nat) : Prop := (∀ b, b < mT M → knE M v kn b) ∧ (∀ b, b < mT M → noE n M v kn no b) ∧ tpE M no (mT M) tp ∧ (∀ b, b < mT M → fiE M ch no (mT M) fi b) ∧ hfE M fi (mT M) hf
theorem better_ff {M : MS} {t b : Nat} (h : ¬ (mHt M t < mHt M b ∨ (mHt M t = mHt M b ∧ (mEp M t < mEp M b ∨ (mEp M t = mEp M b ∧ b < t))))) : better M t b = false := by
  cases hb : better M t b
  · rfl
  · exact absurd ((better_iff M t b).mp hb) h
theorem better_nf {M : MS} {t b : Nat} (h : better M t b = false) : ¬ (mHt M t < mHt M b ∨ (mHt M t = mHt M b ∧ (mEp M t < mEp M b ∨ (mEp M t = mEp M b ∧ b < t)))) := fun q => by
  rw [(better_iff M t b).mpr q] at h
  cases h
theorem betterF_ff {M : MS} {t b : Nat} (h : ¬ (mHt M t < mHt M b ∨ (mHt M t = mHt M b ∧ b < t))) : betterF M t b = false := by
  cases hb : betterF M t b
  · rfl
  · exact absurd ((betterF_iff M t b).mp hb) h
theorem betterF_nf {M : MS} {t b : Nat} (h : betterF M t b = false) : ¬ (mHt M t < mHt M b ∨ (mHt M t = mHt M b ∧ b < t)) := fun q => by
  rw [(betterF_iff M t b).mpr q] at h
  cases h
theorem knE_up {M : MS} {v : Nat} {kn : Nat → Bool} {i : Nat} {kv : Bool} (hp : ∀ b, 0 < b → mPar M b < b) (h : ∀ b, b < i → knE M v kn b) (hkv : kv = (decide (i = 0) || (mHs M (11 * i) v && kn (mPar M i)))) : ∀ b, b < i + 1 → knE M v (va_up kn i kv) b := by
  intro b hb
  unfold knE
  rcases Nat.eq_zero_or_pos b with h0 | h0
  · subst h0
    rcases Nat.eq_zero_or_pos i with hi | hi
    · subst hi; simp [va_up, hkv]
    · rw [va_up_ne _ _ (by omega), h 0 hi]; simp
  · have hpb := hp b h0
    by_cases e : b = i
    · subst e
      rw [va_up_self, va_up_ne _ _ (by omega), hkv]
    · rw [va_up_ne _ _ e, va_up_ne _ _ (by omega)]
      exact h b (by omega)
theorem noE_up {n : Nat} {M : MS} {v : Nat} {kn no : Nat → Bool} {i : Nat} {kv nv : Bool} (hp : ∀ b, 0 < b → mPar M b < b) (h : ∀ b, b < i → noE n M v kn no b) (hnv : nv = (decide (i = 0) || (kv && (no (mPar M i) && decide (2 * n ≤ 3 * nVo M i v))))) : ∀ b, b < i + 1 → noE n M v (va_up kn i kv) (va_up no i nv) b := by
  intro b hb
  unfold noE
  rcases Nat.eq_zero_or_pos b with h0 | h0
  · subst h0
    rcases Nat.eq_zero_or_pos i with hi | hi
    · subst hi; simp [va_up, hnv]
    · rw [va_up_ne no _ (by omega), h 0 hi]; simp
  · have hpb := hp b h0
    by_cases e : b = i
    · subst e
      rw [va_up_self, va_up_self, va_up_ne _ _ (by omega), hnv]
    · rw [va_up_ne _ _ e, va_up_ne _ _ e, va_up_ne _ _ (by omega)]
      exact h b (by omega)
def KV (M : MS) (Y : YS) (v b : Nat) : Bool := decide (b = 0) || (mHs M (11 * b) v && yKn Y (mPar M b))
def NV (n : Nat) (M : MS) (Y : YS) (v b : Nat) (kv : Bool) : Bool := decide (b = 0) || (kv && (yNo Y (mPar M b) && decide (2 * n ≤ 3 * nVo M b v)))
def WO1 (n : Nat) (M : MS) (v : Nat) (Y : YS) (i : Nat) : Prop := (∀ b, b < i → knE M v (yKn Y) b) ∧ (∀ b, b < i → noE n M v (yKn Y) (yNo Y) b) ∧ (∀ b, b < i → yFi Y b = decide (b = 0)) ∧ yRc Y = mHt M (yTp Y) ∧ ((i = 0 ∧ yTp Y = 0) ∨ (0 < i ∧ tpE M (yNo Y) i (yTp Y)))
def woY (Y : YS) (i : Nat) (kv nv : Bool) : YS := wFi (wNo (wKn Y (va_up (yKn Y) i kv)) (va_up (yNo Y) i nv)) (va_up (yFi Y) i (decide (i = 0)))
theorem fiD_up {fi : Nat → Bool} {i : Nat} (h : ∀ b, b < i → fi b = decide (b = 0)) : ∀ b, b < i + 1 → va_up fi i (decide (i = 0)) b = decide (b = 0) := by
  intro b hb
  by_cases e : b = i
  · subst e; rw [va_up_self]
  · rw [va_up_ne _ _ e]; exact h b (by omega)
theorem wo1_keep {n : Nat} {M : MS} {v : Nat} {Y : YS} {i : Nat} {kv nv : Bool} (hp : ∀ b, 0 < b → mPar M b < b) (h : WO1 n M v Y i) (hkv : kv = KV M Y v i) (hnv : nv = NV n M Y v i kv) (hc : nv = true → ¬ (yRc Y < mHt M i ∨ (yRc Y = mHt M i ∧ mEp M (yTp Y) < mEp M i))) : WO1 n M v (woY Y i kv nv) (i + 1) := by
  obtain ⟨h1, h2, h3, h4, h5⟩ := h
  refine ⟨knE_up hp h1 hkv, noE_up hp h2 hnv, fiD_up h3, h4, Or.inr ⟨Nat.succ_pos _, ?_⟩⟩
  show tpE M (va_up (yNo Y) i nv) (i + 1) (yTp Y)
  rcases h5 with ⟨hi, ht⟩ | ⟨hi, ht1, ht2, ht3⟩
  · subst hi
    rw [ht]
    have hn : nv = true := by rw [hnv]; simp [NV]
    refine ⟨by omega, by rw [va_up_self]; exact hn, fun b hb _ => better_ff (by rw [show b = 0 by omega]; omega)⟩
  · refine ⟨by omega, by rw [va_up_ne _ _ (by omega)]; exact ht2, fun b hb hb2 => ?_⟩
    by_cases e : b = i
    · subst e
      rw [va_up_self] at hb2
      have := hc hb2
      rw [h4] at this
      exact better_ff (by omega)
    · rw [va_up_ne _ _ e] at hb2
      exact ht3 b (by omega) hb2
theorem wo1_take {n : Nat} {M : MS} {v : Nat} {Y : YS} {i : Nat} {kv nv : Bool} (hp : ∀ b, 0 < b → mPar M b < b) (h : WO1 n M v Y i) (hkv : kv = KV M Y v i) (hnv : nv = NV n M Y v i kv) (hn : nv = true) (hc : yRc Y < mHt M i ∨ (yRc Y = mHt M i ∧ mEp M (yTp Y) < mEp M i)) : WO1 n M v (wTp (wRc (woY Y i kv nv) (mHt M i)) i) (i + 1) := by
  obtain ⟨h1, h2, h3, h4, h5⟩ := h
  refine ⟨knE_up hp h1 hkv, noE_up hp h2 hnv, fiD_up h3, rfl, Or.inr ⟨Nat.succ_pos _, ?_⟩⟩
  show tpE M (va_up (yNo Y) i nv) (i + 1) i
  rcases h5 with ⟨hi, ht⟩ | ⟨hi, ht1, ht2, ht3⟩
  · subst hi
    rw [h4, ht] at hc
    omega
  · refine ⟨by omega, by rw [va_up_self]; exact hn, fun b hb hb2 => ?_⟩
    by_cases e : b = i
    · subst e
      exact better_ff (by omega)
    · rw [va_up_ne _ _ e] at hb2
      have := better_nf (ht3 b (by omega) hb2)
      rw [h4] at hc
      exact better_ff (by omega)
def WO2 (n : Nat) (M : MS) (ch : Nat → Nat → Bool) (v : Nat) (Y : YS) (C : Nat) : Prop := (∀ b, b < mT M → knE M v (yKn Y) b) ∧ (∀ b, b < mT M → noE n M v (yKn Y) (yNo Y) b) ∧ yRc Y = mHt M (yTp Y) ∧ tpE M (yNo Y) (mT M) (yTp Y) ∧ ∀ b, b < mT M → fiE M ch (yNo Y) C (yFi Y) b
theorem wo2_0 {n : Nat} {M : MS} {ch : Nat → Nat → Bool} {v : Nat} {Y : YS} (hT : 1 ≤ mT M) (h : WO1 n M v Y (mT M)) : WO2 n M ch v Y 1 := by
  obtain ⟨h1, h2, h3, h4, h5⟩ := h
  refine ⟨h1, h2, h4, ?_, fun b hb => ?_⟩
  · rcases h5 with ⟨h, -⟩ | ⟨-, h⟩
    · omega
    · exact h
  · unfold fiE
    rw [h3 b hb, decide_eq_true_eq]
    exact ⟨Or.inl, fun h => h.elim id (fun ⟨c, hc1, hc2, _⟩ => by omega)⟩
theorem wo2_skip {n : Nat} {M : MS} {ch : Nat → Nat → Bool} {v : Nat} {Y : YS} {C : Nat} (h : WO2 n M ch v Y C) (hc : ¬ (yNo Y C = true ∧ isThree M C (mPar M C) = true)) : WO2 n M ch v Y (C + 1) := by
  obtain ⟨h1, h2, h3, h4, h5⟩ := h
  refine ⟨h1, h2, h3, h4, fun b hb => (h5 b hb).trans ⟨fun q => ?_, fun q => ?_⟩⟩
  · exact q.imp id fun ⟨c, a1, a2, a3⟩ => ⟨c, a1, by omega, a3⟩
  · refine q.imp id fun ⟨c, a1, a2, a3, a4, a5⟩ => ⟨c, a1, ?_, a3, a4, a5⟩
    rcases Nat.lt_or_ge c C with q | q
    · exact q
    · have e : c = C := by omega
      rw [e] at a3 a4
      exact absurd ⟨a3, a4⟩ hc
theorem wo2_take {n : Nat} {M : MS} {ch : Nat → Nat → Bool} {v : Nat} {Y : YS} {C : Nat} {fi : Nat → Bool} (h : WO2 n M ch v Y C) (hC : 0 < C) (h1' : yNo Y C = true) (h2' : isThree M C (mPar M C) = true) (hf : ∀ b, fi b = (yFi Y b || ch (mPar M C) b)) : WO2 n M ch v (wFi Y fi) (C + 1) := by
  obtain ⟨h1, h2, h3, h4, h5⟩ := h
  refine ⟨h1, h2, h3, h4, fun b hb => ?_⟩
  show fi b = true ↔ _
  rw [hf b, Bool.or_eq_true, show yFi Y b = true ↔ _ from h5 b hb]
  constructor
  · rintro ((h | ⟨c, a1, a2, a3⟩) | h)
    · exact Or.inl h
    · exact Or.inr ⟨c, a1, by omega, a3⟩
    · exact Or.inr ⟨C, hC, by omega, h1', h2', h⟩
  · rintro (h | ⟨c, a1, a2, a3, a4, a5⟩)
    · exact Or.inl (Or.inl h)
    · rcases Nat.lt_or_ge c C with q | q
      · exact Or.inl (Or.inr ⟨c, a1, q, a3, a4, a5⟩)
      · have e : c = C := by omega
        rw [e] at a5
        exact Or.inr a5
def WO3 (n : Nat) (M : MS) (ch : Nat → Nat → Bool) (v : Nat) (Y : YS) (i : Nat) : Prop := WO2 n M ch v Y (mT M) ∧ ((i = 0 ∧ yHi Y = 0) ∨ (0 < i ∧ hfE M (yFi Y) i (yHi Y)))
theorem wo3_keep {n : Nat} {M : MS} {ch : Nat → Nat → Bool} {v : Nat} {Y : YS} {i : Nat} (h : WO3 n M ch v Y i) (hi : i < mT M) (hc : yFi Y i = true → mHt M i ≤ mHt M (yHi Y)) : WO3 n M ch v Y (i + 1) := by
  obtain ⟨h1, h5⟩ := h
  refine ⟨h1, Or.inr ⟨Nat.succ_pos _, ?_⟩⟩
  rcases h5 with ⟨e, ht⟩ | ⟨e, ht1, ht2, ht3⟩
  · subst e
    rw [ht] at hc ⊢
    refine ⟨by omega, (h1.2.2.2.2 0 hi).mpr (Or.inl rfl), fun b hb _ => betterF_ff (by rw [show b = 0 by omega]; omega)⟩
  · refine ⟨by omega, ht2, fun b hb hb2 => ?_⟩
    by_cases e : b = i
    · subst e
      have := hc hb2
      exact betterF_ff (by omega)
    · exact ht3 b (by omega) hb2
theorem wo3_take {n : Nat} {M : MS} {ch : Nat → Nat → Bool} {v : Nat} {Y : YS} {i : Nat} (h : WO3 n M ch v Y i) (hf : yFi Y i = true) (hc : mHt M (yHi Y) < mHt M i) : WO3 n M ch v (wHi Y i) (i + 1) := by
  obtain ⟨h1, h5⟩ := h
  refine ⟨h1, Or.inr ⟨Nat.succ_pos _, ?_⟩⟩
  show hfE M (yFi Y) (i + 1) i
  rcases h5 with ⟨e, ht⟩ | ⟨e, ht1, ht2, ht3⟩
  · subst e
    rw [ht] at hc
    omega
  · refine ⟨by omega, hf, fun b hb hb2 => ?_⟩
    by_cases e : b = i
    · subst e
      exact betterF_ff (by omega)
    · have := betterF_nf (ht3 b (by omega) hb2)
      exact betterF_ff (by omega)
theorem wo3_end {n : Nat} {M : MS} {ch : Nat → Nat → Bool} {v : Nat} {Y : YS} {i : Nat} (hT : 1 ≤ mT M) (h : WO3 n M ch v Y i) (e : mT M = i) : DV n M ch v (yKn Y) (yNo Y) (yFi Y) (yTp Y) (yHi Y) ∧ yRc Y = mHt M (yTp Y) := by
  subst e
  obtain ⟨⟨h1, h2, h3, h4, h5⟩, h6⟩ := h
  refine ⟨⟨h1, h2, h4, h5, ?_⟩, h3⟩
  rcases h6 with ⟨h, -⟩ | ⟨-, h⟩
  · omega
  · exact h
/-- a chain, as the class keeps it -/
def chE (M : MS) (ch : Nat → Nat → Bool) : Prop := ∀ b c, b < mT M → ch b c = (decide (c = b) || (decide (b ≠ 0) && ch (mPar M b) c))
/-- the members of a chain that are left: none below the first block -/
def chK (ch : Nat → Nat → Bool) (k : Option Nat) (c : Nat) : Bool := match k with
  | none => false
  | some k => ch k c
