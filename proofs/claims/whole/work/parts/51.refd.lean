/-! the last facts for the reference's walks -/
theorem settle_same {G : kG} {w : CS} (h : Inv G w) (hc : mC (rnd (gn G) w (gn G)).1 ≤ mC w.1) : rnd (gn G) w (gn G) = w ∧ uwN w.1 (gn G) = 0 := by
  have h1 := rnd_C_le h (gn G) (Nat.le_refl _)
  have h2 := rnd_same h (gn G) (Nat.le_refl _) (by omega)
  exact ⟨h2.1, (uw_wy h.1).mpr h2.2⟩
theorem settle_more {G : kG} {w : CS} (h : Inv G w) (hc : mC w.1 < mC (rnd (gn G) w (gn G)).1) : uwN w.1 (gn G) ≠ 0 := fun hz => by
  rw [rnd_id h ((uw_wy h.1).mp hz) (gn G) (Nat.le_refl _)] at hc
  omega
theorem tp_wR {G : kG} {u : CS} (h : Inv0 G u) (v b : Nat) (Z : YS) : wR G (gnM (gn G) u.1 (11 * b) v, Z) = wR G ((cTakeP (gn G) u v b).1, Z) := by
  have e := takeP_gn h.1.2.1 (u := u) h.2.2.1 v b
  rw [e]; exact (wR_fc G _ Z _).symm
theorem new_hs {G : kG} {u : CS} (h : Inv0 G u) (v : Nat) : mHs u.1 (11 * mT u.1) v = false := by
  cases q : mHs u.1 (11 * mT u.1) v
  · rfl
  · have := (h.2.1 _ _ (Or.inl q)).2.1; omega
theorem sub_0 (y : Int32) : y = y - nI 0 := by
  have : nI 0 = 0 := rfl
  rw [this]; simp
theorem sub_m1 (y : Int32) (a : Nat) : y - nI a + (-1) = y - nI (a + 1) := by
  have e : nI (a + 1) = nI a + 1 := (nI_add a 1).symm
  rw [e]
  simp only [Int32.sub_eq_add_neg, Int32.neg_add]
  rw [Int32.add_assoc]
theorem sub_z {y : Int32} {a : Nat} (h : y - nI a = 0) : y = nI a := by
  have := congrArg (· + nI a) h
  simpa using this
theorem neg_ne {y : Int32} {a : Nat} (h : y < 0) (ha : a < 2 ^ 31) : y ≠ nI a := fun e => by
  rw [e] at h
  exact nI_pos ha h
theorem y_K (y : Int32) : y < 0 ∨ (y = nI y.toInt.toNat ∧ y.toInt.toNat < 2 ^ 31) := by
  by_cases h : y < 0
  · exact Or.inl h
  · obtain ⟨k, hk, rfl⟩ := nI_of h
    rw [nI_toInt hk]
    exact Or.inr ⟨by simp, by simpa using hk⟩
theorem neg_no {y : Int32} {K : Nat} (h : y = nI K) (hK : K < 2 ^ 31) : ¬ y < 0 := fun q => neg_ne q hK h
