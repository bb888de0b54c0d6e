/-! the reference's functions -/
theorem in_eq (x : Int32) {a k : Nat} (ha : a < 2 ^ 31) (hk : k < 2 ^ 31) : (decide (lN a ≤ x.toInt64) && decide (x.toInt64 ≤ lN k)) = decide ((a : Int) ≤ x.toInt ∧ x.toInt ≤ k) := by
  have e : x.toInt64.toInt = x.toInt := Int32.toInt_toInt64 x
  rw [Bool.eq_iff_iff]
  simp only [Bool.and_eq_true, decide_eq_true_eq, Int64.le_iff_toInt_le, lN_toInt ha, lN_toInt hk, e]
theorem in_cases (x : Int32) {a k : Nat} (ha : a < 2 ^ 31) (hk : k < 2 ^ 31 - 1) : (∃ j : Nat, (a ≤ j ∧ j ≤ k) ∧ x = nI j ∧ (decide (lN a ≤ x.toInt64) && decide (x.toInt64 ≤ lN k)) = true) ∨ ((∀ j : Nat, a ≤ j ∧ j ≤ k → x ≠ nI j) ∧ (decide (lN a ≤ x.toInt64) && decide (x.toInt64 ≤ lN k)) = false) := by
  rw [in_eq x ha (by omega)]
  by_cases h : (a : Int) ≤ x.toInt ∧ x.toInt ≤ k
  · obtain ⟨j, hj, hx⟩ := vp_in_of (x := x) (n := k + 1) (vp_in_iff.mpr ⟨by omega, by omega⟩) (by omega)
    refine Or.inl ⟨j, ⟨?_, by omega⟩, hx, decide_eq_true h⟩
    have := h.1
    rw [hx, nI_toInt (by omega)] at this
    omega
  · refine Or.inr ⟨fun j hj hx => h ?_, decide_eq_false h⟩
    rw [hx, nI_toInt (by omega)]
    omega
theorem ca_at (f : Nat → Nat → Nat) {l v : Nat} (hv : v < 10) : nI (f ((10 * l + v) / 10) ((10 * l + v) % 10)) = nI (f l v) := by
  rw [show (10 * l + v) / 10 = l by omega, show (10 * l + v) % 10 = v by omega]
theorem vf_at (f : Nat → Nat → Nat) {v e : Nat} (he : e < 41) : oI (f ((41 * v + e) / 41) ((41 * v + e) % 41)) = oI (f v e) := by
  rw [show (41 * v + e) / 41 = v by omega, show (41 * v + e) % 41 = e by omega]
/-- ranges that the reference keeps to -/
def okR (G : kG) (r : RS) : Prop := (4 ≤ gn G ∧ gn G ≤ 10) ∧ (1 ≤ mT r.1 ∧ mT r.1 ≤ 61) ∧ mP r.1 ≤ 40 ∧ (∀ e, mLd r.1 e < gn G) ∧ (∀ b, 0 < b → mPar r.1 b < b) ∧ (∀ b, mEp r.1 b ≤ 40) ∧ (∀ b, mHt r.1 b ≤ b) ∧ (∀ v e, mVf r.1 v e ≤ 60)
def wyA (M : MS) (l : Nat) : Nat → MS
  | 0 => M
  | k + 1 => sWy (wyA M l k) (up2 (mWy (wyA M l k)) l k (!(mHs M l k)))
def gnB (M : MS) (l v : Nat) : MS := sWy (sHs M (up2 (mHs M) l v true)) (up2 (mWy M) l v false)
/-- a node comes to have a letter -/
def gnM (n : Nat) (M : MS) (l v : Nat) : MS := if mFa M v then gnB M l v else wyA (gnB M l v) l n
def gnY (Y : YS) (l v : Nat) : YS := if l % 11 = 0 then wCa (wCm Y (yCm Y + 1)) (up2 (yCa Y) (l / 11) v (yCm Y + 1)) else Y
theorem wyA_hs (M : MS) (l k : Nat) : mHs (wyA M l k) = mHs M := by
  induction k with
  | zero => rfl
  | succ k ih => exact ih
theorem st_wyA (M : MS) (l k : Nat) : stat (wyA M l k) = stat M := by
  induction k with
  | zero => rfl
  | succ k ih => exact ih
theorem wyA_vf (M : MS) (l k : Nat) : mVf (wyA M l k) = mVf M := by
  induction k with
  | zero => rfl
  | succ k ih => exact ih
theorem ok_wyA {G : kG} {r : RS} (hk : okR G r) (l k : Nat) : okR G (wyA r.1 l k, r.2) := by
  induction k with
  | zero => exact hk
  | succ k ih => exact ih
theorem okR_gn {G : kG} {r : RS} (hk : okR G r) (Y : YS) (n l v : Nat) : okR G (gnM n r.1 l v, Y) := by
  unfold gnM; split
  · exact hk
  · exact ok_wyA (r := (gnB r.1 l v, r.2)) hk _ _
theorem shr_bit : ∀ k, k < 32 → ((nI k &&& 31).toBitVec.smod 32).toNat = k := by decide +kernel
theorem to_bit (x : Int32) {k : Nat} (hk : k < 32) : ((x >>> (nI k &&& 31)) &&& nI 1) = bI (tI x k) := by
  apply tI_ext
  intro j hj
  rw [tI_and]
  have e1 : tI (nI 1) j = decide (j = 0) := by
    show (1#32).getLsbD j = _
    simp [BitVec.getLsbD_one]
  have e2 : tI (x >>> (nI k &&& 31)) 0 = tI x k := by
    show ((x >>> (nI k &&& 31)).toBitVec).getLsbD 0 = _
    rw [Int32.toBitVec_shiftRight]
    simp only [BitVec.sshiftRight_eq', shr_bit k hk, BitVec.getLsbD_sshiftRight]
    simp [tI, hk]
  rw [e1]
  by_cases h : j = 0
  · subst h
    rw [e2]
    cases tI x k <;> decide
  · have e3 : tI (bI (tI x k)) j = false := by
      cases tI x k
      · show (0#32).getLsbD j = false
        simp
      · show (1#32).getLsbD j = false
        simp [BitVec.getLsbD_one, h]
    simp [h, e3]
theorem toOk_shr (x : Int32) {n : Nat} (hn : n ≤ 10) (h0 : ¬ x < 0) : (x >>> (nI n &&& 31)) = 0 ↔ toOk n x := by
  have e : (x >>> (nI n &&& 31)).toInt = x.toInt >>> n := by
    rw [← Int32.toInt_toBitVec, Int32.toBitVec_shiftRight]
    simp only [BitVec.sshiftRight_eq', shr_bit n (by omega), BitVec.toInt_sshiftRight]
    rfl
  have h1 : 0 ≤ x.toInt := by
    rw [Int32.lt_iff_toInt_lt] at h0
    have e0 : (0 : Int32).toInt = 0 := rfl
    rw [e0] at h0; omega
  rw [← Int32.toInt_inj, e]
  have e0 : (0 : Int32).toInt = 0 := rfl
  rw [e0, Int.shiftRight_eq_div_pow]
  unfold toOk
  constructor
  · intro h
    refine ⟨h1, ?_⟩
    have hp : (0 : Int) < ((2 ^ n : Nat) : Int) := by exact_mod_cast Nat.two_pow_pos n
    have h2 := Int.emod_lt_of_pos x.toInt hp
    have h3 := Int.mul_ediv_add_emod x.toInt ((2 ^ n : Nat) : Int)
    rw [h] at h3
    have e2 : ((2 ^ n : Nat) : Int) = (2 : Int) ^ n := by norm_cast
    rw [e2] at h2 h3
    omega
  · intro ⟨_, h2⟩
    exact Int.ediv_eq_zero_of_lt h1 (by exact_mod_cast h2)
