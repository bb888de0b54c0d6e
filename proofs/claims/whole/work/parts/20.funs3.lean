/-! more of the class's functions -/
def cLoad (u : CS) (v : Nat) : Int32 := mWi u.1 v &&& (xCl u.2 (xTp u.2 v) ^^^ (-1))
def cMkTip (u : CS) (v : Nat) : CS := cMake u (xTp u.2 v) (mP u.1) (cLoad u v) v
def cMakeOnTip (n : Nat) (u : CS) (v : Nat) : CS := cTakeP n (cMkTip u v) v (mT u.1)
def uwB (M : MS) (v : Nat) : Nat → Nat
  | 0 => 0
  | k + 1 => uwB M v k + cnt (fun x => mWy M (11 * k + 1 + x) v) 10
def uwN (M : MS) : Nat → Nat
  | 0 => 0
  | k + 1 => uwN M k + (cnt (pB (mWy M) k) 64 + uwB M k (mT M))
theorem ok_make {G : kG} {u : CS} (hk : okC G u) {o e v : Nat} (w : Int32) (ho : o < mT u.1) (he : e ≤ 40) (hT : mT u.1 ≤ 60) : okC G (cMake u o e w v) := by
  obtain ⟨a1, a2, a3, a4, a5, a6, a7, a8, a9, a10, a11, a12, a13⟩ := hk
  refine ⟨a1, a2, ?_, ?_, a5, a6, fun b hb => ?_, fun b => ?_, fun b => ?_, fun v e => ?_, a11, fun v => ?_, fun v => ?_⟩
  · show 1 ≤ mT u.1 + 1; omega
  · show mT u.1 + 1 ≤ 61; omega
  · show va_up (mPar u.1) (mT u.1) o b < b
    unfold va_up; split
    · omega
    · exact a7 b hb
  · show va_up (mEp u.1) (mT u.1) e b ≤ 40
    unfold va_up; split
    · exact he
    · exact a8 b
  · show va_up (mHt u.1) (mT u.1) (mHt u.1 o + 1) b ≤ b
    unfold va_up; split
    · have := a9 o; omega
    · exact a9 b
  · show mFc u.1 v e < mT u.1 + 1
    have := a10 v e; omega
  · show xTp u.2 v < mT u.1 + 1
    have := a12 v; omega
  · show xHf u.2 v < mT u.1 + 1
    have := a13 v; omega
theorem T_make (u : CS) (o e : Nat) (w : Int32) (v : Nat) : mT (cMake u o e w v).1 = mT u.1 + 1 := rfl
theorem ok_mkTip {G : kG} {u : CS} (hk : okC G u) {v : Nat} (hT : mT u.1 ≤ 60) : okC G (cMkTip u v) := ok_make hk _ (hk.2.2.2.2.2.2.2.2.2.2.2.1 v) hk.2.2.2.2.1 hT
theorem ok_makeOnTip {G : kG} {u : CS} (hk : okC G u) {v : Nat} (hT : mT u.1 ≤ 60) : okC G (cMakeOnTip (gn G) u v) := ok_takeP (ok_mkTip hk hT) (by show mT u.1 < mT u.1 + 1; omega)
theorem uwB_le (M : MS) (v k : Nat) : uwB M v k ≤ 10 * k := by
  induction k with
  | zero => exact Nat.le_refl _
  | succ k ih => have := cnt_le (fun x => mWy M (11 * k + 1 + x) v) 10; unfold uwB; omega
theorem uwN_le (M : MS) (k : Nat) (hT : mT M ≤ 61) : uwN M k ≤ 1000 * k := by
  induction k with
  | zero => exact Nat.le_refl _
  | succ k ih =>
    have h1 := cnt_le (pB (mWy M) k) 64
    have h2 := uwB_le M k (mT M)
    unfold uwN; omega
theorem cnt_pB (f : Nat → Nat → Bool) (v : Nat) : cnt (tL (eL (pB f v))) 64 = cnt (pB f v) 64 := cnt_congr fun j hj => tL_eL _ hj
