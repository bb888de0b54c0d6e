/-! what the class's methods do, as functions of the state -/
def cnt (f : Nat → Bool) : Nat → Nat
  | 0 => 0
  | k + 1 => cnt f k + (if f k then 1 else 0)
/-- how many votes for a block a node has -/
def nVo (M : MS) (b v : Nat) : Nat := cnt (fun x => mHs M (11 * b + 1 + x) v) 10
theorem cnt_le (f : Nat → Bool) (k : Nat) : cnt f k ≤ k := by
  induction k with
  | zero => exact Nat.le_refl _
  | succ k ih => simp only [cnt]; split <;> omega
theorem cnt_congr {f g : Nat → Bool} {k : Nat} (h : ∀ j, j < k → f j = g j) : cnt f k = cnt g k := by
  induction k with
  | zero => rfl
  | succ k ih => simp only [cnt, h k (Nat.lt_succ_self k)]; rw [ih fun j hj => h j (Nat.lt_succ_of_lt hj)]
theorem cnt_ext {f : Nat → Bool} {a : Nat} (b : Nat) (h : ∀ j, a ≤ j → j < a + b → f j = false) : cnt f (a + b) = cnt f a := by
  induction b with
  | zero => rfl
  | succ b ih =>
    show cnt f (a + b) + (if f (a + b) then 1 else 0) = _
    rw [h (a + b) (by omega) (by omega), ih fun j h1 h2 => h j h1 (by omega)]
    rfl
def mMake (M : MS) (o e : Nat) (w : Int32) (v : Nat) : MS := sMk (sHt (sLo (sEp (sPar (sT M (mT M + 1)) (va_up (mPar M) (mT M) o)) (va_up (mEp M) (mT M) e)) (va_up (mLo M) (mT M) w)) (va_up (mHt M) (mT M) (mHt M o + 1))) (va_up (mMk M) (mT M) v)
def xMake (M : MS) (X : XS) (o : Nat) (w : Int32) : XS := tCl (tCh X (va_up (xCh X) (mT M) (va_up (xCh X o) (mT M) true))) (va_up (xCl X) (mT M) (xCl X o ||| w))
def cMake (u : CS) (o e : Nat) (w : Int32) (v : Nat) : CS := (mMake u.1 o e w v, xMake u.1 u.2 o w)
/-- is b a better tip than t -/
def better (M : MS) (t b : Nat) : Bool := decide (mHt M t < mHt M b) || (decide (mHt M t = mHt M b) && (decide (mEp M t < mEp M b) || (decide (mEp M t = mEp M b) && decide (b < t))))
theorem better_iff (M : MS) (t b : Nat) : better M t b = true ↔ mHt M t < mHt M b ∨ (mHt M t = mHt M b ∧ (mEp M t < mEp M b ∨ (mEp M t = mEp M b ∧ b < t))) := by
  simp only [better, Bool.or_eq_true, Bool.and_eq_true, decide_eq_true_eq]
def cTip (M : MS) (X : XS) (v b : Nat) : XS := if better M (xTp X v) b then tTp X (va_up (xTp X) v b) else X
def betterF (M : MS) (h p : Nat) : Bool := decide (mHt M h < mHt M p) || (decide (mHt M h = mHt M p) && decide (p < h))
theorem betterF_iff (M : MS) (t b : Nat) : betterF M t b = true ↔ mHt M t < mHt M b ∨ (mHt M t = mHt M b ∧ b < t) := by
  simp only [betterF, Bool.or_eq_true, Bool.and_eq_true, decide_eq_true_eq]
def isThree (M : MS) (c p : Nat) : Bool := decide (p ≠ 0) && (decide (mEp M p = mEp M (mPar M p) + 1) && decide (mEp M c = mEp M p + 1))
theorem isThree_iff (M : MS) (c p : Nat) : isThree M c p = true ↔ p ≠ 0 ∧ mEp M p = mEp M (mPar M p) + 1 ∧ mEp M c = mEp M p + 1 := by
  simp only [isThree, Bool.and_eq_true, decide_eq_true_eq]
def cFin1 (X : XS) (v p : Nat) : XS := tFi X (va_up (xFi X) v (fun k => xFi X v k || xCh X p k))
def cFin (M : MS) (X : XS) (v c p : Nat) : XS := if isThree M c p then (if betterF M (xHf X v) p then tHf (cFin1 X v p) (va_up (xHf X) v p) else cFin1 X v p) else X
def jKn (M : MS) (X : XS) (v b : Nat) : XS := if mHs M (11 * b) v && xKn X v (mPar M b) then tKn X (up2 (xKn X) v b true) else X
def jNo (n : Nat) (M : MS) (X : XS) (v b : Nat) : XS := if decide (2 * n ≤ 3 * nVo M b v) && (!(xNo X v b) && (xKn X v b && xNo X v (mPar M b))) then cFin M (cTip M (tNo X (up2 (xNo X) v b true)) v b) v b (mPar M b) else X
/-- what a letter of a node changes, at one block -/
def jStep (n : Nat) (M : MS) (X : XS) (v b : Nat) : XS := if b = 0 then X else jNo n M (jKn M X v b) v b
def jFold (n : Nat) (M : MS) (v : Nat) (X : XS) (c : Nat) : Nat → XS
  | 0 => X
  | k + 1 => jStep n M (jFold n M v X c k) v (c + k)
def judge (n : Nat) (M : MS) (X : XS) (v c : Nat) : XS := jFold n M v X c (mT M - c)
theorem jFold_succ {n : Nat} {M : MS} {v : Nat} {X : XS} {c i : Nat} (h : c ≤ i) : jFold n M v X c (i + 1 - c) = jStep n M (jFold n M v X c (i - c)) v i := by
  rw [show i + 1 - c = (i - c) + 1 by omega]
  show jStep n M _ v (c + (i - c)) = _
  rw [show c + (i - c) = i by omega]
def mHaveP (M : MS) (v b : Nat) : MS := if mFc M v (mEp M b) = 0 then sFc (sWy (sHs M (up2 (mHs M) (11 * b) v true)) (up2 (mWy M) (11 * b) v false)) (up2 (mFc M) v (mEp M b) b) else sWy (sHs M (up2 (mHs M) (11 * b) v true)) (up2 (mWy M) (11 * b) v false)
def mHaveV (M : MS) (v x b : Nat) : MS := sWy (sHs M (up2 (mHs M) (11 * b + 1 + x) v true)) (up2 (mWy M) (11 * b + 1 + x) v false)
def cHaveP (n : Nat) (u : CS) (v b : Nat) : CS := (mHaveP u.1 v b, judge n (mHaveP u.1 v b) u.2 v b)
def cHaveV (n : Nat) (u : CS) (v x b : Nat) : CS := (mHaveV u.1 v x b, judge n (mHaveV u.1 v x b) u.2 v b)
/-- a letter l is under way to one node more, v -/
def newL (M : MS) (l v : Nat) : Bool := !(mHs M l v || mWy M l v)
def mExp (M : MS) (l v : Nat) : MS := if newL M l v then sWy M (up2 (mWy M) l v true) else M
/-- for which block a node votes as it looks; 0: none -/
def cChoice (M : MS) (X : XS) (v p : Nat) : Nat := if decide (mFc M v p ≠ 0) && (decide (mVf M v p = 0) && (xKn X v (mFc M v p) && (xNo X v (mPar M (mFc M v p)) && decide (mHt M (mPar M (mFc M v p)) = mHt M (xTp X v))))) then mFc M v p else 0
/-! ranges that stay -/
theorem ok_X {G : kG} {u : CS} (hk : okC G u) {X : XS} (h1 : ∀ v, xTp X v < mT u.1) (h2 : ∀ v, xHf X v < mT u.1) : okC G (u.1, X) := by
  obtain ⟨a1, a2, a3, a4, a5, a6, a7, a8, a9, a10, a11, -, -⟩ := hk
  exact ⟨a1, a2, a3, a4, a5, a6, a7, a8, a9, a10, a11, h1, h2⟩
theorem jKn_tp (M : MS) (X : XS) (v b : Nat) : xTp (jKn M X v b) = xTp X := by unfold jKn; split <;> rfl
theorem jKn_hf (M : MS) (X : XS) (v b : Nat) : xHf (jKn M X v b) = xHf X := by unfold jKn; split <;> rfl
theorem cTip_tp {K : Nat} {M : MS} {X : XS} {v b : Nat} (hb : b < K) (h : ∀ v, xTp X v < K) : ∀ w, xTp (cTip M X v b) w < K := by
  intro w
  unfold cTip
  split
  · show va_up (xTp X) v b w < K
    unfold va_up; split
    · exact hb
    · exact h w
  · exact h w
theorem cTip_hf (M : MS) (X : XS) (v b : Nat) : xHf (cTip M X v b) = xHf X := by unfold cTip; split <;> rfl
theorem cFin_tp (M : MS) (X : XS) (v c p : Nat) : xTp (cFin M X v c p) = xTp X := by unfold cFin; split <;> first | rfl | (split <;> rfl)
theorem cFin_hf {K : Nat} {M : MS} {X : XS} {v c p : Nat} (hp : p < K) (h : ∀ v, xHf X v < K) : ∀ w, xHf (cFin M X v c p) w < K := by
  intro w
  unfold cFin
  split
  · split
    · show va_up (xHf X) v p w < K
      unfold va_up; split
      · exact hp
      · exact h w
    · exact h w
  · exact h w
theorem jStep_le {K n : Nat} {M : MS} {X : XS} {v b : Nat} (hb : b < K) (hp : b ≠ 0 → mPar M b < K) (h1 : ∀ v, xTp X v < K) (h2 : ∀ v, xHf X v < K) : (∀ w, xTp (jStep n M X v b) w < K) ∧ ∀ w, xHf (jStep n M X v b) w < K := by
  unfold jStep
  split
  · exact ⟨h1, h2⟩
  · rename_i hb0
    unfold jNo
    split
    · refine ⟨fun w => ?_, fun w => ?_⟩
      · rw [cFin_tp]
        exact cTip_tp hb (fun w => by show xTp (jKn M X v b) w < K; rw [jKn_tp]; exact h1 w) w
      · exact cFin_hf (hp hb0) (fun w => by rw [cTip_hf]; show xHf (jKn M X v b) w < K; rw [jKn_hf]; exact h2 w) w
    · exact ⟨fun w => by rw [jKn_tp]; exact h1 w, fun w => by rw [jKn_hf]; exact h2 w⟩
theorem jFold_le {K n : Nat} {M : MS} {X : XS} {v c k : Nat} (hc : c + k ≤ K) (hp : ∀ b, b ≠ 0 → b < K → mPar M b < K) (h1 : ∀ v, xTp X v < K) (h2 : ∀ v, xHf X v < K) : (∀ w, xTp (jFold n M v X c k) w < K) ∧ ∀ w, xHf (jFold n M v X c k) w < K := by
  induction k with
  | zero => exact ⟨h1, h2⟩
  | succ k ih =>
    have h := ih (by omega)
    exact jStep_le (by omega) (fun h0 => hp _ h0 (by omega)) h.1 h.2
theorem ok_Fc {G : kG} {u : CS} (hk : okC G u) {v e b : Nat} (hb : b < mT u.1) : okC G (sFc u.1 (up2 (mFc u.1) v e b), u.2) := by
  obtain ⟨a1, a2, a3, a4, a5, a6, a7, a8, a9, a10, a11, a12, a13⟩ := hk
  refine ⟨a1, a2, a3, a4, a5, a6, a7, a8, a9, fun v' e' => ?_, a11, a12, a13⟩
  show up2 (mFc u.1) v e b v' e' < mT u.1
  unfold up2; split
  · exact hb
  · exact a10 v' e'
theorem ok_Vf {G : kG} {u : CS} (hk : okC G u) {v e b : Nat} (hb : b ≤ 60) : okC G (sVf u.1 (up2 (mVf u.1) v e b), u.2) := by
  obtain ⟨a1, a2, a3, a4, a5, a6, a7, a8, a9, a10, a11, a12, a13⟩ := hk
  refine ⟨a1, a2, a3, a4, a5, a6, a7, a8, a9, a10, fun v' e' => ?_, a12, a13⟩
  show up2 (mVf u.1) v e b v' e' ≤ 60
  unfold up2; split
  · exact hb
  · exact a11 v' e'
theorem ok_haveP {G : kG} {u : CS} (hk : okC G u) {v b : Nat} (hb : b < mT u.1) : okC G (mHaveP u.1 v b, u.2) := by
  unfold mHaveP
  split
  · exact ok_Fc (u := (sWy (sHs u.1 (up2 (mHs u.1) (11 * b) v true)) (up2 (mWy u.1) (11 * b) v false), u.2)) hk hb
  · exact hk
theorem ok_judge {G : kG} {u : CS} (hk : okC G u) {v c : Nat} (hc : c ≤ mT u.1) : okC G (u.1, judge (gn G) u.1 u.2 v c) := by
  have h := hk
  obtain ⟨a1, a2, a3, a4, a5, a6, a7, a8, a9, a10, a11, a12, a13⟩ := hk
  have hj := jFold_le (K := mT u.1) (n := gn G) (M := u.1) (X := u.2) (v := v) (c := c) (k := mT u.1 - c) (by omega) (fun b h0 hb => by have := a7 b (Nat.pos_of_ne_zero h0); omega) a12 a13
  exact ok_X h hj.1 hj.2
/-- Integer.bitCount, Long.bitCount -/
def bc1 (x : Int32) : Int32 := x - ((x.toUInt32 >>> ((nI 1).toUInt32 &&& Int32.toUInt32 31)).toInt32 &&& 1431655765)
def bc2 (x : Int32) : Int32 := (x &&& 858993459) + ((x.toUInt32 >>> ((nI 2).toUInt32 &&& Int32.toUInt32 31)).toInt32 &&& 858993459)
def bc3 (x : Int32) : Int32 := (x + (x.toUInt32 >>> ((nI 4).toUInt32 &&& Int32.toUInt32 31)).toInt32) &&& 252645135
def bc4 (x : Int32) : Int32 := x + (x.toUInt32 >>> ((nI 8).toUInt32 &&& Int32.toUInt32 31)).toInt32
def bc5 (x : Int32) : Int32 := x + (x.toUInt32 >>> ((nI 16).toUInt32 &&& Int32.toUInt32 31)).toInt32
def lc1 (x : Int64) : Int64 := x - ((x.toUInt64 >>> ((nI 1).toInt64.toUInt64 &&& Int64.toUInt64 63)).toInt64 &&& 6148914691236517205)
def lc2 (x : Int64) : Int64 := (x &&& 3689348814741910323) + ((x.toUInt64 >>> ((nI 2).toInt64.toUInt64 &&& Int64.toUInt64 63)).toInt64 &&& 3689348814741910323)
def lc3 (x : Int64) : Int64 := (x + (x.toUInt64 >>> ((nI 4).toInt64.toUInt64 &&& Int64.toUInt64 63)).toInt64) &&& 1085102592571150095
def lc4 (x : Int64) : Int64 := x + (x.toUInt64 >>> ((nI 8).toInt64.toUInt64 &&& Int64.toUInt64 63)).toInt64
def lc5 (x : Int64) : Int64 := x + (x.toUInt64 >>> ((nI 16).toInt64.toUInt64 &&& Int64.toUInt64 63)).toInt64
def lc6 (x : Int64) : Int64 := x + (x.toUInt64 >>> ((nI 32).toInt64.toUInt64 &&& Int64.toUInt64 63)).toInt64
theorem bc32_eq (x : Int32) : bc5 (bc4 (bc3 (bc2 (bc1 x)))) &&& nI 63 = nI (cnt (tI x) 32) := sorry
theorem bc64_eq (x : Int64) : (lc6 (lc5 (lc4 (lc3 (lc2 (lc1 x)))))).toInt32 &&& nI 127 = nI (cnt (tL x) 64) := sorry
