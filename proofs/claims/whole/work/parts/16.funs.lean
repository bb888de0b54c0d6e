/-! what the class's methods do, as functions of the state -/
def cnt (f : Nat → Bool) : Nat → Nat
  | 0 => 0
  | k + 1 => cnt f k + (if f k then 1 else 0)
/-- how many votes for a block a node has -/
def nVo (M : MS) (b v : Nat) : Nat := cnt (fun x => mHs M (11 * b + 1 + x) v) 10
theorem cnt_le (f : Nat → Bool) (k : Nat) : cnt f k ≤ k := by
  induction k with
  | zero => exact Nat.le_refl _
  | succ k ih => simp only [cnt]; split <;> omega
theorem cnt_congr {f g : Nat → Bool} {k : Nat} (h : ∀ j, j < k → f j = g j) : cnt f k = cnt g k := by
  induction k with
  | zero => rfl
  | succ k ih => simp only [cnt, h k (Nat.lt_succ_self k)]; rw [ih fun j hj => h j (Nat.lt_succ_of_lt hj)]
theorem cnt_ext {f : Nat → Bool} {a : Nat} (b : Nat) (h : ∀ j, a ≤ j → j < a + b → f j = false) : cnt f (a + b) = cnt f a := by
  induction b with
  | zero => rfl
  | succ b ih =>
    show cnt f (a + b) + (if f (a + b) then 1 else 0) = _
    rw [h (a + b) (by omega) (by omega), ih fun j h1 h2 => h j h1 (by omega)]
    rfl
def mMake (M : MS) (o e : Nat) (w : Int32) (v : Nat) : MS := sMk (sHt (sLo (sEp (sPar (sT M (mT M + 1)) (va_up (mPar M) (mT M) o)) (va_up (mEp M) (mT M) e)) (va_up (mLo M) (mT M) w)) (va_up (mHt M) (mT M) (mHt M o + 1))) (va_up (mMk M) (mT M) v)
def xMake (M : MS) (X : XS) (o : Nat) (w : Int32) : XS := tCl (tCh X (va_up (xCh X) (mT M) (va_up (xCh X o) (mT M) true))) (va_up (xCl X) (mT M) (xCl X o ||| w))
def cMake (u : CS) (o e : Nat) (w : Int32) (v : Nat) : CS := (mMake u.1 o e w v, xMake u.1 u.2 o w)
/-- is b a better tip than t -/
def better (M : MS) (t b : Nat) : Bool := decide (mHt M t < mHt M b) || (decide (mHt M t = mHt M b) && (decide (mEp M t < mEp M b) || (decide (mEp M t = mEp M b) && decide (b < t))))
theorem better_iff (M : MS) (t b : Nat) : better M t b = true ↔ mHt M t < mHt M b ∨ (mHt M t = mHt M b ∧ (mEp M t < mEp M b ∨ (mEp M t = mEp M b ∧ b < t))) := by
  simp only [better, Bool.or_eq_true, Bool.and_eq_true, decide_eq_true_eq]
def cTip (M : MS) (X : XS) (v b : Nat) : XS := if better M (xTp X v) b then tTp X (va_up (xTp X) v b) else X
def betterF (M : MS) (h p : Nat) : Bool := decide (mHt M h < mHt M p) || (decide (mHt M h = mHt M p) && decide (p < h))
theorem betterF_iff (M : MS) (t b : Nat) : betterF M t b = true ↔ mHt M t < mHt M b ∨ (mHt M t = mHt M b ∧ b < t) := by
  simp only [betterF, Bool.or_eq_true, Bool.and_eq_true, decide_eq_true_eq]
def isThree (M : MS) (c p : Nat) : Bool := decide (p ≠ 0) && (decide (mEp M p = mEp M (mPar M p) + 1) && decide (mEp M c = mEp M p + 1))
theorem isThree_iff (M : MS) (c p : Nat) : isThree M c p = true ↔ p ≠ 0 ∧ mEp M p = mEp M (mPar M p) + 1 ∧ mEp M c = mEp M p + 1 := by
  simp only [isThree, Bool.and_eq_true, decide_eq_true_eq]
def cFin1 (X : XS) (v p : Nat) : XS := tFi X (va_up (xFi X) v (fun k => xFi X v k || xCh X p k))
def cFin (M : MS) (X : XS) (v c p : Nat) : XS := if isThree M c p then (if betterF M (xHf X v) p then tHf (cFin1 X v p) (va_up (xHf X) v p) else cFin1 X v p) else X
def jKn (M : MS) (X : XS) (v b : Nat) : XS := if mHs M (11 * b) v && xKn X v (mPar M b) then tKn X (up2 (xKn X) v b true) else X
def jNo (n : Nat) (M : MS) (X : XS) (v b : Nat) : XS := if decide (2 * n ≤ 3 * nVo M b v) && (!(xNo X v b) && (xKn X v b && xNo X v (mPar M b))) then cFin M (cTip M (tNo X (up2 (xNo X) v b true)) v b) v b (mPar M b) else X
/-- what a letter of a node changes, at one block -/
def jStep (n : Nat) (M : MS) (X : XS) (v b : Nat) : XS := if b = 0 then X else jNo n M (jKn M X v b) v b
def jFold (n : Nat) (M : MS) (v : Nat) (X : XS) (c : Nat) : Nat → XS
  | 0 => X
  | k + 1 => jStep n M (jFold n M v X c k) v (c + k)
def judge (n : Nat) (M : MS) (X : XS) (v c : Nat) : XS := jFold n M v X c (mT M - c)
theorem jFold_succ {n : Nat} {M : MS} {v : Nat} {X : XS} {c i : Nat} (h : c ≤ i) : jFold n M v X c (i + 1 - c) = jStep n M (jFold n M v X c (i - c)) v i := by
  rw [show i + 1 - c = (i - c) + 1 by omega]
  show jStep n M _ v (c + (i - c)) = _
  rw [show c + (i - c) = i by omega]
def mHaveP (M : MS) (v b : Nat) : MS := if mFc M v (mEp M b) = 0 then sFc (sWy (sHs M (up2 (mHs M) (11 * b) v true)) (up2 (mWy M) (11 * b) v false)) (up2 (mFc M) v (mEp M b) b) else sWy (sHs M (up2 (mHs M) (11 * b) v true)) (up2 (mWy M) (11 * b) v false)
def mHaveV (M : MS) (v x b : Nat) : MS := sWy (sHs M (up2 (mHs M) (11 * b + 1 + x) v true)) (up2 (mWy M) (11 * b + 1 + x) v false)
def cHaveP (n : Nat) (u : CS) (v b : Nat) : CS := (mHaveP u.1 v b, judge n (mHaveP u.1 v b) u.2 v b)
def cHaveV (n : Nat) (u : CS) (v x b : Nat) : CS := (mHaveV u.1 v x b, judge n (mHaveV u.1 v x b) u.2 v b)
/-- a letter l is under way to one node more, v -/
def newL (M : MS) (l v : Nat) : Bool := !(mHs M l v || mWy M l v)
def mExp (M : MS) (l v : Nat) : MS := if newL M l v then sWy M (up2 (mWy M) l v true) else M
/-- for which block a node votes as it looks; 0: none -/
def cChoice (M : MS) (X : XS) (v p : Nat) : Nat := if decide (mFc M v p ≠ 0) && (decide (mVf M v p = 0) && (xKn X v (mFc M v p) && (xNo X v (mPar M (mFc M v p)) && decide (mHt M (mPar M (mFc M v p)) = mHt M (xTp X v))))) then mFc M v p else 0
/-! ranges that stay -/
theorem ok_X {G : kG} {u : CS} (hk : okC G u) {X : XS} (h1 : ∀ v, xTp X v < mT u.1) (h2 : ∀ v, xHf X v < mT u.1) : okC G (u.1, X) := by
  obtain ⟨a1, a2, a3, a4, a5, a6, a7, a8, a9, a10, a11, -, -⟩ := hk
  exact ⟨a1, a2, a3, a4, a5, a6, a7, a8, a9, a10, a11, h1, h2⟩
theorem jKn_tp (M : MS) (X : XS) (v b : Nat) : xTp (jKn M X v b) = xTp X := by unfold jKn; split <;> rfl
theorem jKn_hf (M : MS) (X : XS) (v b : Nat) : xHf (jKn M X v b) = xHf X := by unfold jKn; split <;> rfl
theorem cTip_tp {K : Nat} {M : MS} {X : XS} {v b : Nat} (hb : b < K) (h : ∀ v, xTp X v < K) : ∀ w, xTp (cTip M X v b) w < K := by
  intro w
  unfold cTip
  split
  · show va_up (xTp X) v b w < K
    unfold va_up; split
    · exact hb
    · exact h w
  · exact h w
theorem cTip_hf (M : MS) (X : XS) (v b : Nat) : xHf (cTip M X v b) = xHf X := by unfold cTip; split <;> rfl
theorem cFin_tp (M : MS) (X : XS) (v c p : Nat) : xTp (cFin M X v c p) = xTp X := by unfold cFin; split <;> first | rfl | (split <;> rfl)
theorem cFin_hf {K : Nat} {M : MS} {X : XS} {v c p : Nat} (hp : p < K) (h : ∀ v, xHf X v < K) : ∀ w, xHf (cFin M X v c p) w < K := by
  intro w
  unfold cFin
  split
  · split
    · show va_up (xHf X) v p w < K
      unfold va_up; split
      · exact hp
      · exact h w
    · exact h w
  · exact h w
theorem jStep_le {K n : Nat} {M : MS} {X : XS} {v b : Nat} (hb : b < K) (hp : b ≠ 0 → mPar M b < K) (h1 : ∀ v, xTp X v < K) (h2 : ∀ v, xHf X v < K) : (∀ w, xTp (jStep n M X v b) w < K) ∧ ∀ w, xHf (jStep n M X v b) w < K := by
  unfold jStep
  split
  · exact ⟨h1, h2⟩
  · rename_i hb0
    unfold jNo
    split
    · refine ⟨fun w => ?_, fun w => ?_⟩
      · rw [cFin_tp]
        exact cTip_tp hb (fun w => by show xTp (jKn M X v b) w < K; rw [jKn_tp]; exact h1 w) w
      · exact cFin_hf (hp hb0) (fun w => by rw [cTip_hf]; show xHf (jKn M X v b) w < K; rw [jKn_hf]; exact h2 w) w
    · exact ⟨fun w => by rw [jKn_tp]; exact h1 w, fun w => by rw [jKn_hf]; exact h2 w⟩
theorem jFold_le {K n : Nat} {M : MS} {X : XS} {v c k : Nat} (hc : c + k ≤ K) (hp : ∀ b, b ≠ 0 → b < K → mPar M b < K) (h1 : ∀ v, xTp X v < K) (h2 : ∀ v, xHf X v < K) : (∀ w, xTp (jFold n M v X c k) w < K) ∧ ∀ w, xHf (jFold n M v X c k) w < K := by
  induction k with
  | zero => exact ⟨h1, h2⟩
  | succ k ih =>
    have h := ih (by omega)
    exact jStep_le (by omega) (fun h0 => hp _ h0 (by omega)) h.1 h.2
theorem ok_Fc {G : kG} {u : CS} (hk : okC G u) {v e b : Nat} (hb : b < mT u.1) : okC G (sFc u.1 (up2 (mFc u.1) v e b), u.2) := by
  obtain ⟨a1, a2, a3, a4, a5, a6, a7, a8, a9, a10, a11, a12, a13⟩ := hk
  refine ⟨a1, a2, a3, a4, a5, a6, a7, a8, a9, fun v' e' => ?_, a11, a12, a13⟩
  show up2 (mFc u.1) v e b v' e' < mT u.1
  unfold up2; split
  · exact hb
  · exact a10 v' e'
theorem ok_Vf {G : kG} {u : CS} (hk : okC G u) {v e b : Nat} (hb : b ≤ 60) : okC G (sVf u.1 (up2 (mVf u.1) v e b), u.2) := by
  obtain ⟨a1, a2, a3, a4, a5, a6, a7, a8, a9, a10, a11, a12, a13⟩ := hk
  refine ⟨a1, a2, a3, a4, a5, a6, a7, a8, a9, a10, fun v' e' => ?_, a12, a13⟩
  show up2 (mVf u.1) v e b v' e' ≤ 60
  unfold up2; split
  · exact hb
  · exact a11 v' e'
theorem ok_haveP {G : kG} {u : CS} (hk : okC G u) {v b : Nat} (hb : b < mT u.1) : okC G (mHaveP u.1 v b, u.2) := by
  unfold mHaveP
  split
  · exact ok_Fc (u := (sWy (sHs u.1 (up2 (mHs u.1) (11 * b) v true)) (up2 (mWy u.1) (11 * b) v false), u.2)) hk hb
  · exact hk
theorem ok_judge {G : kG} {u : CS} (hk : okC G u) {v c : Nat} (hc : c ≤ mT u.1) : okC G (u.1, judge (gn G) u.1 u.2 v c) := by
  have h := hk
  obtain ⟨a1, a2, a3, a4, a5, a6, a7, a8, a9, a10, a11, a12, a13⟩ := hk
  have hj := jFold_le (K := mT u.1) (n := gn G) (M := u.1) (X := u.2) (v := v) (c := c) (k := mT u.1 - c) (by omega) (fun b h0 hb => by have := a7 b (Nat.pos_of_ne_zero h0); omega) a12 a13
  exact ok_X h hj.1 hj.2
/-- Integer.bitCount, Long.bitCount -/
def bc1 (x : Int32) : Int32 := x - ((x.toUInt32 >>> ((nI 1).toUInt32 &&& Int32.toUInt32 31)).toInt32 &&& 1431655765)
def bc2 (x : Int32) : Int32 := (x &&& 858993459) + ((x.toUInt32 >>> ((nI 2).toUInt32 &&& Int32.toUInt32 31)).toInt32 &&& 858993459)
def bc3 (x : Int32) : Int32 := (x + (x.toUInt32 >>> ((nI 4).toUInt32 &&& Int32.toUInt32 31)).toInt32) &&& 252645135
def bc4 (x : Int32) : Int32 := x + (x.toUInt32 >>> ((nI 8).toUInt32 &&& Int32.toUInt32 31)).toInt32
def bc5 (x : Int32) : Int32 := x + (x.toUInt32 >>> ((nI 16).toUInt32 &&& Int32.toUInt32 31)).toInt32
def lc1 (x : Int64) : Int64 := x - ((x.toUInt64 >>> ((nI 1).toInt64.toUInt64 &&& Int64.toUInt64 63)).toInt64 &&& 6148914691236517205)
def lc2 (x : Int64) : Int64 := (x &&& 3689348814741910323) + ((x.toUInt64 >>> ((nI 2).toInt64.toUInt64 &&& Int64.toUInt64 63)).toInt64 &&& 3689348814741910323)
def lc3 (x : Int64) : Int64 := (x + (x.toUInt64 >>> ((nI 4).toInt64.toUInt64 &&& Int64.toUInt64 63)).toInt64) &&& 1085102592571150095
def lc4 (x : Int64) : Int64 := x + (x.toUInt64 >>> ((nI 8).toInt64.toUInt64 &&& Int64.toUInt64 63)).toInt64
def lc5 (x : Int64) : Int64 := x + (x.toUInt64 >>> ((nI 16).toInt64.toUInt64 &&& Int64.toUInt64 63)).toInt64
def lc6 (x : Int64) : Int64 := x + (x.toUInt64 >>> ((nI 32).toInt64.toUInt64 &&& Int64.toUInt64 63)).toInt64
/-! how bits are counted in words -/
theorem and_split (A B : Nat) : A &&& B = ((A % 256) &&& (B % 256)) + 256 * ((A / 256) &&& (B / 256)) := by
  have h1 : (A &&& B) % 2 ^ 8 = (A % 2 ^ 8) &&& (B % 2 ^ 8) := Nat.and_mod_two_pow
  have h2 : (A &&& B) / 2 ^ 8 = (A / 2 ^ 8) &&& (B / 2 ^ 8) := Nat.and_div_two_pow
  have e : (2 : Nat) ^ 8 = 256 := by decide
  rw [e] at h1 h2
  rw [← h1, ← h2]
  omega
/-- bytes: the lowest first -/
def byN : List Nat → Nat
  | [] => 0
  | a :: t => a + 256 * byN t
def swM (c : Nat) : Nat → Nat
  | 0 => 0
  | k + 1 => c + 256 * swM c k
def okB (t : List Nat) : Prop := ∀ a ∈ t, a < 256
theorem okB_c {a : Nat} {t : List Nat} (h : okB (a :: t)) : a < 256 ∧ okB t := ⟨h a List.mem_cons_self, fun b hb => h b (List.mem_cons_of_mem _ hb)⟩
def swA (a : Nat) : Nat := a - ((a / 2) &&& 85)
def swB (a : Nat) : Nat := (a &&& 51) + ((a / 4) &&& 51)
def swC (a : Nat) : Nat := (a + a / 16) &&& 15
theorem b1a : ∀ a, a < 256 → ∀ t, t < 2 → (a / 2 + 128 * t) &&& 85 = (a / 2) &&& 85 ∧ (a / 2) &&& 85 ≤ a ∧ swA a < 256 := by decide +kernel
theorem b2a : ∀ a, a < 256 → ∀ t, t < 4 → (a / 4 + 64 * t) &&& 51 = (a / 4) &&& 51 := by decide +kernel
theorem b2b : ∀ a, a < 256 → swB (swA a) < 256 ∧ swB (swA a) % 16 ≤ 4 ∧ swB (swA a) / 16 ≤ 4 := by decide +kernel
theorem b3a : ∀ a, a < 256 → ∀ t, t < 5 → (swB (swA a) + swB (swA a) / 16 + 16 * t) &&& 15 = swC (swB (swA a)) := by decide +kernel
theorem b3b : ∀ a, a < 256 → swC (swB (swA a)) = cnt (fun j => a.testBit j) 8 := by decide +kernel
theorem st1 : ∀ t : List Nat, okB t → ((byN t / 2) &&& swM 85 t.length) ≤ byN t ∧ byN t - ((byN t / 2) &&& swM 85 t.length) = byN (t.map swA) := by
  intro t
  induction t with
  | nil => intro _; exact ⟨Nat.le_refl _, rfl⟩
  | cons a t ih =>
    intro h
    obtain ⟨ha, ht⟩ := okB_c h
    obtain ⟨i1, i2⟩ := ih ht
    have e : (byN (a :: t) / 2) &&& swM 85 (a :: t).length = ((a / 2) &&& 85) + 256 * ((byN t / 2) &&& swM 85 t.length) := by
      show ((a + 256 * byN t) / 2) &&& (85 + 256 * swM 85 t.length) = _
      rw [and_split, show (a + 256 * byN t) / 2 % 256 = a / 2 + 128 * (byN t % 2) by omega, show (a + 256 * byN t) / 2 / 256 = byN t / 2 by omega, show (85 + 256 * swM 85 t.length) % 256 = 85 by omega, show (85 + 256 * swM 85 t.length) / 256 = swM 85 t.length by omega]
      rw [(b1a a ha (byN t % 2) (by omega)).1]
    have hle := (b1a a ha 0 (by decide)).2.1
    rw [e]
    refine ⟨?_, ?_⟩
    · show _ ≤ a + 256 * byN t
      omega
    · show a + 256 * byN t - _ = swA a + 256 * byN (t.map swA)
      rw [← i2]
      unfold swA
      omega
theorem st2 : ∀ t : List Nat, okB t → (byN t &&& swM 51 t.length) + ((byN t / 4) &&& swM 51 t.length) = byN (t.map swB) := by
  intro t
  induction t with
  | nil => intro _; rfl
  | cons a t ih =>
    intro h
    obtain ⟨ha, ht⟩ := okB_c h
    have i2 := ih ht
    have e1 : byN (a :: t) &&& swM 51 (a :: t).length = (a &&& 51) + 256 * (byN t &&& swM 51 t.length) := by
      show (a + 256 * byN t) &&& (51 + 256 * swM 51 t.length) = _
      rw [and_split, show (a + 256 * byN t) % 256 = a by omega, show (a + 256 * byN t) / 256 = byN t by omega, show (51 + 256 * swM 51 t.length) % 256 = 51 by omega, show (51 + 256 * swM 51 t.length) / 256 = swM 51 t.length by omega]
    have e2 : (byN (a :: t) / 4) &&& swM 51 (a :: t).length = ((a / 4) &&& 51) + 256 * ((byN t / 4) &&& swM 51 t.length) := by
      show ((a + 256 * byN t) / 4) &&& (51 + 256 * swM 51 t.length) = _
      rw [and_split, show (a + 256 * byN t) / 4 % 256 = a / 4 + 64 * (byN t % 4) by omega, show (a + 256 * byN t) / 4 / 256 = byN t / 4 by omega, show (51 + 256 * swM 51 t.length) % 256 = 51 by omega, show (51 + 256 * swM 51 t.length) / 256 = swM 51 t.length by omega]
      rw [b2a a ha (byN t % 4) (by omega)]
    rw [e1, e2]
    show _ = swB a + 256 * byN (t.map swB)
    rw [← i2]
    unfold swB
    omega
theorem st3 : ∀ t : List Nat, okB t → byN (t.map fun a => swB (swA a)) % 16 ≤ 4 ∧ (byN (t.map fun a => swB (swA a)) + byN (t.map fun a => swB (swA a)) / 16) &&& swM 15 t.length = byN (t.map fun a => swC (swB (swA a))) := by
  intro t
  induction t with
  | nil => intro _; exact ⟨by decide, rfl⟩
  | cons a t ih =>
    intro h
    obtain ⟨ha, ht⟩ := okB_c h
    obtain ⟨i1, i2⟩ := ih ht
    obtain ⟨c1, c2, c3⟩ := b2b a ha
    generalize hy : byN (t.map fun a => swB (swA a)) = y at i1 i2
    have ey : byN ((a :: t).map fun a => swB (swA a)) = swB (swA a) + 256 * y := by rw [← hy]; rfl
    have hb := b3a a ha (y % 16) (by omega)
    have eg : byN ((a :: t).map fun a => swC (swB (swA a))) = swC (swB (swA a)) + 256 * byN (t.map fun a => swC (swB (swA a))) := rfl
    generalize swB (swA a) = q at *
    rw [ey]
    refine ⟨by omega, ?_⟩
    rw [eg]
    show _ &&& (15 + 256 * swM 15 t.length) = _
    rw [and_split, show (q + 256 * y + (q + 256 * y) / 16) % 256 = q + q / 16 + 16 * (y % 16) by omega, show (q + 256 * y + (q + 256 * y) / 16) / 256 = y + y / 16 by omega, show (15 + 256 * swM 15 t.length) % 256 = 15 by omega, show (15 + 256 * swM 15 t.length) / 256 = swM 15 t.length by omega, hb, i2]

theorem cnt_ad (f : Nat → Bool) (a b : Nat) : cnt f (a + b) = cnt f a + cnt (fun j => f (a + j)) b := by
  induction b with
  | zero => rfl
  | succ b ih => rw [show a + (b + 1) = (a + b) + 1 by omega, cnt, cnt, ih]; omega
theorem by8 (X i : Nat) : cnt (fun j => X.testBit (8 * i + j)) 8 = cnt (fun j => (X / 2 ^ (8 * i) % 256).testBit j) 8 := cnt_congr fun j hj => by
  have e : (256 : Nat) = 2 ^ 8 := by decide
  rw [e, Nat.testBit_mod_two_pow, Nat.testBit_div_two_pow, decide_eq_true hj, Bool.true_and, Nat.add_comm]
theorem pc_le (a : Nat) : cnt (fun j => a.testBit j) 8 ≤ 8 := cnt_le _ _
def nB (x : Int32) : Nat := x.toBitVec.toNat
def nW (x : Int64) : Nat := x.toBitVec.toNat
theorem nB_lt (x : Int32) : nB x < 4294967296 := x.toBitVec.isLt
theorem nW_lt (x : Int64) : nW x < 18446744073709551616 := x.toBitVec.isLt
theorem nB_inj {x y : Int32} (h : nB x = nB y) : x = y := Int32.toBitVec_inj.mp (BitVec.eq_of_toNat_eq h)
theorem nB_sub {x y : Int32} (h : nB y ≤ nB x) : nB (x - y) = nB x - nB y := by
  have h1 := nB_lt x
  have h2 := nB_lt y
  unfold nB at *
  rw [Int32.toBitVec_sub, BitVec.toNat_sub]
  omega
theorem nW_sub {x y : Int64} (h : nW y ≤ nW x) : nW (x - y) = nW x - nW y := by
  have h1 := nW_lt x
  have h2 := nW_lt y
  unfold nW at *
  rw [Int64.toBitVec_sub, BitVec.toNat_sub]
  omega
theorem nB_add {x y : Int32} (h : nB x + nB y < 4294967296) : nB (x + y) = nB x + nB y := by
  unfold nB at *
  rw [Int32.toBitVec_add, BitVec.toNat_add]
  omega
theorem nW_add {x y : Int64} (h : nW x + nW y < 18446744073709551616) : nW (x + y) = nW x + nW y := by
  unfold nW at *
  rw [Int64.toBitVec_add, BitVec.toNat_add]
  omega
theorem nB_and (x y : Int32) : nB (x &&& y) = nB x &&& nB y := by
  unfold nB
  rw [Int32.toBitVec_and, BitVec.toNat_and]
theorem nW_and (x y : Int64) : nW (x &&& y) = nW x &&& nW y := by
  unfold nW
  rw [Int64.toBitVec_and, BitVec.toNat_and]
theorem shI : ∀ l, l < 32 → ((nI l).toUInt32 &&& Int32.toUInt32 31) = UInt32.ofNat l := by decide +kernel
theorem nB_shr (x : Int32) {k : Nat} (hk : k < 32) : nB ((x.toUInt32 >>> ((nI k).toUInt32 &&& Int32.toUInt32 31)).toInt32) = nB x / 2 ^ k := by
  rw [shI k hk]
  show ((x.toUInt32 >>> UInt32.ofNat k).toBitVec).toNat = _
  have h3 : ((UInt32.ofNat k).toBitVec % (32 : BitVec 32)).toNat = k := by
    rw [BitVec.toNat_umod]
    show (UInt32.ofNat k).toNat % 32 = k
    rw [UInt32.toNat_ofNat']
    omega
  simp only [UInt32.toBitVec_shiftRight, BitVec.ushiftRight_eq', BitVec.toNat_ushiftRight, h3, Nat.shiftRight_eq_div_pow]
  rfl
theorem nW_shr (x : Int64) {k : Nat} (hk : k < 64) : nW ((x.toUInt64 >>> ((nI k).toInt64.toUInt64 &&& Int64.toUInt64 63)).toInt64) = nW x / 2 ^ k := by
  rw [sr_L k hk]
  show ((x.toUInt64 >>> UInt64.ofNat k).toBitVec).toNat = _
  have h3 : ((UInt64.ofNat k).toBitVec % (64 : BitVec 64)).toNat = k := by
    rw [BitVec.toNat_umod]
    show (UInt64.ofNat k).toNat % 64 = k
    rw [UInt64.toNat_ofNat']
    omega
  simp only [UInt64.toBitVec_shiftRight, BitVec.ushiftRight_eq', BitVec.toNat_ushiftRight, h3, Nat.shiftRight_eq_div_pow]
  rfl
theorem nB_nI {k : Nat} (h : k < 4294967296) : nB (nI k) = k := by
  show (Int32.ofNat k).toBitVec.toNat = k
  rw [Int32.toBitVec_ofNat', BitVec.toNat_ofNat]
  omega
theorem okB_map {t : List Nat} {f : Nat → Nat} (h : okB t) (hf : ∀ a, a < 256 → f a < 256) : okB (t.map f) := by
  intro b hb
  obtain ⟨a, ha, rfl⟩ := List.mem_map.mp hb
  exact hf a (h a ha)
theorem fold4 {r0 r1 r2 r3 Z Z1 Z2 : Nat} (h0 : r0 ≤ 8) (h1 : r1 ≤ 8) (h2 : r2 ≤ 8) (h3 : r3 ≤ 8) (hZ : Z = r0 + 256 * (r1 + 256 * (r2 + 256 * r3))) (hZ1 : Z1 = Z + Z / 256) (hZ2 : Z2 = Z1 + Z1 / 65536) : Z2 % 64 = r0 + r1 + r2 + r3 := by
  have e1 : Z / 256 = r1 + 256 * (r2 + 256 * r3) := by omega
  have e2 : Z1 = (r0 + r1) + 256 * (r1 + r2) + 65536 * ((r2 + r3) + 256 * r3) := by rw [hZ1, e1, hZ]; omega
  have e3 : Z1 / 65536 = (r2 + r3) + 256 * r3 := by
    clear hZ hZ1 hZ2 e1
    omega
  rw [e3] at hZ2
  clear e3 hZ hZ1 e1
  omega
theorem bc32_eq (x : Int32) : bc5 (bc4 (bc3 (bc2 (bc1 x)))) &&& nI 63 = nI (cnt (tI x) 32) := by
  obtain ⟨X, hX⟩ : ∃ X, nB x = X := ⟨_, rfl⟩
  have hlt := nB_lt x
  rw [hX] at hlt
  obtain ⟨t, ht⟩ : ∃ t, t = [X % 256, X / 256 % 256, X / 65536 % 256, X / 16777216] := ⟨_, rfl⟩
  have hok : okB t := by
    intro a ha
    rw [ht] at ha
    simp only [List.mem_cons, List.not_mem_nil, or_false] at ha
    omega
  have hby : byN t = X := by
    rw [ht]
    simp only [byN]
    omega
  have hlen : t.length = 4 := by rw [ht]; rfl
  have p1 := st1 t hok
  rw [hby, hlen, show swM 85 4 = 1431655765 from rfl] at p1
  have q1 : nB (bc1 x) = byN (t.map swA) := by
    unfold bc1
    have e : nB ((x.toUInt32 >>> ((nI 1).toUInt32 &&& Int32.toUInt32 31)).toInt32 &&& 1431655765) = (X / 2) &&& 1431655765 := by
      rw [nB_and, nB_shr x (by decide), hX]; rfl
    rw [nB_sub (by rw [e, hX]; exact p1.1), e, hX]; exact p1.2
  have hok1 : okB (t.map swA) := okB_map hok fun a ha => (b1a a ha 0 (by decide)).2.2
  have p2 := st2 (t.map swA) hok1
  rw [List.length_map, hlen, show swM 51 4 = 858993459 from rfl, List.map_map] at p2
  obtain ⟨p3a, p3⟩ := st3 t hok
  rw [hlen, show swM 15 4 = 252645135 from rfl] at p3
  have e0 := b2b _ (hok (X % 256) (by rw [ht]; simp))
  have e1 := b2b _ (hok (X / 256 % 256) (by rw [ht]; simp))
  have e2 := b2b _ (hok (X / 65536 % 256) (by rw [ht]; simp))
  have e3 := b2b _ (hok (X / 16777216) (by rw [ht]; simp))
  have hq : byN (t.map fun a => swB (swA a)) ≤ 1145324612 := by
    rw [ht]
    simp only [List.map_cons, List.map_nil, byN]
    omega
  have q2 : nB (bc2 (bc1 x)) = byN (t.map fun a => swB (swA a)) := by
    unfold bc2
    have a1 : nB (bc1 x &&& 858993459) = byN (t.map swA) &&& 858993459 := by rw [nB_and, q1]; rfl
    have a2 : nB (((bc1 x).toUInt32 >>> ((nI 2).toUInt32 &&& Int32.toUInt32 31)).toInt32 &&& 858993459) = (byN (t.map swA) / 4) &&& 858993459 := by rw [nB_and, nB_shr _ (by decide), q1]; rfl
    have a3 : byN (t.map (swB ∘ swA)) = byN (t.map fun a => swB (swA a)) := rfl
    rw [nB_add (by rw [a1, a2, p2, a3]; omega), a1, a2, p2, a3]
  have q3 : nB (bc3 (bc2 (bc1 x))) = byN (t.map fun a => swC (swB (swA a))) := by
    unfold bc3
    have a2 : nB (((bc2 (bc1 x)).toUInt32 >>> ((nI 4).toUInt32 &&& Int32.toUInt32 31)).toInt32) = byN (t.map fun a => swB (swA a)) / 16 := by rw [nB_shr _ (by decide), q2]
    rw [nB_and, nB_add (by rw [a2, q2]; omega), a2, q2]; exact p3
  have c0 := b3b _ (hok (X % 256) (by rw [ht]; simp))
  have c1 := b3b _ (hok (X / 256 % 256) (by rw [ht]; simp))
  have c2 := b3b _ (hok (X / 65536 % 256) (by rw [ht]; simp))
  have c3 := b3b _ (hok (X / 16777216) (by rw [ht]; simp))
  have hY : nB (bc3 (bc2 (bc1 x))) = cnt (fun j => (X % 256).testBit j) 8 + 256 * (cnt (fun j => (X / 256 % 256).testBit j) 8 + 256 * (cnt (fun j => (X / 65536 % 256).testBit j) 8 + 256 * cnt (fun j => (X / 16777216).testBit j) 8)) := by
    rw [q3, ht, ← c0, ← c1, ← c2, ← c3]; rfl
  have l0 := pc_le (X % 256)
  have l1 := pc_le (X / 256 % 256)
  have l2 := pc_le (X / 65536 % 256)
  have l3 := pc_le (X / 16777216)
  have hcnt : cnt (tI x) 32 = cnt (fun j => (X % 256).testBit j) 8 + cnt (fun j => (X / 256 % 256).testBit j) 8 + cnt (fun j => (X / 65536 % 256).testBit j) 8 + cnt (fun j => (X / 16777216).testBit j) 8 := by
    have et : tI x = fun j => X.testBit j := by
      funext j
      rw [← hX]; rfl
    have b0 := by8 X 0
    have b1 := by8 X 1
    have b2 := by8 X 2
    have b3 := by8 X 3
    rw [show (32 : Nat) = 8 + (8 + (8 + 8)) by decide, cnt_ad, cnt_ad, cnt_ad, et]
    have f0 : cnt (fun j => X.testBit j) 8 = cnt (fun j => X.testBit (8 * 0 + j)) 8 := cnt_congr fun j _ => by rw [Nat.mul_zero, Nat.zero_add]
    have f1 : cnt (fun j => X.testBit (8 + j)) 8 = cnt (fun j => X.testBit (8 * 1 + j)) 8 := rfl
    have f2 : cnt (fun j => X.testBit (8 + (8 + j))) 8 = cnt (fun j => X.testBit (8 * 2 + j)) 8 := cnt_congr fun j _ => by rw [show 8 + (8 + j) = 8 * 2 + j by omega]
    have f3 : cnt (fun j => X.testBit (8 + (8 + (8 + j)))) 8 = cnt (fun j => X.testBit (8 * 3 + j)) 8 := cnt_congr fun j _ => by rw [show 8 + (8 + (8 + j)) = 8 * 3 + j by omega]
    have g0 : X / 2 ^ (8 * 0) % 256 = X % 256 := by rw [show (2 : Nat) ^ (8 * 0) = 1 by decide, Nat.div_one]
    have g1 : X / 2 ^ (8 * 1) % 256 = X / 256 % 256 := by rw [show (2 : Nat) ^ (8 * 1) = 256 by decide]
    have g2 : X / 2 ^ (8 * 2) % 256 = X / 65536 % 256 := by rw [show (2 : Nat) ^ (8 * 2) = 65536 by decide]
    have g3 : X / 2 ^ (8 * 3) % 256 = X / 16777216 := by rw [show (2 : Nat) ^ (8 * 3) = 16777216 by decide]; omega
    rw [g0] at b0
    rw [g1] at b1
    rw [g2] at b2
    rw [g3] at b3
    show cnt (fun j => X.testBit j) 8 + (cnt (fun j => X.testBit (8 + j)) 8 + (cnt (fun j => X.testBit (8 + (8 + j))) 8 + cnt (fun j => X.testBit (8 + (8 + (8 + j)))) 8)) = _
    rw [f0, f1, f2, f3, b0, b1, b2, b3]
    omega
  rw [hcnt]
  generalize cnt (fun j => (X % 256).testBit j) 8 = r0 at *
  generalize cnt (fun j => (X / 256 % 256).testBit j) 8 = r1 at *
  generalize cnt (fun j => (X / 65536 % 256).testBit j) 8 = r2 at *
  generalize cnt (fun j => (X / 16777216).testBit j) 8 = r3 at *
  generalize bc3 (bc2 (bc1 x)) = z at *
  have a4 : nB ((z.toUInt32 >>> ((nI 8).toUInt32 &&& Int32.toUInt32 31)).toInt32) = nB z / 256 := by rw [nB_shr _ (by decide)]
  have q4 : nB (bc4 z) = nB z + nB z / 256 := by unfold bc4; rw [nB_add (by rw [a4]; omega), a4]
  have a5 : nB (((bc4 z).toUInt32 >>> ((nI 16).toUInt32 &&& Int32.toUInt32 31)).toInt32) = nB (bc4 z) / 65536 := by rw [nB_shr _ (by decide)]
  have q5 : nB (bc5 (bc4 z)) = nB (bc4 z) + nB (bc4 z) / 65536 := by unfold bc5; rw [nB_add (by rw [a5]; omega), a5]
  apply nB_inj
  have e6 : nB (bc5 (bc4 z)) &&& (2 ^ 6 - 1) = nB (bc5 (bc4 z)) % 2 ^ 6 := Nat.and_two_pow_sub_one_eq_mod _ _
  rw [nB_and, nB_nI (by decide), nB_nI (by omega), show (63 : Nat) = 2 ^ 6 - 1 by decide, e6, show (2 : Nat) ^ 6 = 64 by decide]
  exact fold4 l0 l1 l2 l3 hY q4 q5
-- 64 bits
theorem fold8 {r0 r1 r2 r3 r4 r5 r6 r7 Z Z1 Z2 Z3 : Nat} (h0 : r0 ≤ 8) (h1 : r1 ≤ 8) (h2 : r2 ≤ 8) (h3 : r3 ≤ 8) (h4 : r4 ≤ 8) (h5 : r5 ≤ 8) (h6 : r6 ≤ 8) (h7 : r7 ≤ 8) (hZ : Z = r0 + 256 * (r1 + 256 * (r2 + 256 * (r3 + 256 * (r4 + 256 * (r5 + 256 * (r6 + 256 * r7))))))) (hZ1 : Z1 = Z + Z / 256) (hZ2 : Z2 = Z1 + Z1 / 65536) (hZ3 : Z3 = Z2 + Z2 / 4294967296) : Z3 % 128 = r0 + r1 + r2 + r3 + r4 + r5 + r6 + r7 := by
  have e1 : Z / 256 = r1 + 256 * (r2 + 256 * (r3 + 256 * (r4 + 256 * (r5 + 256 * (r6 + 256 * r7))))) := by omega
  have e2 : Z1 = 1 * (r0 + r1) + 256 * (r1 + r2) + 65536 * (r2 + r3) + 16777216 * (r3 + r4) + 4294967296 * (r4 + r5) + 1099511627776 * (r5 + r6) + 281474976710656 * (r6 + r7) + 72057594037927936 * r7 := by rw [hZ1, e1, hZ]; omega
  have e3 : Z1 / 65536 = 1 * (r2 + r3) + 256 * (r3 + r4) + 65536 * (r4 + r5) + 16777216 * (r5 + r6) + 4294967296 * (r6 + r7) + 1099511627776 * r7 := by
    clear hZ hZ1 hZ2 hZ3 e1
    omega
  have e4 : Z2 = 1 * ((r0 + r1) + (r2 + r3)) + 256 * ((r1 + r2) + (r3 + r4)) + 65536 * ((r2 + r3) + (r4 + r5)) + 16777216 * ((r3 + r4) + (r5 + r6)) + 4294967296 * ((r4 + r5) + (r6 + r7)) + 1099511627776 * ((r5 + r6) + r7) + 281474976710656 * (r6 + r7) + 72057594037927936 * r7 := by
    rw [hZ2, e3]
    clear hZ hZ1 hZ2 hZ3 e1 e3
    omega
  have e5 : Z2 / 4294967296 = 1 * ((r4 + r5) + (r6 + r7)) + 256 * ((r5 + r6) + r7) + 65536 * (r6 + r7) + 16777216 * r7 := by
    clear hZ hZ1 hZ2 hZ3 e1 e2 e3
    omega
  rw [e5] at hZ3
  clear e5 e3 hZ hZ1 hZ2 e1 e2
  omega
theorem nB_l2i (x : Int64) : nB x.toInt32 = nW x % 4294967296 := by
  have e : x.toInt32.toBitVec = x.toBitVec.signExtend 32 := rfl
  unfold nB
  rw [e]
  first
  | rw [BitVec.signExtend_eq_setWidth_of_le _ (by decide), BitVec.toNat_setWidth]; rfl
  | rw [BitVec.signExtend_eq_setWidth_of_lt _ (by decide), BitVec.toNat_setWidth]; rfl
  | rw [BitVec.toNat_signExtend, BitVec.toNat_setWidth]; simp [nW]
set_option maxHeartbeats 1000000 in
theorem bc64_eq (x : Int64) : (lc6 (lc5 (lc4 (lc3 (lc2 (lc1 x)))))).toInt32 &&& nI 127 = nI (cnt (tL x) 64) := by
  obtain ⟨X, hX⟩ : ∃ X, nW x = X := ⟨_, rfl⟩
  have hlt := nW_lt x
  rw [hX] at hlt
  obtain ⟨t, ht⟩ : ∃ t, t = [X % 256, X / 256 % 256, X / 65536 % 256, X / 16777216 % 256, X / 4294967296 % 256, X / 1099511627776 % 256, X / 281474976710656 % 256, X / 72057594037927936] := ⟨_, rfl⟩
  have hok : okB t := by
    intro a ha
    rw [ht] at ha
    simp only [List.mem_cons, List.not_mem_nil, or_false] at ha
    rcases ha with h | h | h | h | h | h | h | h
    · omega
    · omega
    · omega
    · omega
    · omega
    · omega
    · omega
    · omega
  have hby : byN t = X := by
    rw [ht]
    simp only [byN]
    omega
  have hlen : t.length = 8 := by rw [ht]; rfl
  have p1 := st1 t hok
  rw [hby, hlen, show swM 85 8 = 6148914691236517205 from rfl] at p1
  have q1 : nW (lc1 x) = byN (t.map swA) := by
    unfold lc1
    have e : nW ((x.toUInt64 >>> ((nI 1).toInt64.toUInt64 &&& Int64.toUInt64 63)).toInt64 &&& 6148914691236517205) = (X / 2) &&& 6148914691236517205 := by
      rw [nW_and, nW_shr x (by decide), hX]; rfl
    rw [nW_sub (by rw [e, hX]; exact p1.1), e, hX]; exact p1.2
  have hok1 : okB (t.map swA) := okB_map hok fun a ha => (b1a a ha 0 (by decide)).2.2
  have p2 := st2 (t.map swA) hok1
  rw [List.length_map, hlen, show swM 51 8 = 3689348814741910323 from rfl, List.map_map] at p2
  obtain ⟨p3a, p3⟩ := st3 t hok
  rw [hlen, show swM 15 8 = 1085102592571150095 from rfl] at p3
  have e0 := b2b _ (hok (X % 256) (by rw [ht]; simp))
  have e1 := b2b _ (hok (X / 256 % 256) (by rw [ht]; simp))
  have e2 := b2b _ (hok (X / 65536 % 256) (by rw [ht]; simp))
  have e3 := b2b _ (hok (X / 16777216 % 256) (by rw [ht]; simp))
  have e4 := b2b _ (hok (X / 4294967296 % 256) (by rw [ht]; simp))
  have e5 := b2b _ (hok (X / 1099511627776 % 256) (by rw [ht]; simp))
  have e6 := b2b _ (hok (X / 281474976710656 % 256) (by rw [ht]; simp))
  have e7 := b2b _ (hok (X / 72057594037927936) (by rw [ht]; simp))
  have hq : byN (t.map fun a => swB (swA a)) ≤ 4919131752989213764 := by
    rw [ht]
    simp only [List.map_cons, List.map_nil, byN]
    clear p1 p2 p3 p3a q1 hby hok hok1
    omega
  have q2 : nW (lc2 (lc1 x)) = byN (t.map fun a => swB (swA a)) := by
    unfold lc2
    have a1 : nW (lc1 x &&& 3689348814741910323) = byN (t.map swA) &&& 3689348814741910323 := by rw [nW_and, q1]; rfl
    have a2 : nW (((lc1 x).toUInt64 >>> ((nI 2).toInt64.toUInt64 &&& Int64.toUInt64 63)).toInt64 &&& 3689348814741910323) = (byN (t.map swA) / 4) &&& 3689348814741910323 := by rw [nW_and, nW_shr _ (by decide), q1]; rfl
    have a3 : byN (t.map (swB ∘ swA)) = byN (t.map fun a => swB (swA a)) := rfl
    rw [nW_add (by rw [a1, a2, p2, a3]; exact Nat.lt_of_le_of_lt hq (by decide)), a1, a2, p2, a3]
  have q3 : nW (lc3 (lc2 (lc1 x))) = byN (t.map fun a => swC (swB (swA a))) := by
    unfold lc3
    have a2 : nW (((lc2 (lc1 x)).toUInt64 >>> ((nI 4).toInt64.toUInt64 &&& Int64.toUInt64 63)).toInt64) = byN (t.map fun a => swB (swA a)) / 16 := by rw [nW_shr _ (by decide), q2]
    rw [nW_and, nW_add (by rw [a2, q2]; clear p1 p2 p3 p3a q1 q2 a2 e0 e1 e2 e3 e4 e5 e6 e7 hby; omega), a2, q2]; exact p3
  have c0 := b3b _ (hok (X % 256) (by rw [ht]; simp))
  have c1 := b3b _ (hok (X / 256 % 256) (by rw [ht]; simp))
  have c2 := b3b _ (hok (X / 65536 % 256) (by rw [ht]; simp))
  have c3 := b3b _ (hok (X / 16777216 % 256) (by rw [ht]; simp))
  have c4 := b3b _ (hok (X / 4294967296 % 256) (by rw [ht]; simp))
  have c5 := b3b _ (hok (X / 1099511627776 % 256) (by rw [ht]; simp))
  have c6 := b3b _ (hok (X / 281474976710656 % 256) (by rw [ht]; simp))
  have c7 := b3b _ (hok (X / 72057594037927936) (by rw [ht]; simp))
  have hY : nW (lc3 (lc2 (lc1 x))) = cnt (fun j => (X % 256).testBit j) 8 + 256 * (cnt (fun j => (X / 256 % 256).testBit j) 8 + 256 * (cnt (fun j => (X / 65536 % 256).testBit j) 8 + 256 * (cnt (fun j => (X / 16777216 % 256).testBit j) 8 + 256 * (cnt (fun j => (X / 4294967296 % 256).testBit j) 8 + 256 * (cnt (fun j => (X / 1099511627776 % 256).testBit j) 8 + 256 * (cnt (fun j => (X / 281474976710656 % 256).testBit j) 8 + 256 * cnt (fun j => (X / 72057594037927936).testBit j) 8)))))) := by
    rw [q3, ht, ← c0, ← c1, ← c2, ← c3, ← c4, ← c5, ← c6, ← c7]; rfl
  have l0 := pc_le (X % 256)
  have l1 := pc_le (X / 256 % 256)
  have l2 := pc_le (X / 65536 % 256)
  have l3 := pc_le (X / 16777216 % 256)
  have l4 := pc_le (X / 4294967296 % 256)
  have l5 := pc_le (X / 1099511627776 % 256)
  have l6 := pc_le (X / 281474976710656 % 256)
  have l7 := pc_le (X / 72057594037927936)
  have hcnt : cnt (tL x) 64 = cnt (fun j => (X % 256).testBit j) 8 + cnt (fun j => (X / 256 % 256).testBit j) 8 + cnt (fun j => (X / 65536 % 256).testBit j) 8 + cnt (fun j => (X / 16777216 % 256).testBit j) 8 + cnt (fun j => (X / 4294967296 % 256).testBit j) 8 + cnt (fun j => (X / 1099511627776 % 256).testBit j) 8 + cnt (fun j => (X / 281474976710656 % 256).testBit j) 8 + cnt (fun j => (X / 72057594037927936).testBit j) 8 := by
    have et : tL x = fun j => X.testBit j := by
      funext j
      rw [← hX]; rfl
    have b0 := by8 X 0
    have b1 := by8 X 1
    have b2 := by8 X 2
    have b3 := by8 X 3
    have b4 := by8 X 4
    have b5 := by8 X 5
    have b6 := by8 X 6
    have b7 := by8 X 7
    rw [show (64 : Nat) = 8 + (8 + (8 + (8 + (8 + (8 + (8 + 8)))))) by decide, cnt_ad, cnt_ad, cnt_ad, cnt_ad, cnt_ad, cnt_ad, cnt_ad, et]
    have f0 : cnt (fun j => X.testBit j) 8 = cnt (fun j => X.testBit (8 * 0 + j)) 8 := cnt_congr fun j _ => by rw [Nat.mul_zero, Nat.zero_add]
    have f1 : cnt (fun j => X.testBit (8 + j)) 8 = cnt (fun j => X.testBit (8 * 1 + j)) 8 := cnt_congr fun j _ => by rw [show 8 + j = 8 * 1 + j by omega]
    have f2 : cnt (fun j => X.testBit (8 + (8 + j))) 8 = cnt (fun j => X.testBit (8 * 2 + j)) 8 := cnt_congr fun j _ => by rw [show 8 + (8 + j) = 8 * 2 + j by omega]
    have f3 : cnt (fun j => X.testBit (8 + (8 + (8 + j)))) 8 = cnt (fun j => X.testBit (8 * 3 + j)) 8 := cnt_congr fun j _ => by rw [show 8 + (8 + (8 + j)) = 8 * 3 + j by omega]
    have f4 : cnt (fun j => X.testBit (8 + (8 + (8 + (8 + j))))) 8 = cnt (fun j => X.testBit (8 * 4 + j)) 8 := cnt_congr fun j _ => by rw [show 8 + (8 + (8 + (8 + j))) = 8 * 4 + j by omega]
    have f5 : cnt (fun j => X.testBit (8 + (8 + (8 + (8 + (8 + j)))))) 8 = cnt (fun j => X.testBit (8 * 5 + j)) 8 := cnt_congr fun j _ => by rw [show 8 + (8 + (8 + (8 + (8 + j)))) = 8 * 5 + j by omega]
    have f6 : cnt (fun j => X.testBit (8 + (8 + (8 + (8 + (8 + (8 + j))))))) 8 = cnt (fun j => X.testBit (8 * 6 + j)) 8 := cnt_congr fun j _ => by rw [show 8 + (8 + (8 + (8 + (8 + (8 + j))))) = 8 * 6 + j by omega]
    have f7 : cnt (fun j => X.testBit (8 + (8 + (8 + (8 + (8 + (8 + (8 + j)))))))) 8 = cnt (fun j => X.testBit (8 * 7 + j)) 8 := cnt_congr fun j _ => by rw [show 8 + (8 + (8 + (8 + (8 + (8 + (8 + j)))))) = 8 * 7 + j by omega]
    have g0 : X / 2 ^ (8 * 0) % 256 = X % 256 := by rw [show (2 : Nat) ^ (8 * 0) = 1 by decide, Nat.div_one]
    have g1 : X / 2 ^ (8 * 1) % 256 = X / 256 % 256 := by rw [show (2 : Nat) ^ (8 * 1) = 256 by decide]
    have g2 : X / 2 ^ (8 * 2) % 256 = X / 65536 % 256 := by rw [show (2 : Nat) ^ (8 * 2) = 65536 by decide]
    have g3 : X / 2 ^ (8 * 3) % 256 = X / 16777216 % 256 := by rw [show (2 : Nat) ^ (8 * 3) = 16777216 by decide]
    have g4 : X / 2 ^ (8 * 4) % 256 = X / 4294967296 % 256 := by rw [show (2 : Nat) ^ (8 * 4) = 4294967296 by decide]
    have g5 : X / 2 ^ (8 * 5) % 256 = X / 1099511627776 % 256 := by rw [show (2 : Nat) ^ (8 * 5) = 1099511627776 by decide]
    have g6 : X / 2 ^ (8 * 6) % 256 = X / 281474976710656 % 256 := by rw [show (2 : Nat) ^ (8 * 6) = 281474976710656 by decide]
    have g7 : X / 2 ^ (8 * 7) % 256 = X / 72057594037927936 := by rw [show (2 : Nat) ^ (8 * 7) = 72057594037927936 by decide]; omega
    rw [g0] at b0
    rw [g1] at b1
    rw [g2] at b2
    rw [g3] at b3
    rw [g4] at b4
    rw [g5] at b5
    rw [g6] at b6
    rw [g7] at b7
    show cnt (fun j => X.testBit (j)) 8 + (cnt (fun j => X.testBit (8 + j)) 8 + (cnt (fun j => X.testBit (8 + (8 + j))) 8 + (cnt (fun j => X.testBit (8 + (8 + (8 + j)))) 8 + (cnt (fun j => X.testBit (8 + (8 + (8 + (8 + j))))) 8 + (cnt (fun j => X.testBit (8 + (8 + (8 + (8 + (8 + j)))))) 8 + (cnt (fun j => X.testBit (8 + (8 + (8 + (8 + (8 + (8 + j))))))) 8 + cnt (fun j => X.testBit (8 + (8 + (8 + (8 + (8 + (8 + (8 + j)))))))) 8)))))) = _
    rw [f0, f1, f2, f3, f4, f5, f6, f7, b0, b1, b2, b3, b4, b5, b6, b7]
    clear b0 b1 b2 b3 b4 b5 b6 b7 f0 f1 f2 f3 f4 f5 f6 f7 e0 e1 e2 e3 e4 e5 e6 e7 hY p1 p2 p3 c0 c1 c2 c3 c4 c5 c6 c7
    omega
  rw [hcnt]
  generalize cnt (fun j => (X % 256).testBit j) 8 = r0 at *
  generalize cnt (fun j => (X / 256 % 256).testBit j) 8 = r1 at *
  generalize cnt (fun j => (X / 65536 % 256).testBit j) 8 = r2 at *
  generalize cnt (fun j => (X / 16777216 % 256).testBit j) 8 = r3 at *
  generalize cnt (fun j => (X / 4294967296 % 256).testBit j) 8 = r4 at *
  generalize cnt (fun j => (X / 1099511627776 % 256).testBit j) 8 = r5 at *
  generalize cnt (fun j => (X / 281474976710656 % 256).testBit j) 8 = r6 at *
  generalize cnt (fun j => (X / 72057594037927936).testBit j) 8 = r7 at *
  generalize lc3 (lc2 (lc1 x)) = z at *
  clear e0 e1 e2 e3 e4 e5 e6 e7 c0 c1 c2 c3 c4 c5 c6 c7 p1 p2 p3 p3a q1 q2 q3 hq hok hok1 hby hlen hcnt
  have hz : nW z ≤ 578721382704613384 := by omega
  have a4 : nW ((z.toUInt64 >>> ((nI 8).toInt64.toUInt64 &&& Int64.toUInt64 63)).toInt64) = nW z / 256 := by rw [nW_shr _ (by decide)]
  have q4 : nW (lc4 z) = nW z + nW z / 256 := by unfold lc4; rw [nW_add (by rw [a4]; omega), a4]
  have a5 : nW (((lc4 z).toUInt64 >>> ((nI 16).toInt64.toUInt64 &&& Int64.toUInt64 63)).toInt64) = nW (lc4 z) / 65536 := by rw [nW_shr _ (by decide)]
  have hz4 : nW (lc4 z) ≤ 600000000000000000 := by omega
  have q5 : nW (lc5 (lc4 z)) = nW (lc4 z) + nW (lc4 z) / 65536 := by unfold lc5; rw [nW_add (by rw [a5]; omega), a5]
  have a6 : nW (((lc5 (lc4 z)).toUInt64 >>> ((nI 32).toInt64.toUInt64 &&& Int64.toUInt64 63)).toInt64) = nW (lc5 (lc4 z)) / 4294967296 := by rw [nW_shr _ (by decide)]
  have hz5 : nW (lc5 (lc4 z)) ≤ 700000000000000000 := by omega
  have q6 : nW (lc6 (lc5 (lc4 z))) = nW (lc5 (lc4 z)) + nW (lc5 (lc4 z)) / 4294967296 := by unfold lc6; rw [nW_add (by rw [a6]; omega), a6]
  have hfin := fold8 l0 l1 l2 l3 l4 l5 l6 l7 hY q4 q5 q6
  apply nB_inj
  have e6 : nB (lc6 (lc5 (lc4 z))).toInt32 &&& (2 ^ 7 - 1) = nB (lc6 (lc5 (lc4 z))).toInt32 % 2 ^ 7 := Nat.and_two_pow_sub_one_eq_mod _ _
  rw [nB_and, nB_nI (by decide), nB_nI (by omega), show (127 : Nat) = 2 ^ 7 - 1 by decide, e6, nB_l2i, show (2 : Nat) ^ 7 = 128 by decide, ← hfin]
  generalize nW (lc6 (lc5 (lc4 z))) = w
  clear hfin q6 q5 q4 hY a4 a5 a6 hz hz4 hz5
  omega
