/-- the ranges that the class's state keeps to -/
def okC (G : kG) (u : CS) : Prop := 4 ≤ gn G ∧ gn G ≤ 10 ∧ 1 ≤ mT u.1 ∧ mT u.1 ≤ 61 ∧ mP u.1 ≤ 40 ∧ (∀ e, mLd u.1 e < gn G) ∧ (∀ b, 0 < b → mPar u.1 b < b) ∧ (∀ b, mEp u.1 b ≤ 40) ∧ (∀ b, mHt u.1 b ≤ b) ∧ (∀ v e, mFc u.1 v e < mT u.1) ∧ (∀ v e, mVf u.1 v e ≤ 60) ∧ (∀ v, xTp u.2 v < mT u.1) ∧ (∀ v, xHf u.2 v < mT u.1)
/-- a set of nodes, as 'to' -/
def toOk (n : Nat) (x : Int32) : Prop := 0 ≤ x.toInt ∧ x.toInt < 2 ^ n
def hasEp (M : MS) (e : Nat) : Bool := (List.range (mT M)).any (fun b => mEp M b == e)
theorem sh_n : ∀ n, n ≤ 10 → ((1 : Int32) <<< (nI n &&& 31)).toInt = 2 ^ n := by decide +kernel
theorem sh_n1 : ∀ n, n ≤ 10 → ((1 : Int32) <<< (nI n &&& 31)) - nI 1 = nI (2 ^ n - 1) := by decide +kernel
