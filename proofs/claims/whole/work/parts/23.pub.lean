/-! what the public methods answer and do -/
/-- an int that is a small number below n -/
def ix (n : Nat) (x : Int32) : Option Nat := if 0 ≤ x.toInt ∧ x.toInt < n then some x.toInt.toNat else none
def ixE (x : Int32) : Option Nat := if 1 ≤ x.toInt ∧ x.toInt ≤ 40 then some x.toInt.toNat else none
theorem ix_some {n j : Nat} (h : j < n) (hn : n < 2 ^ 31) : ix n (nI j) = some j := by
  have e := nI_toInt (Nat.lt_trans h hn)
  simp only [ix, e]
  rw [if_pos (by omega)]
  simp
theorem ix_none {n : Nat} {x : Int32} (h : ∀ j : Nat, j < n → x ≠ nI j) (hn : n < 2 ^ 31) : ix n x = none := by
  simp only [ix]
  rw [if_neg]
  intro ⟨h1, h2⟩
  obtain ⟨j, hj, hx⟩ := vp_in_of (vp_in_iff.mpr ⟨h1, h2⟩) hn
  exact h j hj hx
theorem ixE_some {j : Nat} (h : 1 ≤ j ∧ j ≤ 40) : ixE (nI j) = some j := by
  have e := nI_toInt (n := j) (by omega)
  simp only [ixE, e]
  rw [if_pos (by omega)]
  simp
theorem ixE_none {x : Int32} (h : ∀ j : Nat, 1 ≤ j ∧ j ≤ 40 → x ≠ nI j) : ixE x = none := by
  simp only [ixE]
  rw [if_neg]
  intro ⟨h1, h2⟩
  obtain ⟨j, hj, hx⟩ := vp_in_of (x := x) (n := 41) (vp_in_iff.mpr ⟨by omega, by omega⟩) (by decide)
  refine h j ⟨?_, by omega⟩ hx
  rw [hx, nI_toInt (by omega)] at h1
  omega
theorem ix_of {n : Nat} {x : Int32} {j : Nat} (h : ix n x = some j) (hn : n < 2 ^ 31) : j < n ∧ x = nI j := by
  rcases ix3 x n hn with ⟨i, hi, rfl⟩ | hz
  · rw [ix_some hi hn] at h
    cases h
    exact ⟨hi, rfl⟩
  · rw [ix_none hz hn] at h
    cases h
theorem sw_out {x : Int32} {n : Nat} (h : ∀ j : Nat, j < n + 1 → x ≠ nI j) (hn : n + 1 < 2 ^ 31) : x.toInt < 0 ∨ (n : Int) < x.toInt := by
  by_cases h1 : x.toInt < 0
  · exact Or.inl h1
  · refine Or.inr (Int.not_le.mp fun h2 => ?_)
    obtain ⟨j, hj, hx⟩ := vp_in_of (x := x) (n := n + 1) (vp_in_iff.mpr ⟨by omega, by omega⟩) hn
    exact h j hj hx
def pLead (n : Nat) (u : CS) (x y : Int32) : Int32 × CS := match ixE x with
  | none => (-2, u)
  | some e => match ix n y with
    | none => (-2, u)
    | some v => if decide (e ≤ mP u.1) || hasEp u.1 e then (-3, u) else (nI (mLd u.1 e), (sLd u.1 (va_up (mLd u.1) e v), u.2))
def pFall (n : Nat) (u : CS) (x : Int32) : Int32 × CS := match ix n x with
  | none => (-2, u)
  | some v => if mFa u.1 v then (0, u) else (1, (sFa u.1 (va_up (mFa u.1) v true), u.2))
def wsh (x : Int32) (k : Nat) : Int32 := x ||| ((1 : Int32) <<< (nI k &&& 31))
def pWish (n : Nat) (u : CS) (x y : Int32) : Int32 × CS := match ix n x with
  | none => (-2, u)
  | some v => match ix 32 y with
    | none => (-2, u)
    | some k => (bI (!(tI (mWi u.1 v) k)), (sWi u.1 (va_up (mWi u.1) v (wsh (mWi u.1 v) k)), u.2))
def lkAll (n : Nat) (u : CS) : Nat → CS
  | 0 => u
  | k + 1 => cLook n (lkAll n u k) k
def cNext (u : CS) : CS := (sP u.1 (mP u.1 + 1), u.2)
def cBegin (n : Nat) (u : CS) (v : Nat) : CS := if mFa u.1 v then cNext u else cMakeOnTip n (cNext u) v
def pEpoch (n : Nat) (u : CS) : Int32 × CS := if 40 ≤ mP u.1 then (-3, u) else if !(mFa u.1 (mLd u.1 (mP u.1 + 1))) && !(decide (mT u.1 ≤ 60)) then (-4, u) else (nI (mP u.1 + 1), lkAll n (cBegin n u (mLd u.1 (mP u.1 + 1))) n)
def pBring (n : Nat) (u : CS) (x y : Int32) : Int32 × CS := match ix n y with
  | none => (-2, u)
  | some v => match ix (mT u.1) x with
    | none => (-2, u)
    | some b => if mWy u.1 (11 * b) v then (1, cLetP n u v b) else (-3, u)
def pBringVote (n : Nat) (u : CS) (x y z : Int32) : Int32 × CS := match ix n z with
  | none => (-2, u)
  | some v => match ix n x with
    | none => (-2, u)
    | some w => match ix (mT u.1) y with
      | none => (-2, u)
      | some b => if mWy u.1 (11 * b + 1 + w) v then (1, cLetV n u v w b) else (-3, u)
def pFlow (n : Nat) (u : CS) (x : Int32) : Int32 × CS := match ix n x with
  | none => (-2, u)
  | some v => (nI (mC (cFlow n u v).1) - nI (mC u.1), cFlow n u v)
def rnd (n : Nat) (u : CS) : Nat → CS
  | 0 => u
  | k + 1 => cFlow n (rnd n u k) k
def stl (n : Nat) (u : CS) : Nat → CS
  | 0 => u
  | k + 1 => if uwN (stl n u k).1 n = 0 then stl n u k else rnd n (stl n u k) n
def pSettle (n : Nat) (u : CS) : Int32 × CS := (nI (mC (stl n u 6601).1) - nI (mC u.1), stl n u 6601)
noncomputable def pPropose (n : Nat) (u : CS) (x y z w t : Int32) : Int32 × CS := match ix n x with
  | none => (-2, u)
  | some v => match ix (mT u.1) y with
    | none => (-2, u)
    | some b => match ixE z with
      | none => (-2, u)
      | some e => @ite _ (toOk n t) (Classical.propDecidable _) (if !(mFa u.1 v) || !(decide (mLd u.1 e = v)) then (-3, u) else if !(decide (mT u.1 ≤ 60)) then (-4, u) else
          (nI (mT u.1), (sndM (cTakeP n (cMake u b e w v) v (mT u.1)).1 (11 * mT u.1) t n, (cTakeP n (cMake u b e w v) v (mT u.1)).2))) (-2, u)
noncomputable def pLie (n : Nat) (u : CS) (x y t : Int32) : Int32 × CS := match ix n x with
  | none => (-2, u)
  | some v => if y = 0 then (-2, u) else match ix (mT u.1) y with
    | none => (-2, u)
    | some b => @ite _ (toOk n t) (Classical.propDecidable _) (if !(mFa u.1 v) then (-3, u) else
        (nI (sndC (cTakeV n u v v b).1 (11 * b + 1 + v) t n), (sndM (cTakeV n u v v b).1 (11 * b + 1 + v) t n, (cTakeV n u v v b).2))) (-2, u)
noncomputable def pPass (n : Nat) (u : CS) (x y t : Int32) : Int32 × CS := match ix n x with
  | none => (-2, u)
  | some v => if y = 0 then (-2, u) else match ix (mT u.1) y with
    | none => (-2, u)
    | some b => @ite _ (toOk n t) (Classical.propDecidable _) (if !(mFa u.1 v) || !(mHs u.1 (11 * b) v) then (-3, u) else
        (nI (sndC u.1 (11 * b) t n), (sndM u.1 (11 * b) t n, u.2))) (-2, u)
def pAbout (u : CS) (x y : Int32) : Int32 × CS := match ix (mT u.1) x with
  | none => (-2, u)
  | some b => match ix 5 y with
    | some 0 => (eP (mPar u.1) b, u)
    | some 1 => (nI (mEp u.1 b), u)
    | some 2 => (mLo u.1 b, u)
    | some 3 => (nI (mHt u.1 b), u)
    | some _ => (eP (mMk u.1) b, u)
    | none => (-2, u)
def pSeen (n : Nat) (u : CS) (x y : Int32) : Int32 × CS := match ix n x with
  | none => (-2, u)
  | some v => match ix (mT u.1) y with
    | none => (-2, u)
    | some b => (if xFi u.2 v b then 4 else if xNo u.2 v b then 3 else if xKn u.2 v b then 2 else if mHs u.1 (11 * b) v then 1 else 0, u)
def pVotes (n : Nat) (u : CS) (x y : Int32) : Int32 × CS := match ix n x with
  | none => (-2, u)
  | some v => match ix (mT u.1) y with
    | none => (-2, u)
    | some b => (nI (nVo u.1 b v), u)
def pVoted (n : Nat) (u : CS) (x y : Int32) : Int32 × CS := match ix n x with
  | none => (-2, u)
  | some v => match ixE y with
    | none => (-2, u)
    | some e => (oI (mVf u.1 v e), u)
def pReach (n : Nat) (u : CS) (x y : Int32) : Int32 × CS := match ix n x with
  | none => (-2, u)
  | some v => match ix 3 y with
    | some 0 => (nI (mHt u.1 (xTp u.2 v)), u)
    | some 1 => (nI (xTp u.2 v), u)
    | some _ => (nI (xHf u.2 v), u)
    | none => (-2, u)
def watF (x : Int32) (k : Nat) : Nat → Nat
  | 0 => 0
  | i + 1 => if tI x i && decide (cnt (tI x) i = k) then i else watF x k i
/-- from block b on, d blocks: the wish number lf of the ledger -/
def ldg (M : MS) (ch : Nat → Bool) : Nat → Nat → Int32 → Nat → Int32
  | 0, _, _, _ => -1
  | d + 1, b, ah, lf => if ch b then (if lf < cnt (tI (mLo M b &&& (ah ^^^ (-1)))) 32 then nI (watF (mLo M b &&& (ah ^^^ (-1))) lf 32) else ldg M ch d (b + 1) (ah ||| (mLo M b &&& (ah ^^^ (-1)))) (lf - cnt (tI (mLo M b &&& (ah ^^^ (-1)))) 32)) else ldg M ch d (b + 1) ah lf
def pLedger (n : Nat) (u : CS) (x y : Int32) : Int32 × CS := match ix n x with
  | none => (-2, u)
  | some v => (if y < 0 then -1 else ldg u.1 (xCh u.2 (xHf u.2 v)) (mT u.1) 0 0 y.toInt.toNat, u)
def lineB (X : XS) (a b : Nat) : Bool := xCh X a b || xCh X b a
def agr (n : Nat) (u : CS) : Bool := (List.range n).all fun v => (List.range n).all fun w => mFa u.1 v || (mFa u.1 w || lineB u.2 (xHf u.2 v) (xHf u.2 w))
def pAgree (n : Nat) (u : CS) : Int32 × CS := (bI (agr n u), u)
def pCount (n : Nat) (u : CS) (x : Int32) : Int32 × CS := match ix 7 x with
  | some 0 => (nI n, u)
  | some 1 => (nI (mP u.1), u)
  | some 2 => (nI (mT u.1), u)
  | some 3 => (nI (cnt (mFa u.1) n), u)
  | some 4 => (nI (uwN u.1 n), u)
  | some 5 => (nI (mG u.1), u)
  | some _ => (nI (mC u.1), u)
  | none => (-2, u)
/-! ranges -/
theorem ok_lead {G : kG} {u : CS} (hk : okC G u) {e v : Nat} (hv : v < gn G) : okC G (sLd u.1 (va_up (mLd u.1) e v), u.2) := by
  obtain ⟨a1, a2, a3, a4, a5, a6, a7, a8, a9, a10, a11, a12, a13⟩ := hk
  refine ⟨a1, a2, a3, a4, a5, fun e' => ?_, a7, a8, a9, a10, a11, a12, a13⟩
  show va_up (mLd u.1) e v e' < gn G
  unfold va_up; split
  · exact hv
  · exact a6 e'
theorem ok_next {G : kG} {u : CS} (hk : okC G u) (h : mP u.1 < 40) : okC G (cNext u) := by
  obtain ⟨a1, a2, a3, a4, a5, a6, a7, a8, a9, a10, a11, a12, a13⟩ := hk
  exact ⟨a1, a2, a3, a4, h, a6, a7, a8, a9, a10, a11, a12, a13⟩
theorem ok_begin {G : kG} {u : CS} (hk : okC G u) (h : mP u.1 < 40) {v : Nat} (hr : mFa u.1 v = true ∨ mT u.1 ≤ 60) : okC G (cBegin (gn G) u v) := by
  unfold cBegin; split
  · exact ok_next hk h
  · rename_i hf
    exact ok_makeOnTip (u := cNext u) (ok_next hk h) (hr.resolve_left hf)
theorem ok_lkAll {G : kG} {u : CS} (hk : okC G u) (k : Nat) : okC G (lkAll (gn G) u k) := by
  induction k with
  | zero => exact hk
  | succ k ih => exact ok_look ih k
theorem st_lkAll (n : Nat) (u : CS) (k : Nat) : stat (lkAll n u k).1 = stat u.1 := by
  induction k with
  | zero => rfl
  | succ k ih => unfold lkAll; rw [st_look]; exact ih
theorem ok_rnd {G : kG} {u : CS} (hk : okC G u) (k : Nat) : okC G (rnd (gn G) u k) := by
  induction k with
  | zero => exact hk
  | succ k ih => exact ok_flow ih k
theorem st_rnd (n : Nat) (u : CS) (k : Nat) : stat (rnd n u k).1 = stat u.1 := by
  induction k with
  | zero => rfl
  | succ k ih => unfold rnd; rw [st_flow]; exact ih
theorem ok_stl {G : kG} {u : CS} (hk : okC G u) (k : Nat) : okC G (stl (gn G) u k) := by
  induction k with
  | zero => exact hk
  | succ k ih =>
    unfold stl; split
    · exact ih
    · exact ok_rnd ih _
theorem st_stl (n : Nat) (u : CS) (k : Nat) : stat (stl n u k).1 = stat u.1 := by
  induction k with
  | zero => rfl
  | succ k ih =>
    unfold stl; split
    · exact ih
    · rw [st_rnd]; exact ih
theorem stl_stop {n : Nat} {u : CS} {i : Nat} (h : uwN (stl n u i).1 n = 0) (d : Nat) : stl n u (i + d) = stl n u i := by
  induction d with
  | zero => rfl
  | succ d ih =>
    show (if uwN (stl n u (i + d)).1 n = 0 then stl n u (i + d) else _) = _
    rw [ih, if_pos h]
theorem wsh_eq (x : Int32) {k : Nat} (hk : k < 32) : wsh x k = x ↔ tI x k = true := by
  constructor
  · intro h
    rw [← h, wsh, tI_or, tI_sh hk hk]
    simp
  · intro h
    apply tI_ext
    intro j hj
    rw [wsh, tI_or, tI_sh hk hj]
    by_cases e : j = k
    · subst e; simp [h]
    · simp [e]
theorem watF_at {x : Int32} {i k : Nat} (h1 : tI x i = true) (h2 : cnt (tI x) i = k) : ∀ m, i < m → (∀ j, j < m → tI x j = true → cnt (tI x) j = k → j = i) → watF x k m = i := by
  intro m
  induction m with
  | zero => intro h; omega
  | succ m ih =>
    intro hm hu
    unfold watF
    by_cases e : tI x m = true ∧ cnt (tI x) m = k
    · rw [if_pos (by simp [e.1, e.2])]
      exact hu m (by omega) e.1 e.2
    · rw [if_neg (fun h => e (by simpa using h))]
      have hmi : m ≠ i := fun q => e (by rw [q]; exact ⟨h1, h2⟩)
      exact ih (by omega) (fun j hj => hu j (by omega))
theorem cnt_mono (f : Nat → Bool) {a b : Nat} (h : a ≤ b) : cnt f a ≤ cnt f b := by
  induction b with
  | zero => rw [Nat.le_zero.mp h]; exact Nat.le_refl _
  | succ b ih =>
    rcases Nat.lt_or_ge a (b + 1) with q | q
    · have := ih (by omega)
      simp only [cnt]; omega
    · rw [show a = b + 1 by omega]; exact Nat.le_refl _
theorem cnt_uniq {f : Nat → Bool} {i j : Nat} (hi : f i = true) (hj : f j = true) (h : cnt f i = cnt f j) : i = j := by
  rcases Nat.lt_trichotomy i j with q | q | q
  · have h1 : cnt f (i + 1) ≤ cnt f j := cnt_mono f q
    simp only [cnt, hi, if_true] at h1
    omega
  · exact q
  · have h1 : cnt f (j + 1) ≤ cnt f i := cnt_mono f q
    simp only [cnt, hj, if_true] at h1
    omega
theorem watF_eq {x : Int32} {i k : Nat} (hi : i < 32) (h1 : tI x i = true) (h2 : cnt (tI x) i = k) : watF x k 32 = i :=
  watF_at h1 h2 32 hi (fun j _ a b => cnt_uniq a h1 (b.trans h2.symm))
theorem sw3 (x : Int32) : x = nI 0 ∨ x = nI 1 ∨ x = nI 2 ∨ (∀ j : Nat, j < 3 → x ≠ nI j) := by
  rcases ix3 x 3 (by decide) with ⟨j, hj, h⟩ | h
  · match j, hj with
    | 0, _ => exact Or.inl h
    | 1, _ => exact Or.inr (Or.inl h)
    | 2, _ => exact Or.inr (Or.inr (Or.inl h))
  · exact Or.inr (Or.inr (Or.inr (h)))
theorem sw5 (x : Int32) : x = nI 0 ∨ x = nI 1 ∨ x = nI 2 ∨ x = nI 3 ∨ x = nI 4 ∨ (∀ j : Nat, j < 5 → x ≠ nI j) := by
  rcases ix3 x 5 (by decide) with ⟨j, hj, h⟩ | h
  · match j, hj with
    | 0, _ => exact Or.inl h
    | 1, _ => exact Or.inr (Or.inl h)
    | 2, _ => exact Or.inr (Or.inr (Or.inl h))
    | 3, _ => exact Or.inr (Or.inr (Or.inr (Or.inl h)))
    | 4, _ => exact Or.inr (Or.inr (Or.inr (Or.inr (Or.inl h))))
  · exact Or.inr (Or.inr (Or.inr (Or.inr (Or.inr (h)))))
theorem sw7 (x : Int32) : x = nI 0 ∨ x = nI 1 ∨ x = nI 2 ∨ x = nI 3 ∨ x = nI 4 ∨ x = nI 5 ∨ x = nI 6 ∨ (∀ j : Nat, j < 7 → x ≠ nI j) := by
  rcases ix3 x 7 (by decide) with ⟨j, hj, h⟩ | h
  · match j, hj with
    | 0, _ => exact Or.inl h
    | 1, _ => exact Or.inr (Or.inl h)
    | 2, _ => exact Or.inr (Or.inr (Or.inl h))
    | 3, _ => exact Or.inr (Or.inr (Or.inr (Or.inl h)))
    | 4, _ => exact Or.inr (Or.inr (Or.inr (Or.inr (Or.inl h))))
    | 5, _ => exact Or.inr (Or.inr (Or.inr (Or.inr (Or.inr (Or.inl h)))))
    | 6, _ => exact Or.inr (Or.inr (Or.inr (Or.inr (Or.inr (Or.inr (Or.inl h))))))
  · exact Or.inr (Or.inr (Or.inr (Or.inr (Or.inr (Or.inr (Or.inr (h)))))))
