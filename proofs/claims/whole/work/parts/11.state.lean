/-! the state: what class and reference have in common (MS), what the class has beside it (XS) -/
abbrev MS : Type := Nat × Nat × Nat × Nat × (Nat → Nat) × (Nat → Nat) × (Nat → Nat) × (Nat → Int32) × (Nat → Nat) × (Nat → Nat) × (Nat → Bool) × (Nat → Int32) × (Nat → Nat → Bool) × (Nat → Nat → Bool) × (Nat → Nat → Nat) × (Nat → Nat → Nat)
abbrev mT (M : MS) : Nat := M.1
abbrev mP (M : MS) : Nat := M.2.1
abbrev mG (M : MS) : Nat := M.2.2.1
abbrev mC (M : MS) : Nat := M.2.2.2.1
abbrev mLd (M : MS) : Nat → Nat := M.2.2.2.2.1
abbrev mPar (M : MS) : Nat → Nat := M.2.2.2.2.2.1
abbrev mEp (M : MS) : Nat → Nat := M.2.2.2.2.2.2.1
abbrev mLo (M : MS) : Nat → Int32 := M.2.2.2.2.2.2.2.1
abbrev mHt (M : MS) : Nat → Nat := M.2.2.2.2.2.2.2.2.1
abbrev mMk (M : MS) : Nat → Nat := M.2.2.2.2.2.2.2.2.2.1
abbrev mFa (M : MS) : Nat → Bool := M.2.2.2.2.2.2.2.2.2.2.1
abbrev mWi (M : MS) : Nat → Int32 := M.2.2.2.2.2.2.2.2.2.2.2.1
abbrev mHs (M : MS) : Nat → Nat → Bool := M.2.2.2.2.2.2.2.2.2.2.2.2.1
abbrev mWy (M : MS) : Nat → Nat → Bool := M.2.2.2.2.2.2.2.2.2.2.2.2.2.1
abbrev mFc (M : MS) : Nat → Nat → Nat := M.2.2.2.2.2.2.2.2.2.2.2.2.2.2.1
abbrev mVf (M : MS) : Nat → Nat → Nat := M.2.2.2.2.2.2.2.2.2.2.2.2.2.2.2
abbrev sT (M : MS) (x : Nat) : MS := (x, M.2)
abbrev sP (M : MS) (x : Nat) : MS := (M.1, x, M.2.2)
abbrev sG (M : MS) (x : Nat) : MS := (M.1, M.2.1, x, M.2.2.2)
abbrev sC (M : MS) (x : Nat) : MS := (M.1, M.2.1, M.2.2.1, x, M.2.2.2.2)
abbrev sLd (M : MS) (x : Nat → Nat) : MS := (M.1, M.2.1, M.2.2.1, M.2.2.2.1, x, M.2.2.2.2.2)
abbrev sPar (M : MS) (x : Nat → Nat) : MS := (M.1, M.2.1, M.2.2.1, M.2.2.2.1, M.2.2.2.2.1, x, M.2.2.2.2.2.2)
abbrev sEp (M : MS) (x : Nat → Nat) : MS := (M.1, M.2.1, M.2.2.1, M.2.2.2.1, M.2.2.2.2.1, M.2.2.2.2.2.1, x, M.2.2.2.2.2.2.2)
abbrev sLo (M : MS) (x : Nat → Int32) : MS := (M.1, M.2.1, M.2.2.1, M.2.2.2.1, M.2.2.2.2.1, M.2.2.2.2.2.1, M.2.2.2.2.2.2.1, x, M.2.2.2.2.2.2.2.2)
abbrev sHt (M : MS) (x : Nat → Nat) : MS := (M.1, M.2.1, M.2.2.1, M.2.2.2.1, M.2.2.2.2.1, M.2.2.2.2.2.1, M.2.2.2.2.2.2.1, M.2.2.2.2.2.2.2.1, x, M.2.2.2.2.2.2.2.2.2)
abbrev sMk (M : MS) (x : Nat → Nat) : MS := (M.1, M.2.1, M.2.2.1, M.2.2.2.1, M.2.2.2.2.1, M.2.2.2.2.2.1, M.2.2.2.2.2.2.1, M.2.2.2.2.2.2.2.1, M.2.2.2.2.2.2.2.2.1, x, M.2.2.2.2.2.2.2.2.2.2)
abbrev sFa (M : MS) (x : Nat → Bool) : MS := (M.1, M.2.1, M.2.2.1, M.2.2.2.1, M.2.2.2.2.1, M.2.2.2.2.2.1, M.2.2.2.2.2.2.1, M.2.2.2.2.2.2.2.1, M.2.2.2.2.2.2.2.2.1, M.2.2.2.2.2.2.2.2.2.1, x, M.2.2.2.2.2.2.2.2.2.2.2)
abbrev sWi (M : MS) (x : Nat → Int32) : MS := (M.1, M.2.1, M.2.2.1, M.2.2.2.1, M.2.2.2.2.1, M.2.2.2.2.2.1, M.2.2.2.2.2.2.1, M.2.2.2.2.2.2.2.1, M.2.2.2.2.2.2.2.2.1, M.2.2.2.2.2.2.2.2.2.1, M.2.2.2.2.2.2.2.2.2.2.1, x, M.2.2.2.2.2.2.2.2.2.2.2.2)
abbrev sHs (M : MS) (x : Nat → Nat → Bool) : MS := (M.1, M.2.1, M.2.2.1, M.2.2.2.1, M.2.2.2.2.1, M.2.2.2.2.2.1, M.2.2.2.2.2.2.1, M.2.2.2.2.2.2.2.1, M.2.2.2.2.2.2.2.2.1, M.2.2.2.2.2.2.2.2.2.1, M.2.2.2.2.2.2.2.2.2.2.1, M.2.2.2.2.2.2.2.2.2.2.2.1, x, M.2.2.2.2.2.2.2.2.2.2.2.2.2)
abbrev sWy (M : MS) (x : Nat → Nat → Bool) : MS := (M.1, M.2.1, M.2.2.1, M.2.2.2.1, M.2.2.2.2.1, M.2.2.2.2.2.1, M.2.2.2.2.2.2.1, M.2.2.2.2.2.2.2.1, M.2.2.2.2.2.2.2.2.1, M.2.2.2.2.2.2.2.2.2.1, M.2.2.2.2.2.2.2.2.2.2.1, M.2.2.2.2.2.2.2.2.2.2.2.1, M.2.2.2.2.2.2.2.2.2.2.2.2.1, x, M.2.2.2.2.2.2.2.2.2.2.2.2.2.2)
abbrev sFc (M : MS) (x : Nat → Nat → Nat) : MS := (M.1, M.2.1, M.2.2.1, M.2.2.2.1, M.2.2.2.2.1, M.2.2.2.2.2.1, M.2.2.2.2.2.2.1, M.2.2.2.2.2.2.2.1, M.2.2.2.2.2.2.2.2.1, M.2.2.2.2.2.2.2.2.2.1, M.2.2.2.2.2.2.2.2.2.2.1, M.2.2.2.2.2.2.2.2.2.2.2.1, M.2.2.2.2.2.2.2.2.2.2.2.2.1, M.2.2.2.2.2.2.2.2.2.2.2.2.2.1, x, M.2.2.2.2.2.2.2.2.2.2.2.2.2.2.2)
abbrev sVf (M : MS) (x : Nat → Nat → Nat) : MS := (M.1, M.2.1, M.2.2.1, M.2.2.2.1, M.2.2.2.2.1, M.2.2.2.2.2.1, M.2.2.2.2.2.2.1, M.2.2.2.2.2.2.2.1, M.2.2.2.2.2.2.2.2.1, M.2.2.2.2.2.2.2.2.2.1, M.2.2.2.2.2.2.2.2.2.2.1, M.2.2.2.2.2.2.2.2.2.2.2.1, M.2.2.2.2.2.2.2.2.2.2.2.2.1, M.2.2.2.2.2.2.2.2.2.2.2.2.2.1, M.2.2.2.2.2.2.2.2.2.2.2.2.2.2.1, x)
abbrev XS : Type := (Nat → Nat → Bool) × (Nat → Int32) × (Nat → Nat → Bool) × (Nat → Nat → Bool) × (Nat → Nat → Bool) × (Nat → Nat) × (Nat → Nat)
abbrev xCh (M : XS) : Nat → Nat → Bool := M.1
abbrev xCl (M : XS) : Nat → Int32 := M.2.1
abbrev xKn (M : XS) : Nat → Nat → Bool := M.2.2.1
abbrev xNo (M : XS) : Nat → Nat → Bool := M.2.2.2.1
abbrev xFi (M : XS) : Nat → Nat → Bool := M.2.2.2.2.1
abbrev xTp (M : XS) : Nat → Nat := M.2.2.2.2.2.1
abbrev xHf (M : XS) : Nat → Nat := M.2.2.2.2.2.2
abbrev tCh (M : XS) (x : Nat → Nat → Bool) : XS := (x, M.2)
abbrev tCl (M : XS) (x : Nat → Int32) : XS := (M.1, x, M.2.2)
abbrev tKn (M : XS) (x : Nat → Nat → Bool) : XS := (M.1, M.2.1, x, M.2.2.2)
abbrev tNo (M : XS) (x : Nat → Nat → Bool) : XS := (M.1, M.2.1, M.2.2.1, x, M.2.2.2.2)
abbrev tFi (M : XS) (x : Nat → Nat → Bool) : XS := (M.1, M.2.1, M.2.2.1, M.2.2.2.1, x, M.2.2.2.2.2)
abbrev tTp (M : XS) (x : Nat → Nat) : XS := (M.1, M.2.1, M.2.2.1, M.2.2.2.1, M.2.2.2.2.1, x, M.2.2.2.2.2.2)
abbrev tHf (M : XS) (x : Nat → Nat) : XS := (M.1, M.2.1, M.2.2.1, M.2.2.2.1, M.2.2.2.2.1, M.2.2.2.2.2.1, x)
abbrev CS : Type := MS × XS
/-- votes of a node for a block, as bits -/
def vB (f : Nat → Nat → Bool) (b v : Nat) : Nat → Bool := fun x => decide (x < 10) && f (11 * b + 1 + x) v
/-- proposals that a node has, as bits -/
def pB (f : Nat → Nat → Bool) (v : Nat) : Nat → Bool := fun b => f (11 * b) v
abbrev fsC (G : kG) (u : CS) : List Value := [.ref (gL G 3), .ref (gL G 1), .ref (gL G 2), .int (nI (mP u.1)), .int (nI (mG u.1)), .int (nI (mC u.1))]
abbrev fsB (G : kG) (u : CS) : List Value := [.ref (gL G 4), .ref (gL G 5), .ref (gL G 6), .ref (gL G 7), .ref (gL G 8), .ref (gL G 9), .ref (gL G 10), .int (nI (mT u.1))]
noncomputable abbrev fsN (G : kG) (u : CS) (v : Nat) : List Value := [.int (nI v), .int (nI (gn G)), .ref (gL G 3), .int (bI (mFa u.1 v)), .int (mWi u.1 v), .long (eL (pB (mHs u.1) v)), .long (eL (pB (mWy u.1) v)), .ref (gL G (12 + 5 * v)), .ref (gL G (13 + 5 * v)), .ref (gL G (14 + 5 * v)), .ref (gL G (15 + 5 * v)), .long (eL (xKn u.2 v)), .long (eL (xNo u.2 v)), .long (eL (xFi u.2 v)), .int (nI (xTp u.2 v)), .int (nI (xHf u.2 v))]
noncomputable def gbC (G : kG) (u : CS) (k : Nat) : va_E := match k with
  | 0 => .inr (2, fsC G u)
  | 1 => .inl (gO G, gn G, .inr (.inr (.inr (.inr (fun v => some (gL G (11 + 5 * v)))))))
  | 2 => .inl (gI G, 41, .inl (fun e => nI (mLd u.1 e)))
  | 3 => .inr (0, fsB G u)
  | 4 => .inl (gI G, 61, .inl (eP (mPar u.1)))
  | 5 => .inl (gI G, 61, .inl (fun b => nI (mEp u.1 b)))
  | 6 => .inl (gI G, 61, .inl (mLo u.1))
  | 7 => .inl (gI G, 61, .inl (fun b => nI (mHt u.1 b)))
  | 8 => .inl (gI G, 61, .inl (eP (mMk u.1)))
  | 9 => .inl (gJ G, 61, .inr (.inl (fun b => eL (xCh u.2 b))))
  | _ => .inl (gI G, 61, .inl (xCl u.2))
noncomputable def ndC (G : kG) (u : CS) (v i : Nat) : va_E := match i with
  | 0 => .inr (1, fsN G u v)
  | 1 => .inl (gI G, 61, .inl (fun b => eI (vB (mHs u.1) b v)))
  | 2 => .inl (gI G, 61, .inl (fun b => eI (vB (mWy u.1) b v)))
  | 3 => .inl (gI G, 41, .inl (fun e => oI (mFc u.1 v e)))
  | _ => .inl (gI G, 41, .inl (fun e => oI (mVf u.1 v e)))
noncomputable def ctC (G : kG) (u : CS) (k : Nat) : va_E := if k < 11 then gbC G u k else ndC G u ((k - 11) / 5) ((k - 11) % 5)
/-- the world of a StreamChain -/
noncomputable def wC (G : kG) (u : CS) : va_W := (List.range (11 + 5 * gn G)).map (fun k => (gL G k, ctC G u k))
def AC (G : kG) : Nat → Prop := fun q => ∃ k, k < 11 + 5 * gn G ∧ q = gL G k
/-- the addresses are apart -/
def lay (G : kG) : Prop := ∀ i j, i < 11 + 5 * gn G → j < 11 + 5 * gn G → gL G i = gL G j → i = j
theorem wC_at (G : kG) (u : CS) {k : Nat} (h : k < 11 + 5 * gn G) : (wC G u)[k]? = some (gL G k, ctC G u k) := by
  simp [wC, h]
theorem wC_some {G : kG} {u : CS} {k : Nat} {q : Nat × va_E} (h : (wC G u)[k]? = some q) : k < 11 + 5 * gn G ∧ q = (gL G k, ctC G u k) := by
  by_cases hk : k < 11 + 5 * gn G
  · rw [wC_at G u hk] at h
    exact ⟨hk, (Option.some.inj h).symm⟩
  · simp [wC, hk] at h
theorem wC_D {G : kG} (hL : lay G) (u : CS) : va_D (AC G) (wC G u) := by
  refine ⟨fun i j p q hi hj h => ?_, fun k q hk => ?_⟩
  · obtain ⟨h1, rfl⟩ := wC_some hi
    obtain ⟨h2, rfl⟩ := wC_some hj
    exact hL i j h1 h2 h
  · obtain ⟨h1, rfl⟩ := wC_some hk
    exact ⟨k, h1, rfl⟩
theorem wC_g (G : kG) (u : CS) {k : Nat} (h : k < 11) : (wC G u)[k]? = some (gL G k, gbC G u k) := by
  rw [wC_at G u (by omega)]
  simp [ctC, h]
theorem ctC_n (G : kG) (u : CS) (v : Nat) {i : Nat} (hi : i < 5) : ctC G u (11 + 5 * v + i) = ndC G u v i := by
  have e1 : (11 + 5 * v + i - 11) / 5 = v := by omega
  have e2 : (11 + 5 * v + i - 11) % 5 = i := by omega
  simp only [ctC]
  rw [if_neg (by omega), e1, e2]
theorem wC_n (G : kG) (u : CS) {v i : Nat} (hv : v < gn G) (hi : i < 5) : (wC G u)[11 + 5 * v + i]? = some (gL G (11 + 5 * v + i), ndC G u v i) := by
  rw [wC_at G u (by omega), ctC_n G u v hi]
theorem wC_n0 (G : kG) (u : CS) {v : Nat} (hv : v < gn G) : (wC G u)[11 + 5 * v]? = some (gL G (11 + 5 * v), .inr (1, fsN G u v)) := wC_n G u (i := 0) hv (by decide)
theorem wC_n1 (G : kG) (u : CS) {v : Nat} (hv : v < gn G) : (wC G u)[12 + 5 * v]? = some (gL G (12 + 5 * v), ndC G u v 1) := by have h := wC_n G u (i := 1) hv (by decide); rw [show 11 + 5 * v + 1 = 12 + 5 * v by omega] at h; exact h
theorem wC_n2 (G : kG) (u : CS) {v : Nat} (hv : v < gn G) : (wC G u)[13 + 5 * v]? = some (gL G (13 + 5 * v), ndC G u v 2) := by have h := wC_n G u (i := 2) hv (by decide); rw [show 11 + 5 * v + 2 = 13 + 5 * v by omega] at h; exact h
theorem wC_n3 (G : kG) (u : CS) {v : Nat} (hv : v < gn G) : (wC G u)[14 + 5 * v]? = some (gL G (14 + 5 * v), ndC G u v 3) := by have h := wC_n G u (i := 3) hv (by decide); rw [show 11 + 5 * v + 3 = 14 + 5 * v by omega] at h; exact h
theorem wC_n4 (G : kG) (u : CS) {v : Nat} (hv : v < gn G) : (wC G u)[15 + 5 * v]? = some (gL G (15 + 5 * v), ndC G u v 4) := by have h := wC_n G u (i := 4) hv (by decide); rw [show 11 + 5 * v + 4 = 15 + 5 * v by omega] at h; exact h
theorem lt11 {Q : Nat → Prop} (h0 : Q 0) (h1 : Q 1) (h2 : Q 2) (h3 : Q 3) (h4 : Q 4) (h5 : Q 5) (h6 : Q 6) (h7 : Q 7) (h8 : Q 8) (h9 : Q 9) (h10 : Q 10) : ∀ j, j < 11 → Q j := by
  intro j hj
  match j, hj with
  | 0, _ => exact h0
  | 1, _ => exact h1
  | 2, _ => exact h2
  | 3, _ => exact h3
  | 4, _ => exact h4
  | 5, _ => exact h5
  | 6, _ => exact h6
  | 7, _ => exact h7
  | 8, _ => exact h8
  | 9, _ => exact h9
  | 10, _ => exact h10
theorem wC_set {G : kG} {u u' : CS} {k : Nat} {e : va_E} (hk : k < 11 + 5 * gn G) (h1 : ctC G u' k = e) (h2 : ∀ j, j < 11 + 5 * gn G → j ≠ k → ctC G u' j = ctC G u j) : (wC G u).set k (gL G k, e) = wC G u' := by
  apply List.ext_getElem?
  intro j
  by_cases hj : j < 11 + 5 * gn G
  · rw [wC_at G u' hj]
    by_cases hjk : j = k
    · subst hjk
      rw [List.getElem?_set_self (by simp [wC]; exact hk), h1]
    · rw [List.getElem?_set_ne (Ne.symm hjk), wC_at G u hj, h2 j hj hjk]
  · rw [List.getElem?_eq_none (by simp [wC]; omega), List.getElem?_eq_none (by simp [wC]; omega)]
theorem wC_setg {G : kG} {u u' : CS} {k : Nat} {e : va_E} (hk : k < 11) (h1 : gbC G u' k = e) (h2 : ∀ j, j < 11 → j ≠ k → gbC G u' j = gbC G u j) (h3 : ∀ v i, v < gn G → i < 5 → ndC G u' v i = ndC G u v i) : (wC G u).set k (gL G k, e) = wC G u' := by
  refine wC_set (by omega) (by simp only [ctC, if_pos hk]; exact h1) (fun j hj hjk => ?_)
  by_cases h : j < 11
  · simp only [ctC, if_pos h]
    exact h2 j h hjk
  · simp only [ctC, if_neg h]
    exact h3 _ _ (by omega) (by omega)
theorem wC_setn {G : kG} {u u' : CS} {v i : Nat} {e : va_E} (hv : v < gn G) (hi : i < 5) (h1 : ndC G u' v i = e) (h2 : ∀ j, j < 11 → gbC G u' j = gbC G u j) (h3 : ∀ v' i', v' < gn G → i' < 5 → ¬ (v' = v ∧ i' = i) → ndC G u' v' i' = ndC G u v' i') : (wC G u).set (11 + 5 * v + i) (gL G (11 + 5 * v + i), e) = wC G u' := by
  refine wC_set (by omega) (by rw [ctC_n G u' v hi]; exact h1) (fun j hj hjk => ?_)
  by_cases h : j < 11
  · simp only [ctC, if_pos h]
    exact h2 j h
  · simp only [ctC, if_neg h]
    exact h3 _ _ (by omega) (by omega) (by omega)
theorem cs_P (G : kG) (u : CS) (x : Nat) : (wC G u).set 0 (gL G 0, .inr (2, (fsC G u).set 3 (.int (nI x)))) = wC G (sP u.1 x, u.2) := wC_setg (by decide) (rfl) (fun j hj => lt11 (Q := fun j => j ≠ 0 → gbC G (sP u.1 x, u.2) j = gbC G u j) (fun h => absurd rfl h) (fun _ => rfl) (fun _ => rfl) (fun _ => rfl) (fun _ => rfl) (fun _ => rfl) (fun _ => rfl) (fun _ => rfl) (fun _ => rfl) (fun _ => rfl) (fun _ => rfl) j hj) (fun v i _ _ => rfl)
theorem cs_G (G : kG) (u : CS) (x : Nat) : (wC G u).set 0 (gL G 0, .inr (2, (fsC G u).set 4 (.int (nI x)))) = wC G (sG u.1 x, u.2) := wC_setg (by decide) (rfl) (fun j hj => lt11 (Q := fun j => j ≠ 0 → gbC G (sG u.1 x, u.2) j = gbC G u j) (fun h => absurd rfl h) (fun _ => rfl) (fun _ => rfl) (fun _ => rfl) (fun _ => rfl) (fun _ => rfl) (fun _ => rfl) (fun _ => rfl) (fun _ => rfl) (fun _ => rfl) (fun _ => rfl) j hj) (fun v i _ _ => rfl)
theorem cs_C (G : kG) (u : CS) (x : Nat) : (wC G u).set 0 (gL G 0, .inr (2, (fsC G u).set 5 (.int (nI x)))) = wC G (sC u.1 x, u.2) := wC_setg (by decide) (rfl) (fun j hj => lt11 (Q := fun j => j ≠ 0 → gbC G (sC u.1 x, u.2) j = gbC G u j) (fun h => absurd rfl h) (fun _ => rfl) (fun _ => rfl) (fun _ => rfl) (fun _ => rfl) (fun _ => rfl) (fun _ => rfl) (fun _ => rfl) (fun _ => rfl) (fun _ => rfl) (fun _ => rfl) j hj) (fun v i _ _ => rfl)
theorem cs_Ld (G : kG) (u : CS) (k x : Nat) : (wC G u).set 2 (gL G 2, .inl (gI G, 41, .inl (upd (fun e => nI (mLd u.1 e)) k (nI x)))) = wC G (sLd u.1 (va_up (mLd u.1) k x), u.2) := wC_setg (by decide) (congrArg (fun f => (.inl (gI G, 41, .inl f) : va_E)) (upd_fn (g := fun e => nI (va_up (mLd u.1) k x e)) (by simp [va_up]) (fun j h => by simp [va_up, h])).symm) (fun j hj => lt11 (Q := fun j => j ≠ 2 → gbC G (sLd u.1 (va_up (mLd u.1) k x), u.2) j = gbC G u j) (fun _ => rfl) (fun _ => rfl) (fun h => absurd rfl h) (fun _ => rfl) (fun _ => rfl) (fun _ => rfl) (fun _ => rfl) (fun _ => rfl) (fun _ => rfl) (fun _ => rfl) (fun _ => rfl) j hj) (fun v i _ _ => rfl)
theorem cs_T (G : kG) (u : CS) (x : Nat) : (wC G u).set 3 (gL G 3, .inr (0, (fsB G u).set 7 (.int (nI x)))) = wC G (sT u.1 x, u.2) := wC_setg (by decide) (rfl) (fun j hj => lt11 (Q := fun j => j ≠ 3 → gbC G (sT u.1 x, u.2) j = gbC G u j) (fun _ => rfl) (fun _ => rfl) (fun _ => rfl) (fun h => absurd rfl h) (fun _ => rfl) (fun _ => rfl) (fun _ => rfl) (fun _ => rfl) (fun _ => rfl) (fun _ => rfl) (fun _ => rfl) j hj) (fun v i _ _ => rfl)
theorem cs_Par (G : kG) (u : CS) {k : Nat} (hk : 0 < k) (x : Nat) : (wC G u).set 4 (gL G 4, .inl (gI G, 61, .inl (upd (eP (mPar u.1)) k (nI x)))) = wC G (sPar u.1 (va_up (mPar u.1) k x), u.2) := wC_setg (by decide) (congrArg (fun f => (.inl (gI G, 61, .inl f) : va_E)) (upd_fn (g := eP (va_up (mPar u.1) k x)) (by simp [eP, va_up, Nat.ne_of_gt hk]) (fun j h => by simp [eP, va_up, h])).symm) (fun j hj => lt11 (Q := fun j => j ≠ 4 → gbC G (sPar u.1 (va_up (mPar u.1) k x), u.2) j = gbC G u j) (fun _ => rfl) (fun _ => rfl) (fun _ => rfl) (fun _ => rfl) (fun h => absurd rfl h) (fun _ => rfl) (fun _ => rfl) (fun _ => rfl) (fun _ => rfl) (fun _ => rfl) (fun _ => rfl) j hj) (fun v i _ _ => rfl)
theorem cs_Ep (G : kG) (u : CS) (k x : Nat) : (wC G u).set 5 (gL G 5, .inl (gI G, 61, .inl (upd (fun b => nI (mEp u.1 b)) k (nI x)))) = wC G (sEp u.1 (va_up (mEp u.1) k x), u.2) := wC_setg (by decide) (congrArg (fun f => (.inl (gI G, 61, .inl f) : va_E)) (upd_fn (g := fun e => nI (va_up (mEp u.1) k x e)) (by simp [va_up]) (fun j h => by simp [va_up, h])).symm) (fun j hj => lt11 (Q := fun j => j ≠ 5 → gbC G (sEp u.1 (va_up (mEp u.1) k x), u.2) j = gbC G u j) (fun _ => rfl) (fun _ => rfl) (fun _ => rfl) (fun _ => rfl) (fun _ => rfl) (fun h => absurd rfl h) (fun _ => rfl) (fun _ => rfl) (fun _ => rfl) (fun _ => rfl) (fun _ => rfl) j hj) (fun v i _ _ => rfl)
theorem cs_Lo (G : kG) (u : CS) (k : Nat) (x : Int32) : (wC G u).set 6 (gL G 6, .inl (gI G, 61, .inl (upd (mLo u.1) k x))) = wC G (sLo u.1 (va_up (mLo u.1) k x), u.2) := wC_setg (by decide) (congrArg (fun f => (.inl (gI G, 61, .inl f) : va_E)) (upd_fn (g := va_up (mLo u.1) k x) (by simp [va_up]) (fun j h => by simp [va_up, h])).symm) (fun j hj => lt11 (Q := fun j => j ≠ 6 → gbC G (sLo u.1 (va_up (mLo u.1) k x), u.2) j = gbC G u j) (fun _ => rfl) (fun _ => rfl) (fun _ => rfl) (fun _ => rfl) (fun _ => rfl) (fun _ => rfl) (fun h => absurd rfl h) (fun _ => rfl) (fun _ => rfl) (fun _ => rfl) (fun _ => rfl) j hj) (fun v i _ _ => rfl)
theorem cs_Ht (G : kG) (u : CS) (k x : Nat) : (wC G u).set 7 (gL G 7, .inl (gI G, 61, .inl (upd (fun b => nI (mHt u.1 b)) k (nI x)))) = wC G (sHt u.1 (va_up (mHt u.1) k x), u.2) := wC_setg (by decide) (congrArg (fun f => (.inl (gI G, 61, .inl f) : va_E)) (upd_fn (g := fun e => nI (va_up (mHt u.1) k x e)) (by simp [va_up]) (fun j h => by simp [va_up, h])).symm) (fun j hj => lt11 (Q := fun j => j ≠ 7 → gbC G (sHt u.1 (va_up (mHt u.1) k x), u.2) j = gbC G u j) (fun _ => rfl) (fun _ => rfl) (fun _ => rfl) (fun _ => rfl) (fun _ => rfl) (fun _ => rfl) (fun _ => rfl) (fun h => absurd rfl h) (fun _ => rfl) (fun _ => rfl) (fun _ => rfl) j hj) (fun v i _ _ => rfl)
theorem cs_Mk (G : kG) (u : CS) {k : Nat} (hk : 0 < k) (x : Nat) : (wC G u).set 8 (gL G 8, .inl (gI G, 61, .inl (upd (eP (mMk u.1)) k (nI x)))) = wC G (sMk u.1 (va_up (mMk u.1) k x), u.2) := wC_setg (by decide) (congrArg (fun f => (.inl (gI G, 61, .inl f) : va_E)) (upd_fn (g := eP (va_up (mMk u.1) k x)) (by simp [eP, va_up, Nat.ne_of_gt hk]) (fun j h => by simp [eP, va_up, h])).symm) (fun j hj => lt11 (Q := fun j => j ≠ 8 → gbC G (sMk u.1 (va_up (mMk u.1) k x), u.2) j = gbC G u j) (fun _ => rfl) (fun _ => rfl) (fun _ => rfl) (fun _ => rfl) (fun _ => rfl) (fun _ => rfl) (fun _ => rfl) (fun _ => rfl) (fun h => absurd rfl h) (fun _ => rfl) (fun _ => rfl) j hj) (fun v i _ _ => rfl)
theorem cs_Ch (G : kG) (u : CS) (k : Nat) (f : Nat → Bool) : (wC G u).set 9 (gL G 9, .inl (gJ G, 61, .inr (.inl (vp_updL (fun b => eL (xCh u.2 b)) k (eL f))))) = wC G (u.1, tCh u.2 (va_up (xCh u.2) k f)) := wC_setg (by decide) (congrArg (fun f => (.inl (gJ G, 61, .inr (.inl f)) : va_E)) (updL_fn (g := fun b => eL (va_up (xCh u.2) k f b)) (by simp [va_up]) (fun j h => by simp [va_up, h])).symm) (fun j hj => lt11 (Q := fun j => j ≠ 9 → gbC G (u.1, tCh u.2 (va_up (xCh u.2) k f)) j = gbC G u j) (fun _ => rfl) (fun _ => rfl) (fun _ => rfl) (fun _ => rfl) (fun _ => rfl) (fun _ => rfl) (fun _ => rfl) (fun _ => rfl) (fun _ => rfl) (fun h => absurd rfl h) (fun _ => rfl) j hj) (fun v i _ _ => rfl)
theorem cs_Cl (G : kG) (u : CS) (k : Nat) (x : Int32) : (wC G u).set 10 (gL G 10, .inl (gI G, 61, .inl (upd (xCl u.2) k x))) = wC G (u.1, tCl u.2 (va_up (xCl u.2) k x)) := wC_setg (by decide) (congrArg (fun f => (.inl (gI G, 61, .inl f) : va_E)) (upd_fn (g := va_up (xCl u.2) k x) (by simp [va_up]) (fun j h => by simp [va_up, h])).symm) (fun j hj => lt11 (Q := fun j => j ≠ 10 → gbC G (u.1, tCl u.2 (va_up (xCl u.2) k x)) j = gbC G u j) (fun _ => rfl) (fun _ => rfl) (fun _ => rfl) (fun _ => rfl) (fun _ => rfl) (fun _ => rfl) (fun _ => rfl) (fun _ => rfl) (fun _ => rfl) (fun _ => rfl) (fun h => absurd rfl h) j hj) (fun v i _ _ => rfl)
