/-! changes at a node -/
theorem fsN_congr {G : kG} {u u' : CS} {v : Nat} (h3 : mFa u'.1 v = mFa u.1 v) (h4 : mWi u'.1 v = mWi u.1 v) (h5 : pB (mHs u'.1) v = pB (mHs u.1) v) (h6 : pB (mWy u'.1) v = pB (mWy u.1) v) (h11 : xKn u'.2 v = xKn u.2 v) (h12 : xNo u'.2 v = xNo u.2 v) (h13 : xFi u'.2 v = xFi u.2 v) (h14 : xTp u'.2 v = xTp u.2 v) (h15 : xHf u'.2 v = xHf u.2 v) : fsN G u' v = fsN G u v := by
  simp only [fsN, h3, h4, h5, h6, h11, h12, h13, h14, h15]
theorem ndC_congr {G : kG} {u u' : CS} {v i : Nat} (hi : i < 5) (h0 : i = 0 → fsN G u' v = fsN G u v) (h1 : i = 1 → ∀ b, vB (mHs u'.1) b v = vB (mHs u.1) b v) (h2 : i = 2 → ∀ b, vB (mWy u'.1) b v = vB (mWy u.1) b v) (h3 : i = 3 → mFc u'.1 v = mFc u.1 v) (h4 : i = 4 → mVf u'.1 v = mVf u.1 v) : ndC G u' v i = ndC G u v i := by
  match i, hi with
  | 0, _ => simp only [ndC, h0 rfl]
  | 1, _ => simp only [ndC, h1 rfl]
  | 2, _ => simp only [ndC, h2 rfl]
  | 3, _ => simp only [ndC, h3 rfl]
  | 4, _ => simp only [ndC, h4 rfl]
theorem pB_up (f : Nat → Nat → Bool) (b v : Nat) (y : Bool) : pB (up2 f (11 * b) v y) v = va_up (pB f v) b y := by
  funext k
  by_cases h : k = b
  · subst h; simp [pB, up2, va_up]
  · have : ¬ 11 * k = 11 * b := by omega
    simp [pB, up2, va_up, h, this]
theorem pB_ne (f : Nat → Nat → Bool) {l v v' : Nat} (y : Bool) (h : v' ≠ v) : pB (up2 f l v y) v' = pB f v' := by
  funext k
  simp [pB, up2, h]
theorem pB_vote (f : Nat → Nat → Bool) {b x v : Nat} (y : Bool) (hx : x < 10) (v' : Nat) : pB (up2 f (11 * b + 1 + x) v y) v' = pB f v' := by
  funext k
  have : ¬ 11 * k = 11 * b + 1 + x := by omega
  simp [pB, up2, this]
theorem vB_prop (f : Nat → Nat → Bool) (b v : Nat) (y : Bool) (b' v' : Nat) : vB (up2 f (11 * b) v y) b' v' = vB f b' v' := by
  funext x
  by_cases hx : x < 10
  · have : ¬ 11 * b' + 1 + x = 11 * b := by omega
    simp [vB, up2, this]
  · simp [vB, hx]
theorem vB_ne (f : Nat → Nat → Bool) {l v v' : Nat} (y : Bool) (h : v' ≠ v) (b' : Nat) : vB (up2 f l v y) b' v' = vB f b' v' := by
  funext x
  simp [vB, up2, h]
theorem vB_up (f : Nat → Nat → Bool) {b x v : Nat} (y : Bool) (hx : x < 10) : vB (up2 f (11 * b + 1 + x) v y) b v = va_up (vB f b v) x y := by
  funext k
  by_cases h : k = x
  · subst h; simp [vB, up2, va_up, hx]
  · have : ¬ 11 * b + 1 + k = 11 * b + 1 + x := by omega
    simp [vB, up2, va_up, h]
theorem vB_nb (f : Nat → Nat → Bool) {b x v : Nat} (y : Bool) (hx : x < 10) {b' : Nat} (h : b' ≠ b) (v' : Nat) : vB (up2 f (11 * b + 1 + x) v y) b' v' = vB f b' v' := by
  funext k
  by_cases hk : k < 10
  · have : ¬ 11 * b' + 1 + k = 11 * b + 1 + x := by omega
    simp [vB, up2, this]
  · simp [vB, hk]
theorem up2_row {α : Type} (f : Nat → Nat → α) (i j : Nat) (x : α) : up2 f i j x i = va_up (f i) j x := by
  funext k
  by_cases h : k = j <;> simp [up2, va_up, h]
theorem up2_rne {α : Type} (f : Nat → Nat → α) {i i' : Nat} (j : Nat) (x : α) (h : i' ≠ i) : up2 f i j x i' = f i' := by
  funext k
  simp [up2, h]
theorem cn_Fa (G : kG) (u : CS) {v : Nat} (hv : v < gn G) (x : Bool) : (wC G u).set (11 + 5 * v) (gL G (11 + 5 * v), .inr (1, (fsN G u v).set 3 (.int (bI x)))) = wC G (sFa u.1 (va_up (mFa u.1) v x), u.2) :=
  wC_setn (i := 0) hv (by decide) (by
    have e : mFa (sFa u.1 (va_up (mFa u.1) v x), u.2).1 v = x := va_up_self _ _ _
    show (Sum.inr (1, fsN G (sFa u.1 (va_up (mFa u.1) v x), u.2) v) : va_E) = .inr (1, (fsN G u v).set 3 (.int (bI x)))
    simp only [fsN, List.set] at e ⊢
    rw [e])
    (fun j hj => lt11 (Q := fun j => gbC G (sFa u.1 (va_up (mFa u.1) v x), u.2) j = gbC G u j) rfl rfl rfl rfl rfl rfl rfl rfl rfl rfl rfl j hj)
    (fun v' i' hv' hi' hne => ndC_congr hi' (fun hz => have h : v' ≠ v := fun q => hne ⟨q, hz⟩; fsN_congr (va_up_ne _ _ h) (rfl) (rfl) (rfl) (rfl) (rfl) (rfl) (rfl) (rfl)) (fun _ _ => rfl) (fun _ _ => rfl) (fun _ => rfl) (fun _ => rfl))
theorem cn_Wi (G : kG) (u : CS) {v : Nat} (hv : v < gn G) (x : Int32) : (wC G u).set (11 + 5 * v) (gL G (11 + 5 * v), .inr (1, (fsN G u v).set 4 (.int x))) = wC G (sWi u.1 (va_up (mWi u.1) v x), u.2) :=
  wC_setn (i := 0) hv (by decide) (by
    have e : mWi (sWi u.1 (va_up (mWi u.1) v x), u.2).1 v = x := va_up_self _ _ _
    show (Sum.inr (1, fsN G (sWi u.1 (va_up (mWi u.1) v x), u.2) v) : va_E) = .inr (1, (fsN G u v).set 4 (.int x))
    simp only [fsN, List.set] at e ⊢
    rw [e])
    (fun j hj => lt11 (Q := fun j => gbC G (sWi u.1 (va_up (mWi u.1) v x), u.2) j = gbC G u j) rfl rfl rfl rfl rfl rfl rfl rfl rfl rfl rfl j hj)
    (fun v' i' hv' hi' hne => ndC_congr hi' (fun hz => have h : v' ≠ v := fun q => hne ⟨q, hz⟩; fsN_congr (rfl) (va_up_ne _ _ h) (rfl) (rfl) (rfl) (rfl) (rfl) (rfl) (rfl)) (fun _ _ => rfl) (fun _ _ => rfl) (fun _ => rfl) (fun _ => rfl))
theorem cn_Hs (G : kG) (u : CS) {v : Nat} (hv : v < gn G) (b : Nat) (x : Bool) : (wC G u).set (11 + 5 * v) (gL G (11 + 5 * v), .inr (1, (fsN G u v).set 5 (.long (eL (va_up (pB (mHs u.1) v) b x))))) = wC G (sHs u.1 (up2 (mHs u.1) (11 * b) v x), u.2) :=
  wC_setn (i := 0) hv (by decide) (by
    have e : pB (mHs (sHs u.1 (up2 (mHs u.1) (11 * b) v x), u.2).1) v = va_up (pB (mHs u.1) v) b x := pB_up _ _ _ _
    show (Sum.inr (1, fsN G (sHs u.1 (up2 (mHs u.1) (11 * b) v x), u.2) v) : va_E) = .inr (1, (fsN G u v).set 5 (.long (eL (va_up (pB (mHs u.1) v) b x))))
    simp only [fsN, List.set] at e ⊢
    rw [e])
    (fun j hj => lt11 (Q := fun j => gbC G (sHs u.1 (up2 (mHs u.1) (11 * b) v x), u.2) j = gbC G u j) rfl rfl rfl rfl rfl rfl rfl rfl rfl rfl rfl j hj)
    (fun v' i' hv' hi' hne => ndC_congr hi' (fun hz => have h : v' ≠ v := fun q => hne ⟨q, hz⟩; fsN_congr (rfl) (rfl) (pB_ne _ _ h) (rfl) (rfl) (rfl) (rfl) (rfl) (rfl)) (fun _ b' => vB_prop _ _ _ _ _ _) (fun _ _ => rfl) (fun _ => rfl) (fun _ => rfl))
theorem cn_Wy (G : kG) (u : CS) {v : Nat} (hv : v < gn G) (b : Nat) (x : Bool) : (wC G u).set (11 + 5 * v) (gL G (11 + 5 * v), .inr (1, (fsN G u v).set 6 (.long (eL (va_up (pB (mWy u.1) v) b x))))) = wC G (sWy u.1 (up2 (mWy u.1) (11 * b) v x), u.2) :=
  wC_setn (i := 0) hv (by decide) (by
    have e : pB (mWy (sWy u.1 (up2 (mWy u.1) (11 * b) v x), u.2).1) v = va_up (pB (mWy u.1) v) b x := pB_up _ _ _ _
    show (Sum.inr (1, fsN G (sWy u.1 (up2 (mWy u.1) (11 * b) v x), u.2) v) : va_E) = .inr (1, (fsN G u v).set 6 (.long (eL (va_up (pB (mWy u.1) v) b x))))
    simp only [fsN, List.set] at e ⊢
    rw [e])
    (fun j hj => lt11 (Q := fun j => gbC G (sWy u.1 (up2 (mWy u.1) (11 * b) v x), u.2) j = gbC G u j) rfl rfl rfl rfl rfl rfl rfl rfl rfl rfl rfl j hj)
    (fun v' i' hv' hi' hne => ndC_congr hi' (fun hz => have h : v' ≠ v := fun q => hne ⟨q, hz⟩; fsN_congr (rfl) (rfl) (rfl) (pB_ne _ _ h) (rfl) (rfl) (rfl) (rfl) (rfl)) (fun _ _ => rfl) (fun _ b' => vB_prop _ _ _ _ _ _) (fun _ => rfl) (fun _ => rfl))
theorem cn_Kn (G : kG) (u : CS) {v : Nat} (hv : v < gn G) (b : Nat) (x : Bool) : (wC G u).set (11 + 5 * v) (gL G (11 + 5 * v), .inr (1, (fsN G u v).set 11 (.long (eL (va_up (xKn u.2 v) b x))))) = wC G (u.1, tKn u.2 (up2 (xKn u.2) v b x)) :=
  wC_setn (i := 0) hv (by decide) (by
    have e : xKn (u.1, tKn u.2 (up2 (xKn u.2) v b x)).2 v = va_up (xKn u.2 v) b x := up2_row _ _ _ _
    show (Sum.inr (1, fsN G (u.1, tKn u.2 (up2 (xKn u.2) v b x)) v) : va_E) = .inr (1, (fsN G u v).set 11 (.long (eL (va_up (xKn u.2 v) b x))))
    simp only [fsN, List.set] at e ⊢
    rw [e])
    (fun j hj => lt11 (Q := fun j => gbC G (u.1, tKn u.2 (up2 (xKn u.2) v b x)) j = gbC G u j) rfl rfl rfl rfl rfl rfl rfl rfl rfl rfl rfl j hj)
    (fun v' i' hv' hi' hne => ndC_congr hi' (fun hz => have h : v' ≠ v := fun q => hne ⟨q, hz⟩; fsN_congr (rfl) (rfl) (rfl) (rfl) (up2_rne _ _ _ h) (rfl) (rfl) (rfl) (rfl)) (fun _ _ => rfl) (fun _ _ => rfl) (fun _ => rfl) (fun _ => rfl))
theorem cn_No (G : kG) (u : CS) {v : Nat} (hv : v < gn G) (b : Nat) (x : Bool) : (wC G u).set (11 + 5 * v) (gL G (11 + 5 * v), .inr (1, (fsN G u v).set 12 (.long (eL (va_up (xNo u.2 v) b x))))) = wC G (u.1, tNo u.2 (up2 (xNo u.2) v b x)) :=
  wC_setn (i := 0) hv (by decide) (by
    have e : xNo (u.1, tNo u.2 (up2 (xNo u.2) v b x)).2 v = va_up (xNo u.2 v) b x := up2_row _ _ _ _
    show (Sum.inr (1, fsN G (u.1, tNo u.2 (up2 (xNo u.2) v b x)) v) : va_E) = .inr (1, (fsN G u v).set 12 (.long (eL (va_up (xNo u.2 v) b x))))
    simp only [fsN, List.set] at e ⊢
    rw [e])
    (fun j hj => lt11 (Q := fun j => gbC G (u.1, tNo u.2 (up2 (xNo u.2) v b x)) j = gbC G u j) rfl rfl rfl rfl rfl rfl rfl rfl rfl rfl rfl j hj)
    (fun v' i' hv' hi' hne => ndC_congr hi' (fun hz => have h : v' ≠ v := fun q => hne ⟨q, hz⟩; fsN_congr (rfl) (rfl) (rfl) (rfl) (rfl) (up2_rne _ _ _ h) (rfl) (rfl) (rfl)) (fun _ _ => rfl) (fun _ _ => rfl) (fun _ => rfl) (fun _ => rfl))
theorem cn_Fi (G : kG) (u : CS) {v : Nat} (hv : v < gn G) (f : Nat → Bool) : (wC G u).set (11 + 5 * v) (gL G (11 + 5 * v), .inr (1, (fsN G u v).set 13 (.long (eL f)))) = wC G (u.1, tFi u.2 (va_up (xFi u.2) v f)) :=
  wC_setn (i := 0) hv (by decide) (by
    have e : xFi (u.1, tFi u.2 (va_up (xFi u.2) v f)).2 v = f := va_up_self _ _ _
    show (Sum.inr (1, fsN G (u.1, tFi u.2 (va_up (xFi u.2) v f)) v) : va_E) = .inr (1, (fsN G u v).set 13 (.long (eL f)))
    simp only [fsN, List.set] at e ⊢
    rw [e])
    (fun j hj => lt11 (Q := fun j => gbC G (u.1, tFi u.2 (va_up (xFi u.2) v f)) j = gbC G u j) rfl rfl rfl rfl rfl rfl rfl rfl rfl rfl rfl j hj)
    (fun v' i' hv' hi' hne => ndC_congr hi' (fun hz => have h : v' ≠ v := fun q => hne ⟨q, hz⟩; fsN_congr (rfl) (rfl) (rfl) (rfl) (rfl) (rfl) (va_up_ne _ _ h) (rfl) (rfl)) (fun _ _ => rfl) (fun _ _ => rfl) (fun _ => rfl) (fun _ => rfl))
theorem cn_Tp (G : kG) (u : CS) {v : Nat} (hv : v < gn G) (x : Nat) : (wC G u).set (11 + 5 * v) (gL G (11 + 5 * v), .inr (1, (fsN G u v).set 14 (.int (nI x)))) = wC G (u.1, tTp u.2 (va_up (xTp u.2) v x)) :=
  wC_setn (i := 0) hv (by decide) (by
    have e : xTp (u.1, tTp u.2 (va_up (xTp u.2) v x)).2 v = x := va_up_self _ _ _
    show (Sum.inr (1, fsN G (u.1, tTp u.2 (va_up (xTp u.2) v x)) v) : va_E) = .inr (1, (fsN G u v).set 14 (.int (nI x)))
    simp only [fsN, List.set] at e ⊢
    rw [e])
    (fun j hj => lt11 (Q := fun j => gbC G (u.1, tTp u.2 (va_up (xTp u.2) v x)) j = gbC G u j) rfl rfl rfl rfl rfl rfl rfl rfl rfl rfl rfl j hj)
    (fun v' i' hv' hi' hne => ndC_congr hi' (fun hz => have h : v' ≠ v := fun q => hne ⟨q, hz⟩; fsN_congr (rfl) (rfl) (rfl) (rfl) (rfl) (rfl) (rfl) (va_up_ne _ _ h) (rfl)) (fun _ _ => rfl) (fun _ _ => rfl) (fun _ => rfl) (fun _ => rfl))
theorem cn_Hf (G : kG) (u : CS) {v : Nat} (hv : v < gn G) (x : Nat) : (wC G u).set (11 + 5 * v) (gL G (11 + 5 * v), .inr (1, (fsN G u v).set 15 (.int (nI x)))) = wC G (u.1, tHf u.2 (va_up (xHf u.2) v x)) :=
  wC_setn (i := 0) hv (by decide) (by
    have e : xHf (u.1, tHf u.2 (va_up (xHf u.2) v x)).2 v = x := va_up_self _ _ _
    show (Sum.inr (1, fsN G (u.1, tHf u.2 (va_up (xHf u.2) v x)) v) : va_E) = .inr (1, (fsN G u v).set 15 (.int (nI x)))
    simp only [fsN, List.set] at e ⊢
    rw [e])
    (fun j hj => lt11 (Q := fun j => gbC G (u.1, tHf u.2 (va_up (xHf u.2) v x)) j = gbC G u j) rfl rfl rfl rfl rfl rfl rfl rfl rfl rfl rfl j hj)
    (fun v' i' hv' hi' hne => ndC_congr hi' (fun hz => have h : v' ≠ v := fun q => hne ⟨q, hz⟩; fsN_congr (rfl) (rfl) (rfl) (rfl) (rfl) (rfl) (rfl) (rfl) (va_up_ne _ _ h)) (fun _ _ => rfl) (fun _ _ => rfl) (fun _ => rfl) (fun _ => rfl))
theorem cn_vo (G : kG) (u : CS) {v : Nat} (hv : v < gn G) {b x : Nat} (hx : x < 10) (y : Bool) : (wC G u).set (12 + 5 * v) (gL G (12 + 5 * v), .inl (gI G, 61, .inl (upd (fun b => eI (vB (mHs u.1) b v)) b (eI (va_up (vB (mHs u.1) b v) x y))))) = wC G (sHs u.1 (up2 (mHs u.1) (11 * b + 1 + x) v y), u.2) := by
  have h := wC_setn (G := G) (u := u) (u' := (sHs u.1 (up2 (mHs u.1) (11 * b + 1 + x) v y), u.2)) (i := 1) hv (by decide) (congrArg (fun f => (.inl (gI G, 61, .inl f) : va_E)) (upd_fn (g := fun b' => eI (vB (up2 (mHs u.1) (11 * b + 1 + x) v y) b' v)) (congrArg eI (vB_up _ y hx)) (fun j h => congrArg eI (vB_nb _ y hx h v))).symm)
    (fun j hj => lt11 (Q := fun j => gbC G (sHs u.1 (up2 (mHs u.1) (11 * b + 1 + x) v y), u.2) j = gbC G u j) rfl rfl rfl rfl rfl rfl rfl rfl rfl rfl rfl j hj)
    (fun v' i' hv' hi' hne => ndC_congr hi' (fun _ => fsN_congr rfl rfl (pB_vote _ y hx _) rfl rfl rfl rfl rfl rfl) (fun hz b' => vB_ne _ y (fun q => hne ⟨q, hz⟩) b') (fun _ _ => rfl) (fun _ => rfl) (fun _ => rfl))
  rw [show 11 + 5 * v + 1 = 12 + 5 * v by omega] at h
  exact h
theorem cn_vw (G : kG) (u : CS) {v : Nat} (hv : v < gn G) {b x : Nat} (hx : x < 10) (y : Bool) : (wC G u).set (13 + 5 * v) (gL G (13 + 5 * v), .inl (gI G, 61, .inl (upd (fun b => eI (vB (mWy u.1) b v)) b (eI (va_up (vB (mWy u.1) b v) x y))))) = wC G (sWy u.1 (up2 (mWy u.1) (11 * b + 1 + x) v y), u.2) := by
  have h := wC_setn (G := G) (u := u) (u' := (sWy u.1 (up2 (mWy u.1) (11 * b + 1 + x) v y), u.2)) (i := 2) hv (by decide) (congrArg (fun f => (.inl (gI G, 61, .inl f) : va_E)) (upd_fn (g := fun b' => eI (vB (up2 (mWy u.1) (11 * b + 1 + x) v y) b' v)) (congrArg eI (vB_up _ y hx)) (fun j h => congrArg eI (vB_nb _ y hx h v))).symm)
    (fun j hj => lt11 (Q := fun j => gbC G (sWy u.1 (up2 (mWy u.1) (11 * b + 1 + x) v y), u.2) j = gbC G u j) rfl rfl rfl rfl rfl rfl rfl rfl rfl rfl rfl j hj)
    (fun v' i' hv' hi' hne => ndC_congr hi' (fun _ => fsN_congr rfl rfl rfl (pB_vote _ y hx _) rfl rfl rfl rfl rfl) (fun _ _ => rfl) (fun hz b' => vB_ne _ y (fun q => hne ⟨q, hz⟩) b') (fun _ => rfl) (fun _ => rfl))
  rw [show 11 + 5 * v + 2 = 13 + 5 * v by omega] at h
  exact h
theorem cn_fc (G : kG) (u : CS) {v : Nat} (hv : v < gn G) (k y : Nat) : (wC G u).set (14 + 5 * v) (gL G (14 + 5 * v), .inl (gI G, 41, .inl (upd (fun e => oI (mFc u.1 v e)) k (oI y)))) = wC G (sFc u.1 (up2 (mFc u.1) v k y), u.2) := by
  have h := wC_setn (G := G) (u := u) (u' := (sFc u.1 (up2 (mFc u.1) v k y), u.2)) (i := 3) hv (by decide) (congrArg (fun f => (.inl (gI G, 41, .inl f) : va_E)) (upd_fn (g := fun e => oI (up2 (mFc u.1) v k y v e)) (f := fun e => oI (mFc u.1 v e)) (k := k) (x := oI y) (by simp [up2]) (fun j h => by simp [up2, h])).symm)
    (fun j hj => lt11 (Q := fun j => gbC G (sFc u.1 (up2 (mFc u.1) v k y), u.2) j = gbC G u j) rfl rfl rfl rfl rfl rfl rfl rfl rfl rfl rfl j hj)
    (fun v' i' hv' hi' hne => ndC_congr hi' (fun _ => rfl) (fun _ _ => rfl) (fun _ _ => rfl) (fun hz => up2_rne _ _ _ (fun q => hne ⟨q, hz⟩)) (fun _ => rfl))
  rw [show 11 + 5 * v + 3 = 14 + 5 * v by omega] at h
  exact h
theorem cn_vf (G : kG) (u : CS) {v : Nat} (hv : v < gn G) (k y : Nat) : (wC G u).set (15 + 5 * v) (gL G (15 + 5 * v), .inl (gI G, 41, .inl (upd (fun e => oI (mVf u.1 v e)) k (oI y)))) = wC G (sVf u.1 (up2 (mVf u.1) v k y), u.2) := by
  have h := wC_setn (G := G) (u := u) (u' := (sVf u.1 (up2 (mVf u.1) v k y), u.2)) (i := 4) hv (by decide) (congrArg (fun f => (.inl (gI G, 41, .inl f) : va_E)) (upd_fn (g := fun e => oI (up2 (mVf u.1) v k y v e)) (f := fun e => oI (mVf u.1 v e)) (k := k) (x := oI y) (by simp [up2]) (fun j h => by simp [up2, h])).symm)
    (fun j hj => lt11 (Q := fun j => gbC G (sVf u.1 (up2 (mVf u.1) v k y), u.2) j = gbC G u j) rfl rfl rfl rfl rfl rfl rfl rfl rfl rfl rfl j hj)
    (fun v' i' hv' hi' hne => ndC_congr hi' (fun _ => rfl) (fun _ _ => rfl) (fun _ _ => rfl) (fun _ => rfl) (fun hz => up2_rne _ _ _ (fun q => hne ⟨q, hz⟩)))
  rw [show 11 + 5 * v + 4 = 15 + 5 * v by omega] at h
  exact h
