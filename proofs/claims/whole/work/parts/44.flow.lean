/-! what is under way, and how many letters have come -/
theorem exp_wy (M : MS) (l v l' o' : Nat) : mWy (mExp M l v) l' o' = (mWy M l' o' || (decide (l' = l ∧ o' = v) && !(mHs M l v))) := by
  unfold mExp
  by_cases q : l' = l ∧ o' = v
  · rw [decide_eq_true q, q.1, q.2]
    split
    · rename_i h
      have h1 : (mHs M l v || mWy M l v) = false := by simpa [newL] using h
      rw [Bool.or_eq_false_iff] at h1
      show up2 (mWy M) l v true l v = _
      rw [up2_self, h1.1]; simp
    · rename_i h
      have h1 : (mHs M l v || mWy M l v) = true := by
        cases q : (mHs M l v || mWy M l v)
        · exact absurd (by rw [newL, q]; rfl) h
        · rfl
      cases hh : mHs M l v
      · rw [hh, Bool.false_or] at h1
        rw [h1]; rfl
      · simp
  · rw [decide_eq_false q, Bool.false_and, Bool.or_false]
    split
    · exact up2_ne _ _ q
    · rfl
theorem snd_wy (M : MS) (l : Nat) (to : Int32) (k l' o' : Nat) : mWy (sndM M l to k) l' o' = (mWy M l' o' || (decide (l' = l ∧ o' < k) && (tI to o' && !(mHs M l o')))) := by
  induction k with
  | zero => rw [decide_eq_false (by omega), Bool.false_and, Bool.or_false]; rfl
  | succ k ih =>
    unfold sndM
    split
    · rename_i ht
      rw [exp_wy, ih, snd_hs]
      by_cases q : l' = l ∧ o' = k
      · rw [decide_eq_true q, decide_eq_false (by omega), decide_eq_true (show l' = l ∧ o' < k + 1 by omega), q.2, ht]; simp
      · rw [decide_eq_false q, Bool.false_and, Bool.or_false]
        by_cases q2 : l' = l ∧ o' < k
        · rw [decide_eq_true q2, decide_eq_true (show l' = l ∧ o' < k + 1 by omega)]
        · rw [decide_eq_false q2, decide_eq_false (show ¬ (l' = l ∧ o' < k + 1) by omega)]
    · rename_i ht
      rw [ih]
      by_cases q : l' = l ∧ o' = k
      · rw [decide_eq_false (show ¬ (l' = l ∧ o' < k) by omega), q.2]; simp [ht]
      · by_cases q2 : l' = l ∧ o' < k
        · rw [decide_eq_true q2, decide_eq_true (show l' = l ∧ o' < k + 1 by omega)]
        · rw [decide_eq_false q2, decide_eq_false (show ¬ (l' = l ∧ o' < k + 1) by omega)]
theorem takeP_hs (n : Nat) (u : CS) (v b : Nat) : mHs (cTakeP n u v b).1 = up2 (mHs u.1) (11 * b) v true := by
  unfold cTakeP; split
  · exact haveP_hs _ _ _
  · show mHs (sndM _ _ _ _) = _
    rw [snd_hs]; exact haveP_hs _ _ _
theorem takeV_hs (n : Nat) (u : CS) (v x b : Nat) : mHs (cTakeV n u v x b).1 = up2 (mHs u.1) (11 * b + 1 + x) v true := by
  unfold cTakeV; split
  · rfl
  · show mHs (sndM _ _ _ _) = _
    rw [snd_hs]; rfl
theorem takeP_wy (n : Nat) (u : CS) (v b l' : Nat) : mWy (cTakeP n u v b).1 l' v = if l' = 11 * b then false else mWy u.1 l' v := by
  have e1 : mWy (cHaveP n u v b).1 l' v = if l' = 11 * b then false else mWy u.1 l' v := by
    show mWy (mHaveP u.1 v b) l' v = _
    rw [haveP_wy]
    split
    · rename_i q; rw [q, up2_self]
    · rename_i q; exact up2_ne _ _ (fun z => q z.1)
  unfold cTakeP; split
  · exact e1
  · show mWy (sndM (cHaveP n u v b).1 (11 * b) _ _) l' v = _
    rw [snd_wy, e1]
    have e2 : mHs (cHaveP n u v b).1 (11 * b) v = true := by show mHs (mHaveP u.1 v b) _ _ = _; rw [haveP_hs, up2_self]
    rw [e2]; simp
theorem takeV_wy (n : Nat) (u : CS) (v x b l' : Nat) : mWy (cTakeV n u v x b).1 l' v = if l' = 11 * b + 1 + x then false else mWy u.1 l' v := by
  have e1 : mWy (cHaveV n u v x b).1 l' v = if l' = 11 * b + 1 + x then false else mWy u.1 l' v := by
    show up2 (mWy u.1) (11 * b + 1 + x) v false l' v = _
    split
    · rename_i q; rw [q, up2_self]
    · rename_i q; exact up2_ne _ _ (fun z => q z.1)
  unfold cTakeV; split
  · exact e1
  · show mWy (sndM (cHaveV n u v x b).1 (11 * b + 1 + x) _ _) l' v = _
    rw [snd_wy, e1]
    have e2 : mHs (cHaveV n u v x b).1 (11 * b + 1 + x) v = true := by show up2 (mHs u.1) _ _ true _ _ = _; rw [up2_self]
    rw [e2]; simp
theorem look_wy {G : kG} {u : CS} (h : Inv0 G u) {v : Nat} (hv : v < gn G) (l' : Nat) : mWy (cLook (gn G) u v).1 l' v = mWy u.1 l' v := by
  unfold cLook; split
  · rfl
  · have hn10 := h.1.2.1
    show mWy (sndM (mHaveV (sG (sVf u.1 _) _) v v (cCh u v)) (11 * cCh u v + 1 + v) _ _) l' v = _
    rw [snd_wy]
    have e2 : mHs (mHaveV (sG (sVf u.1 (up2 (mVf u.1) v (mP u.1) (cCh u v))) (mG u.1 + 1)) v v (cCh u v)) (11 * cCh u v + 1 + v) v = true := by show up2 (mHs u.1) _ _ true _ _ = _; rw [up2_self]
    rw [e2]
    show (up2 (mWy u.1) (11 * cCh u v + 1 + v) v false l' v || _) = _
    by_cases q : l' = 11 * cCh u v + 1 + v
    · rw [q, up2_self]
      cases hw : mWy u.1 (11 * cCh u v + 1 + v) v
      · simp
      · exact absurd rfl (way_own h (show v < 10 by omega) hw).1
    · rw [up2_ne _ _ (fun z => q z.1)]; simp
theorem takeP_C (n : Nat) (u : CS) (v b : Nat) : mC (cTakeP n u v b).1 = mC u.1 := by
  unfold cTakeP; split
  · exact haveP_C _ _ _
  · show mC (sndM _ _ _ _) = _
    rw [snd_C]; exact haveP_C _ _ _
theorem takeV_C (n : Nat) (u : CS) (v x b : Nat) : mC (cTakeV n u v x b).1 = mC u.1 := by
  unfold cTakeV; split
  · rfl
  · show mC (sndM _ _ _ _) = _
    rw [snd_C]; rfl
theorem look_C (n : Nat) (u : CS) (v : Nat) : mC (cLook n u v).1 = mC u.1 := by
  unfold cLook; split
  · rfl
  · show mC (sndM _ _ _ _) = _
    rw [snd_C]; rfl
/-! how many letters are had -/
theorem hc_mono {M N : MS} (h : ∀ l v, mHs M l v = true → mHs N l v = true) : hc M ≤ hc N := cnt_le_cnt _ fun j _ hj => h _ _ hj
theorem hc_up {M N : MS} {l v : Nat} (hN : mHs N = up2 (mHs M) l v true) (h0 : mHs M l v = false) (h1 : 11 ≤ l) (h2 : l < 671) (hv : v < 10) : hc N = hc M + 1 := by
  refine cnt_pt (k := 10 * (l - 11) + v) ?_ ?_ (fun j hj => ?_) _ (by omega)
  · show mHs M (11 + (10 * (l - 11) + v) / 10) ((10 * (l - 11) + v) % 10) = false
    rw [show 11 + (10 * (l - 11) + v) / 10 = l by omega, show (10 * (l - 11) + v) % 10 = v by omega]; exact h0
  · show mHs N (11 + (10 * (l - 11) + v) / 10) ((10 * (l - 11) + v) % 10) = true
    rw [show 11 + (10 * (l - 11) + v) / 10 = l by omega, show (10 * (l - 11) + v) % 10 = v by omega, hN, up2_self]
  · show mHs N (11 + j / 10) (j % 10) = mHs M (11 + j / 10) (j % 10)
    rw [hN, up2_ne _ _ (by omega)]
theorem up2_mono {f : Nat → Nat → Bool} {l v : Nat} (l' v' : Nat) (h : f l' v' = true) : up2 f l v true l' v' = true := by
  by_cases q : l' = l ∧ v' = v
  · rw [q.1, q.2, up2_self]
  · rw [up2_ne _ _ q]; exact h
theorem look_hs_mono (n : Nat) (u : CS) (v : Nat) (l' v' : Nat) (h : mHs u.1 l' v' = true) : mHs (cLook n u v).1 l' v' = true := by
  unfold cLook; split
  · exact h
  · show mHs (sndM _ _ _ _) l' v' = true
    rw [snd_hs]
    exact up2_mono l' v' h
theorem letP_K {G : kG} {u : CS} (h : Inv0 G u) (hK : mC u.1 ≤ hc u.1) {v b : Nat} (hv : v < gn G) (hb0 : 0 < b) (hbT : b < mT u.1) (hw : mWy u.1 (11 * b) v = true) : mC (cLetP (gn G) u v b).1 ≤ hc (cLetP (gn G) u v b).1 := by
  have hn10 := h.1.2.1
  have h61 := h.1.2.2.2.1
  have h0 : mHs u.1 (11 * b) v = false := by
    cases q : mHs u.1 (11 * b) v
    · rfl
    · rw [h.2.2.1 _ _ q] at hw; cases hw
  unfold cLetP
  rw [look_C, takeP_C]
  have h1 := hc_up (M := u.1) (N := (cTakeP (gn G) (cUp u) v b).1) (takeP_hs (gn G) (cUp u) v b) h0 (by omega) (by omega) (by omega)
  have h2 := hc_mono (look_hs_mono (gn G) (cTakeP (gn G) (cUp u) v b) v)
  show mC u.1 + 1 ≤ _
  omega
theorem letV_K {G : kG} {u : CS} (h : Inv0 G u) (hK : mC u.1 ≤ hc u.1) {v x b : Nat} (hv : v < gn G) (hx : x < gn G) (hb0 : 0 < b) (hbT : b < mT u.1) (hw : mWy u.1 (11 * b + 1 + x) v = true) : mC (cLetV (gn G) u v x b).1 ≤ hc (cLetV (gn G) u v x b).1 := by
  have hn10 := h.1.2.1
  have h61 := h.1.2.2.2.1
  have h0 : mHs u.1 (11 * b + 1 + x) v = false := by
    cases q : mHs u.1 (11 * b + 1 + x) v
    · rfl
    · rw [h.2.2.1 _ _ q] at hw; cases hw
  unfold cLetV
  rw [look_C, takeV_C]
  have h1 := hc_up (M := u.1) (N := (cTakeV (gn G) (cUp u) v x b).1) (takeV_hs (gn G) (cUp u) v x b) h0 (by omega) (by omega) (by omega)
  have h2 := hc_mono (look_hs_mono (gn G) (cTakeV (gn G) (cUp u) v x b) v)
  show mC u.1 + 1 ≤ _
  omega
/-! a flow, letter by letter -/
def stepL (n v : Nat) (u : CS) (l : Nat) : CS := if mWy u.1 l v then (if l % 11 = 0 then cLetP n u v (l / 11) else cLetV n u v (l % 11 - 1) (l / 11)) else u
def flL (n v : Nat) (u : CS) : Nat → CS
  | 0 => u
  | k + 1 => stepL n v (flL n v u k) k
theorem st_step (n v : Nat) (u : CS) (l : Nat) : stat (stepL n v u l).1 = stat u.1 := by
  unfold stepL; split
  · split
    · exact st_letP _ _ _ _
    · exact st_letV _ _ _ _ _
  · rfl
theorem st_flL (n v : Nat) (u : CS) (k : Nat) : stat (flL n v u k).1 = stat u.1 := by
  induction k with
  | zero => rfl
  | succ k ih => unfold flL; rw [st_step]; exact ih
theorem step_inv {G : kG} {u : CS} (h : Inv G u) {v : Nat} (hv : v < gn G) (l : Nat) : Inv G (stepL (gn G) v u l) := by
  unfold stepL
  split
  · rename_i hw
    obtain ⟨r1, r2, -, r4⟩ := h.1.2.1 l v (Or.inr hw)
    split
    · rename_i e
      have e2 : 11 * (l / 11) = l := by omega
      refine ⟨Inv0_letP h.1 hv (by omega) (by omega), letP_K h.1 h.2 hv (by omega) (by omega) (by rw [e2]; exact hw)⟩
    · rename_i e
      have e2 : 11 * (l / 11) + 1 + (l % 11 - 1) = l := by omega
      refine ⟨Inv0_letV h.1 hv (by omega) (by omega) (by omega) (by rw [e2]; exact hw), letV_K h.1 h.2 hv (by omega) (by omega) (by omega) (by rw [e2]; exact hw)⟩
  · exact h
theorem step_wy {G : kG} {u : CS} (h : Inv0 G u) {v : Nat} (hv : v < gn G) (l l' : Nat) : mWy (stepL (gn G) v u l).1 l' v = if l' = l then false else mWy u.1 l' v := by
  unfold stepL
  split
  · rename_i hw
    obtain ⟨r1, r2, -, r4⟩ := h.2.1 l v (Or.inr hw)
    split
    · rename_i e
      have e2 : 11 * (l / 11) = l := by omega
      unfold cLetP
      rw [look_wy (Inv0_takeP (Inv0_up h) hv (show 0 < l / 11 by omega) (show l / 11 < mT u.1 by omega)) hv, takeP_wy, e2]; rfl
    · rename_i e
      have e2 : 11 * (l / 11) + 1 + (l % 11 - 1) = l := by omega
      have hn10 := h.1.2.1
      have ho := way_own h (show l % 11 - 1 < 10 by omega) (by rw [e2]; exact hw)
      unfold cLetV
      rw [look_wy (Inv0_takeV (Inv0_up h) hv (show l % 11 - 1 < gn G by omega) (show 0 < l / 11 by omega) (show l / 11 < mT u.1 by omega) (Or.inr ho.2) (fun e => absurd e ho.1)) hv, takeV_wy, e2]; rfl
  · rename_i hw
    split
    · rename_i q; rw [q]; simpa using hw
    · rfl
theorem step_C (n v : Nat) (u : CS) (l : Nat) : mC (stepL n v u l).1 = mC u.1 + (if mWy u.1 l v then 1 else 0) := by
  unfold stepL
  split
  · split
    · unfold cLetP; rw [look_C, takeP_C]; rfl
    · unfold cLetV; rw [look_C, takeV_C]; rfl
  · rfl
theorem flL_inv {G : kG} {u : CS} (h : Inv G u) {v : Nat} (hv : v < gn G) (k : Nat) : Inv G (flL (gn G) v u k) := by
  induction k with
  | zero => exact h
  | succ k ih => exact step_inv ih hv k
theorem flL_wy {G : kG} {u : CS} (h : Inv G u) {v : Nat} (hv : v < gn G) (k l' : Nat) : mWy (flL (gn G) v u k).1 l' v = if l' < k then false else mWy u.1 l' v := by
  induction k with
  | zero => rfl
  | succ k ih =>
    show mWy (stepL (gn G) v (flL (gn G) v u k) k).1 l' v = _
    rw [step_wy (flL_inv h hv k).1 hv, ih]
    by_cases q : l' = k
    · rw [if_pos q, if_pos (by omega)]
    · rw [if_neg q]
      by_cases q2 : l' < k
      · rw [if_pos q2, if_pos (by omega)]
      · rw [if_neg q2, if_neg (by omega)]
theorem step_none (n v : Nat) (u : CS) (l : Nat) (h : mWy u.1 l v = false) : stepL n v u l = u := by unfold stepL; rw [if_neg (by rw [h]; decide)]
theorem flL_fB {G : kG} {u : CS} (h : Inv G u) {v : Nat} (hv : v < gn G) : ∀ k, k < mT u.1 → flL (gn G) v u (11 * (k + 1)) = fB (gn G) v u k := by
  have hn10 := h.1.1.2.1
  intro k
  induction k with
  | zero =>
    intro _
    have low : ∀ j, j ≤ 11 → flL (gn G) v u j = u := by
      intro j
      induction j with
      | zero => intro _; rfl
      | succ j ih =>
        intro hj
        show stepL (gn G) v (flL (gn G) v u j) j = u
        rw [ih (by omega)]
        refine step_none _ _ _ _ ?_
        cases q : mWy u.1 j v
        · rfl
        · have := (h.1.2.1 j v (Or.inr q)).1; omega
    exact low 11 (Nat.le_refl _)
  | succ k ih =>
    intro hk
    have hi := ih (by omega)
    have hP : flL (gn G) v u (11 * (k + 1) + 1) = fP (gn G) v (k + 1) (fB (gn G) v u k) := by
      show stepL (gn G) v (flL (gn G) v u (11 * (k + 1))) (11 * (k + 1)) = _
      rw [hi]
      unfold stepL fP
      rw [if_pos (show 11 * (k + 1) % 11 = 0 by omega), show 11 * (k + 1) / 11 = k + 1 by omega]
    have hV : ∀ x, x ≤ gn G → flL (gn G) v u (11 * (k + 1) + 1 + x) = fV (gn G) v (k + 1) (fP (gn G) v (k + 1) (fB (gn G) v u k)) x := by
      intro x
      induction x with
      | zero => intro _; exact hP
      | succ x ihx =>
        intro hx
        show stepL (gn G) v (flL (gn G) v u (11 * (k + 1) + 1 + x)) (11 * (k + 1) + 1 + x) = _
        rw [ihx (by omega)]
        unfold stepL
        rw [fV, if_neg (show ¬ (11 * (k + 1) + 1 + x) % 11 = 0 by omega), show (11 * (k + 1) + 1 + x) % 11 - 1 = x by omega, show (11 * (k + 1) + 1 + x) / 11 = k + 1 by omega]
    have hR : ∀ y, gn G + y ≤ 10 → flL (gn G) v u (11 * (k + 1) + 1 + (gn G + y)) = fV (gn G) v (k + 1) (fP (gn G) v (k + 1) (fB (gn G) v u k)) (gn G) := by
      intro y
      induction y with
      | zero => intro _; exact hV _ (Nat.le_refl _)
      | succ y ihy =>
        intro hy
        show stepL (gn G) v (flL (gn G) v u (11 * (k + 1) + 1 + (gn G + y))) (11 * (k + 1) + 1 + (gn G + y)) = _
        rw [ihy (by omega), ← hV _ (Nat.le_refl _)]
        refine step_none _ _ _ _ ?_
        have hI := flL_inv h hv (11 * (k + 1) + 1 + gn G)
        cases q : mWy (flL (gn G) v u (11 * (k + 1) + 1 + gn G)).1 (11 * (k + 1) + 1 + (gn G + y)) v
        · rfl
        · have := (hI.1.2.1 _ v (Or.inr q)).2.2.2; omega
    have := hR (10 - gn G) (by omega)
    rw [show 11 * (k + 1) + 1 + (gn G + (10 - gn G)) = 11 * (k + 1 + 1) by omega] at this
    exact this
theorem flow_eq {G : kG} {u : CS} (h : Inv G u) {v : Nat} (hv : v < gn G) : cFlow (gn G) u v = flL (gn G) v u (11 * mT u.1) := by
  have h1 := h.1.1.2.2.1
  have := flL_fB h hv (mT u.1 - 1) (by omega)
  rw [show mT u.1 - 1 + 1 = mT u.1 by omega] at this
  exact this.symm
theorem flow_inv {G : kG} {u : CS} (h : Inv G u) {v : Nat} (hv : v < gn G) : Inv G (cFlow (gn G) u v) := by rw [flow_eq h hv]; exact flL_inv h hv _
theorem flL_C_le (n v : Nat) (u : CS) (k : Nat) : mC u.1 ≤ mC (flL n v u k).1 := by
  induction k with
  | zero => exact Nat.le_refl _
  | succ k ih => show _ ≤ mC (stepL n v (flL n v u k) k).1; rw [step_C]; omega
theorem flL_same {G : kG} {u : CS} (h : Inv G u) {v : Nat} (hv : v < gn G) : ∀ k, mC (flL (gn G) v u k).1 = mC u.1 → flL (gn G) v u k = u ∧ ∀ l, l < k → mWy u.1 l v = false := by
  intro k
  induction k with
  | zero => intro _; exact ⟨rfl, fun l hl => absurd hl (Nat.not_lt_zero _)⟩
  | succ k ih =>
    intro hC
    have hC : mC (stepL (gn G) v (flL (gn G) v u k) k).1 = mC u.1 := hC
    rw [step_C] at hC
    have h1 := flL_C_le (gn G) v u k
    cases q : mWy (flL (gn G) v u k).1 k v
    · rw [q] at hC
      have hi := ih (by simpa using hC)
      refine ⟨?_, fun l hl => ?_⟩
      · show stepL (gn G) v (flL (gn G) v u k) k = u
        rw [step_none _ _ _ _ q]; exact hi.1
      · rcases Nat.lt_or_ge l k with z | z
        · exact hi.2 l z
        · rw [show l = k by omega]
          rw [hi.1] at q; exact q
    · rw [q] at hC
      simp at hC
      omega
theorem flL_id {n v : Nat} {u : CS} : ∀ k, (∀ l, l < k → mWy u.1 l v = false) → flL n v u k = u := by
  intro k
  induction k with
  | zero => intro _; rfl
  | succ k ih =>
    intro hq
    show stepL n v (flL n v u k) k = u
    rw [ih fun l hl => hq l (by omega)]
    exact step_none _ _ _ _ (hq k (by omega))
theorem rnd_inv {G : kG} {u : CS} (h : Inv G u) : ∀ k, k ≤ gn G → Inv G (rnd (gn G) u k) := by
  intro k
  induction k with
  | zero => intro _; exact h
  | succ k ih => intro hk; exact flow_inv (ih (by omega)) (by omega)
theorem rnd_C_le {G : kG} {u : CS} (h : Inv G u) : ∀ k, k ≤ gn G → mC u.1 ≤ mC (rnd (gn G) u k).1 := by
  intro k
  induction k with
  | zero => intro _; exact Nat.le_refl _
  | succ k ih =>
    intro hk
    have h1 := ih (by omega)
    show _ ≤ mC (cFlow (gn G) (rnd (gn G) u k) k).1
    rw [flow_eq (rnd_inv h k (by omega)) (by omega)]
    have := flL_C_le (gn G) k (rnd (gn G) u k) (11 * mT (rnd (gn G) u k).1)
    omega
theorem rnd_same {G : kG} {u : CS} (h : Inv G u) : ∀ k, k ≤ gn G → mC (rnd (gn G) u k).1 = mC u.1 → rnd (gn G) u k = u ∧ ∀ v, v < k → ∀ l, l < 11 * mT u.1 → mWy u.1 l v = false := by
  intro k
  induction k with
  | zero => intro _ _; exact ⟨rfl, fun v hv => absurd hv (Nat.not_lt_zero _)⟩
  | succ k ih =>
    intro hk hC
    have hi0 := rnd_inv h k (by omega)
    have h1 := rnd_C_le h k (by omega)
    have hC : mC (cFlow (gn G) (rnd (gn G) u k) k).1 = mC u.1 := hC
    rw [flow_eq hi0 (by omega)] at hC
    have h2 := flL_C_le (gn G) k (rnd (gn G) u k) (11 * mT (rnd (gn G) u k).1)
    have hi := ih (by omega) (by omega)
    rw [hi.1] at hC
    have hs := flL_same h (show k < gn G by omega) _ hC
    refine ⟨?_, fun v hv l hl => ?_⟩
    · show cFlow (gn G) (rnd (gn G) u k) k = u
      rw [hi.1, flow_eq h (by omega)]; exact hs.1
    · rcases Nat.lt_or_ge v k with z | z
      · exact hi.2 v z l hl
      · rw [show v = k by omega]; exact hs.2 l hl
theorem rnd_id {G : kG} {u : CS} (h : Inv G u) (hz : ∀ v, v < gn G → ∀ l, l < 11 * mT u.1 → mWy u.1 l v = false) : ∀ k, k ≤ gn G → rnd (gn G) u k = u := by
  intro k
  induction k with
  | zero => intro _; rfl
  | succ k ih =>
    intro hk
    show cFlow (gn G) (rnd (gn G) u k) k = u
    rw [ih (by omega), flow_eq h (by omega)]
    exact flL_id _ (hz k (by omega))
theorem cnt_zero {f : Nat → Bool} {k : Nat} : cnt f k = 0 ↔ ∀ j, j < k → f j = false := by
  induction k with
  | zero => exact ⟨fun _ j hj => absurd hj (Nat.not_lt_zero _), fun _ => rfl⟩
  | succ k ih =>
    constructor
    · intro h j hj
      simp only [cnt] at h
      cases q : f k
      · rw [q] at h
        rcases Nat.lt_or_ge j k with z | z
        · exact ih.mp (by simpa using h) j z
        · rw [show j = k by omega]; exact q
      · rw [q] at h; simp at h
    · intro h
      simp only [cnt, h k (by omega)]
      rw [ih.mpr fun j hj => h j (by omega)]
      rfl
theorem uwB_zero {M : MS} {v k : Nat} : uwB M v k = 0 ↔ ∀ b, b < k → ∀ x, x < 10 → mWy M (11 * b + 1 + x) v = false := by
  induction k with
  | zero => exact ⟨fun _ j hj => absurd hj (Nat.not_lt_zero _), fun _ => rfl⟩
  | succ k ih =>
    unfold uwB
    constructor
    · intro h b hb
      rcases Nat.lt_or_ge b k with z | z
      · exact ih.mp (by omega) b z
      · rw [show b = k by omega]
        exact cnt_zero.mp (show cnt (fun x => mWy M (11 * k + 1 + x) v) 10 = 0 by omega)
    · intro h
      have h1 := ih.mpr fun b hb => h b (by omega)
      have h2 : cnt (fun x => mWy M (11 * k + 1 + x) v) 10 = 0 := cnt_zero.mpr (h k (by omega))
      omega
theorem uwN_zero {M : MS} {k : Nat} : uwN M k = 0 ↔ ∀ v, v < k → (∀ b, b < 64 → mWy M (11 * b) v = false) ∧ ∀ b, b < mT M → ∀ x, x < 10 → mWy M (11 * b + 1 + x) v = false := by
  induction k with
  | zero => exact ⟨fun _ j hj => absurd hj (Nat.not_lt_zero _), fun _ => rfl⟩
  | succ k ih =>
    unfold uwN
    constructor
    · intro h v hv
      rcases Nat.lt_or_ge v k with z | z
      · exact ih.mp (by omega) v z
      · rw [show v = k by omega]
        exact ⟨cnt_zero.mp (show cnt (pB (mWy M) k) 64 = 0 by omega), uwB_zero.mp (by omega)⟩
    · intro h
      have h1 := ih.mpr fun b hb => h b (by omega)
      have h2 : cnt (pB (mWy M) k) 64 = 0 := cnt_zero.mpr (h k (by omega)).1
      have h3 := uwB_zero.mpr (h k (by omega)).2
      omega
theorem uw_wy {G : kG} {u : CS} (h : Inv0 G u) : uwN u.1 (gn G) = 0 ↔ ∀ v, v < gn G → ∀ l, l < 11 * mT u.1 → mWy u.1 l v = false := by
  have h61 := h.1.2.2.2.1
  rw [uwN_zero]
  constructor
  · intro hz v hv l hl
    by_cases e : l % 11 = 0
    · rw [show l = 11 * (l / 11) by omega]
      exact (hz v hv).1 _ (by omega)
    · rw [show l = 11 * (l / 11) + 1 + (l % 11 - 1) by omega]
      exact (hz v hv).2 _ (by omega) _ (by omega)
  · intro hz v hv
    refine ⟨fun b hb => ?_, fun b hb x hx => hz v hv _ (by omega)⟩
    cases q : mWy u.1 (11 * b) v
    · rfl
    · have := (h.2.1 _ v (Or.inr q)).2.1
      rw [hz v hv _ this] at q; cases q
theorem stl_inv {G : kG} {u : CS} (h : Inv G u) (k : Nat) : Inv G (stl (gn G) u k) := by
  induction k with
  | zero => exact h
  | succ k ih =>
    unfold stl; split
    · exact ih
    · exact rnd_inv ih _ (Nat.le_refl _)
