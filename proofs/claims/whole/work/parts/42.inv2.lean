/-! after the pass: the equations hold with what the node has now -/
theorem judge_dv {n : Nat} {M N : MS} {X : XS} {v c : Nat} (hst : stat N = stat M) (hp : ∀ b, 0 < b → mPar M b < b) (hcE : chE M (xCh X)) (hh : htI M) (hc0 : 0 < c) (hcT : c < mT M)
    (hmono : ∀ l, mHs M l v = true → mHs N l v = true) (hoth : ∀ l, l / 11 ≠ c → mHs N l v = mHs M l v) (hd : dvV n M X v) :
    dvV n N (judge n N X v c) v ∧ xCh (judge n N X v c) = xCh X ∧ xCl (judge n N X v c) = xCl X ∧ ∀ w, w ≠ v → xKn (judge n N X v c) w = xKn X w ∧ xNo (judge n N X v c) w = xNo X w ∧ xFi (judge n N X v c) w = xFi X w ∧ xTp (judge n N X v c) w = xTp X w ∧ xHf (judge n N X v c) w = xHf X w := by
  have eT := stat_T hst
  have eP := stat_Par hst
  have hpN : ∀ b, 0 < b → mPar N b < b := by rw [eP]; exact hp
  have hcN : chE N (xCh X) := chE_st hst hcE
  have hhN : htI N := htI_st hst hh
  have hnv : ∀ b, nVo M b v ≤ nVo N b v := fun b => cnt_le_cnt 10 fun j _ hj => hmono _ hj
  have hnv2 : ∀ b, b ≠ c → nVo N b v = nVo M b v := fun b hb => cnt_congr fun j hj => hoth _ (by omega)
  obtain ⟨⟨d1, d2, d3, d4, d5⟩, dz⟩ := hd
  have oK : ∀ b, 0 < b → b < mT N → xKn X v b = true → mHs N (11 * b) v = true ∧ xKn X v (mPar N b) = true := by
    intro b hb hbT hk
    have h := d1 b (by omega)
    unfold knE at h
    rw [hk, decide_eq_false (by omega), Bool.false_or] at h
    have h := h.symm
    rw [Bool.and_eq_true] at h
    rw [eP]
    exact ⟨hmono _ h.1, h.2⟩
  have oN : ∀ b, 0 < b → b < mT N → xNo X v b = true → xKn X v b = true ∧ xNo X v (mPar N b) = true ∧ 2 * n ≤ 3 * nVo N b v := by
    intro b hb hbT hk
    have h := d2 b (by omega)
    unfold noE at h
    rw [hk, decide_eq_false (by omega), Bool.false_or] at h
    have h := h.symm
    rw [Bool.and_eq_true, Bool.and_eq_true, decide_eq_true_eq] at h
    rw [eP]
    have := hnv b
    exact ⟨h.1, h.2.1, by omega⟩
  have start : JI n N v X X c := by
    refine ⟨fun b hb => ?_, fun _ _ => rfl, fun _ h => h, fun b hb => ?_, fun _ _ => rfl, fun _ h => h, ?_, fun b hb => ?_, ?_, fun b hb => (dz b (by omega)).2.2, rfl, rfl, fun _ _ => ⟨rfl, rfl, rfl, rfl, rfl⟩⟩
    · unfold knE
      rw [hoth _ (by omega), eP]
      exact d1 b (by omega)
    · unfold noE
      rw [hnv2 b (by omega), eP]
      exact d2 b (by omega)
    · unfold tpE
      rw [better_st hst, eT]; exact d3
    · unfold fiE
      rw [isThree_st hst, eP, eT]; exact d4 b (by omega)
    · unfold hfE
      rw [betterF_st hst, eT]; exact d5
  have run : ∀ k, c + k ≤ mT N → JI n N v X (jFold n N v X c k) (c + k) := by
    intro k
    induction k with
    | zero => intro _; exact start
    | succ k ih =>
      intro hk
      exact ji_step hpN hcN hhN (by omega) (by omega) oK oN (ih (by omega))
  have fin := run (mT N - c) (by omega)
  rw [show c + (mT N - c) = mT N by omega] at fin
  obtain ⟨k1, k2, k3, n1, n2, n3, t1, f1, hf1, z1, c1, c2, fr⟩ := fin
  refine ⟨⟨⟨k1, n1, t1, ?_, hf1⟩, fun b hb => ⟨?_, ?_, z1 b hb⟩⟩, c1, c2, fr⟩
  · rw [show xCh (judge n N X v c) = xCh X from c1]; exact f1
  · rw [show xKn (judge n N X v c) v b = xKn X v b from k2 b hb]; exact (dz b (by omega)).1
  · rw [show xNo (judge n N X v c) v b = xNo X v b from n2 b hb]; exact (dz b (by omega)).2.1
theorem inv_par {G : kG} {u : CS} (h : Inv0 G u) : ∀ b, 0 < b → mPar u.1 b < b := h.1.2.2.2.2.2.2.1
/-- a state that differs in what doesn't matter -/
theorem Inv0_st {G : kG} {u w : CS} (h : Inv0 G u) (hX : w.2 = u.2) (hok : okC G w) (hst : stat w.1 = stat u.1) (hHs : mHs w.1 = mHs u.1) (hFc : mFc w.1 = mFc u.1) (hr : rngI (gn G) w.1) (hd : disI w.1) (ho : ownI w.1) (h2 : own2I (gn G) w.1) : Inv0 G w := by
  obtain ⟨-, -, -, -, f, e, -, t, c, l, d⟩ := h
  refine ⟨hok, hr, hd, ho, ?_, epI_st hst e, h2, htI_st hst t, ?_, ?_, fun v hv => ?_⟩
  · unfold fcI; rw [hFc, hHs, stat_Ep hst]; exact f
  · rw [hX]; exact chE_st hst c
  · rw [hX]; exact clI_st hst l
  · rw [hX]; exact dvV_st hst (fun l => by rw [hHs]) (d v hv)
/-- a letter gets under way -/
theorem Inv0_exp {G : kG} {u : CS} (h : Inv0 G u) {l o : Nat} (h1 : 11 ≤ l) (h2 : l < 11 * mT u.1) (h3 : l % 11 ≤ gn G) (ho : o < gn G) (hw : ∀ b x, x < 10 → l = 11 * b + 1 + x → mHs u.1 l x = true) : Inv0 G (mExp u.1 l o, u.2) := by
  have hk := h
  obtain ⟨k, r, d, ow, f, e, o2, -⟩ := hk
  unfold mExp
  split
  · rename_i hn
    have hn1 : mHs u.1 l o = false := by
      have : (mHs u.1 l o || mWy u.1 l o) = false := by simpa [newL] using hn
      rw [Bool.or_eq_false_iff] at this
      exact this.1
    refine Inv0_st h rfl k rfl rfl rfl ?_ ?_ ?_ o2
    · intro l' v' hq
      by_cases q : l' = l ∧ v' = o
      · rw [q.1, q.2]; exact ⟨h1, h2, ho, h3⟩
      · refine r l' v' (hq.imp id fun hq => ?_)
        have hq : up2 (mWy u.1) l o true l' v' = true := hq
        rwa [up2_ne _ _ q] at hq
    · intro l' v' hq
      show up2 (mWy u.1) l o true l' v' = false
      by_cases q : l' = l ∧ v' = o
      · rw [q.1, q.2] at hq
        rw [show mHs u.1 l o = true from hq] at hn1
        cases hn1
      · rw [up2_ne _ _ q]; exact d l' v' hq
    · intro b x o' hx hq
      by_cases q : 11 * b + 1 + x = l ∧ o' = o
      · show mHs u.1 (11 * b + 1 + x) x = true
        rw [q.1]; exact hw b x hx q.1.symm
      · refine ow b x o' hx (hq.imp id fun hq => ?_)
        have hq : up2 (mWy u.1) l o true (11 * b + 1 + x) o' = true := hq
        rwa [up2_ne _ _ q] at hq
  · exact h
theorem exp_hs (M : MS) (l v : Nat) : mHs (mExp M l v) = mHs M := by unfold mExp; split <;> rfl
theorem snd_hs (M : MS) (l : Nat) (to : Int32) (k : Nat) : mHs (sndM M l to k) = mHs M := by
  induction k with
  | zero => rfl
  | succ k ih => unfold sndM; split <;> first | (rw [exp_hs]; exact ih) | exact ih
theorem snd_C (M : MS) (l : Nat) (to : Int32) (k : Nat) : mC (sndM M l to k) = mC M := by
  induction k with
  | zero => rfl
  | succ k ih => unfold sndM; split <;> first | (unfold mExp; split <;> exact ih) | exact ih
theorem snd_Fc (M : MS) (l : Nat) (to : Int32) (k : Nat) : mFc (sndM M l to k) = mFc M := by
  induction k with
  | zero => rfl
  | succ k ih => unfold sndM; split <;> first | (unfold mExp; split <;> exact ih) | exact ih
theorem snd_Vf (M : MS) (l : Nat) (to : Int32) (k : Nat) : mVf (sndM M l to k) = mVf M := by
  induction k with
  | zero => rfl
  | succ k ih => unfold sndM; split <;> first | (unfold mExp; split <;> exact ih) | exact ih
theorem Inv0_snd {G : kG} {u : CS} (h : Inv0 G u) {l : Nat} (to : Int32) (h1 : 11 ≤ l) (h2 : l < 11 * mT u.1) (h3 : l % 11 ≤ gn G) (hw : ∀ b x, x < 10 → l = 11 * b + 1 + x → mHs u.1 l x = true) : ∀ k, k ≤ gn G → Inv0 G (sndM u.1 l to k, u.2) := by
  intro k
  induction k with
  | zero => intro _; exact h
  | succ k ih =>
    intro hk
    have hi := ih (by omega)
    unfold sndM
    split
    · exact Inv0_exp hi h1 (by show l < 11 * mT (sndM u.1 l to k); rw [stat_T (st_snd _ _ _ _)]; exact h2) h3 (by omega) (fun b x hx e => by show mHs (sndM u.1 l to k) l x = true; rw [snd_hs]; exact hw b x hx e)
    · exact hi
