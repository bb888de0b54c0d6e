/-! the reference's own numbers, and how its steps are the class's -/
def InvY (n : Nat) (M : MS) (Y : YS) : Prop := yCm Y ≤ hc M ∧ (∀ b v, yCa Y b v ≤ yCm Y) ∧ ∀ v b, v < n → mHs M (11 * b) v = true → b ≠ mFc M v (mEp M b) → yCa Y (mFc M v (mEp M b)) v < yCa Y b v
theorem okR_of {G : kG} {u : CS} (h : okC G u) (Y : YS) : okR G (u.1, Y) := by
  obtain ⟨a1, a2, a3, a4, a5, a6, a7, a8, a9, a10, a11, a12, a13⟩ := h
  exact ⟨⟨a1, a2⟩, ⟨a3, a4⟩, a5, a6, a7, a8, a9, a11⟩
theorem inv_rn {G : kG} {u : CS} (h : Inv0 G u) (v : Nat) : ∀ b x, gn G ≤ x → x < 10 → mHs u.1 (11 * b + 1 + x) v = false := by
  intro b x hx hx10
  cases q : mHs u.1 (11 * b + 1 + x) v
  · rfl
  · have := (h.2.1 _ _ (Or.inl q)).2.2.2; omega
theorem wyA_wy (M : MS) (l k l' o' : Nat) : mWy (wyA M l k) l' o' = if l' = l ∧ o' < k then !(mHs M l o') else mWy M l' o' := by
  induction k with
  | zero => rw [if_neg (by omega)]; rfl
  | succ k ih =>
    show up2 (mWy (wyA M l k)) l k (!(mHs M l k)) l' o' = _
    by_cases q : l' = l ∧ o' = k
    · rw [q.1, q.2, up2_self, if_pos (by omega)]
    · rw [up2_ne _ _ q, ih]
      by_cases q2 : l' = l ∧ o' < k
      · rw [if_pos q2, if_pos (by omega)]
      · rw [if_neg q2, if_neg (by omega)]
theorem ms_ext {M N : MS} (hs : stat M = stat N) (hG : mG M = mG N) (hC : mC M = mC N) (hH : mHs M = mHs N) (hW : mWy M = mWy N) (hF : mFc M = mFc N) (hV : mVf M = mVf N) : M = N := by
  obtain ⟨a1, a2, a3, a4, a5, a6, a7, a8, a9, a10, a11, a12, a13, a14, a15, a16⟩ := M
  obtain ⟨b1, b2, b3, b4, b5, b6, b7, b8, b9, b10, b11, b12, b13, b14, b15, b16⟩ := N
  have e1 : a1 = b1 := stat_T hs
  have e2 : a2 = b2 := stat_P hs
  have e3 : a3 = b3 := hG
  have e4 : a4 = b4 := hC
  have e5 : a5 = b5 := stat_Ld hs
  have e6 : a6 = b6 := stat_Par hs
  have e7 : a7 = b7 := stat_Ep hs
  have e8 : a8 = b8 := stat_Lo hs
  have e9 : a9 = b9 := stat_Ht hs
  have e10 : a10 = b10 := stat_Mk hs
  have e11 : a11 = b11 := stat_Fa hs
  have e12 : a12 = b12 := stat_Wi hs
  have e13 : a13 = b13 := hH
  have e14 : a14 = b14 := hW
  have e15 : a15 = b15 := hF
  have e16 : a16 = b16 := hV
  subst e1 e2 e3 e4 e5 e6 e7 e8 e9 e10 e11 e12 e13 e14 e15 e16
  rfl
theorem wyA_G (M : MS) (l k : Nat) : mG (wyA M l k) = mG M := by
  induction k with
  | zero => rfl
  | succ k ih => exact ih
theorem wyA_C (M : MS) (l k : Nat) : mC (wyA M l k) = mC M := by
  induction k with
  | zero => rfl
  | succ k ih => exact ih
theorem wyA_Fc (M : MS) (l k : Nat) : mFc (wyA M l k) = mFc M := by
  induction k with
  | zero => rfl
  | succ k ih => exact ih
theorem exp_G (M : MS) (l v : Nat) : mG (mExp M l v) = mG M := by unfold mExp; split <;> rfl
theorem snd_G (M : MS) (l : Nat) (to : Int32) (k : Nat) : mG (sndM M l to k) = mG M := by
  induction k with
  | zero => rfl
  | succ k ih => unfold sndM; split <;> first | (rw [exp_G]; exact ih) | exact ih
theorem snd_all {n : Nat} (hn : n ≤ 10) {M : MS} {l : Nat} (hd : ∀ o, mHs M l o = true → mWy M l o = false) : sndM M l (nI (2 ^ n - 1)) n = wyA M l n := by
  refine ms_ext ?_ ?_ ?_ ?_ ?_ ?_ ?_
  · rw [st_snd, st_wyA]
  · rw [snd_G, wyA_G]
  · rw [snd_C, wyA_C]
  · rw [snd_hs, wyA_hs]
  · funext l' o'
    rw [snd_wy, wyA_wy]
    by_cases q : l' = l ∧ o' < n
    · rw [if_pos q, decide_eq_true q, all_n n hn o' q.2, q.1]
      cases hq : mHs M l o'
      · simp
      · rw [hd o' hq]; rfl
    · rw [if_neg q, decide_eq_false q]; simp
  · rw [snd_Fc, wyA_Fc]
  · rw [snd_Vf, wyA_vf]
theorem takeV_gn {n : Nat} (hn : n ≤ 10) {u : CS} (hd : disI u.1) (v x b : Nat) : (cTakeV n u v x b).1 = gnM n u.1 (11 * b + 1 + x) v := by
  unfold cTakeV gnM
  split
  · rfl
  · exact snd_all hn (fun o ho => by
      have ho : up2 (mHs u.1) (11 * b + 1 + x) v true (11 * b + 1 + x) o = true := ho
      show up2 (mWy u.1) (11 * b + 1 + x) v false (11 * b + 1 + x) o = false
      by_cases q : o = v
      · rw [q, up2_self]
      · rw [up2_ne _ _ (fun z => q z.2)] at ho ⊢
        exact hd _ _ ho)
theorem gnB_P (M : MS) (v b : Nat) : mHaveP M v b = sFc (gnB M (11 * b) v) (mFc (mHaveP M v b)) := by
  refine ms_ext ?_ ?_ ?_ ?_ ?_ rfl ?_
  · rw [st_haveP]; rfl
  · rw [haveP_G]; rfl
  · rw [haveP_C]; rfl
  · rw [haveP_hs]; rfl
  · rw [haveP_wy]; rfl
  · rw [haveP_vf]; rfl
theorem takeP_gn {n : Nat} (hn : n ≤ 10) {u : CS} (hd : disI u.1) (v b : Nat) : (cTakeP n u v b).1 = sFc (gnM n u.1 (11 * b) v) (mFc (cTakeP n u v b).1) := by
  unfold cTakeP gnM
  split
  · exact gnB_P u.1 v b
  · have e1 : sndM (mHaveP u.1 v b) (11 * b) (nI (2 ^ n - 1)) n = wyA (mHaveP u.1 v b) (11 * b) n := snd_all hn (fun o ho => by
      rw [haveP_hs] at ho
      rw [haveP_wy]
      by_cases q : o = v
      · rw [q, up2_self]
      · rw [up2_ne _ _ (fun z => q z.2)] at ho ⊢
        exact hd _ _ ho)
    show sndM (mHaveP u.1 v b) (11 * b) _ n = sFc _ (mFc (sndM (mHaveP u.1 v b) (11 * b) _ n))
    rw [e1]
    refine ms_ext ?_ ?_ ?_ ?_ ?_ rfl ?_
    · rw [st_wyA, st_haveP]
      show _ = stat (wyA _ _ _)
      rw [st_wyA]; rfl
    · rw [wyA_G, haveP_G]
      show _ = mG (wyA _ _ _)
      rw [wyA_G]; rfl
    · rw [wyA_C, haveP_C]
      show _ = mC (wyA _ _ _)
      rw [wyA_C]; rfl
    · rw [wyA_hs, haveP_hs]
      show _ = mHs (wyA _ _ _)
      rw [wyA_hs]; rfl
    · funext l' o'
      show _ = mWy (wyA _ _ _) l' o'
      rw [wyA_wy, wyA_wy, haveP_hs, haveP_wy]; rfl
    · rw [wyA_vf, haveP_vf]
      show _ = mVf (wyA _ _ _)
      rw [wyA_vf]; rfl
theorem wR_fc (G : kG) (M : MS) (Y : YS) (f : Nat → Nat → Nat) : wR G (sFc M f, Y) = wR G (M, Y) := rfl
theorem takeP_Fc (n : Nat) (u : CS) (v b : Nat) : mFc (cTakeP n u v b).1 = mFc (mHaveP u.1 v b) := by
  unfold cTakeP; split
  · rfl
  · exact snd_Fc _ _ _ _
theorem takeV_Fc (n : Nat) (u : CS) (v x b : Nat) : mFc (cTakeV n u v x b).1 = mFc u.1 := by
  unfold cTakeV; split
  · rfl
  · exact snd_Fc _ _ _ _
/-- a proposal that was not had -/
theorem InvY_takeP {G : kG} {u : CS} (h : Inv0 G u) {Y : YS} (hY : InvY (gn G) u.1 Y) {v b : Nat} (hv : v < gn G) (hb0 : 0 < b) (hbT : b < mT u.1) (h0 : mHs u.1 (11 * b) v = false) : InvY (gn G) (cTakeP (gn G) u v b).1 (gnY Y (11 * b) v) := by
  have hn10 := h.1.2.1
  have h61 := h.1.2.2.2.1
  obtain ⟨y1, y2, y3⟩ := hY
  obtain ⟨f1, f2⟩ := h.2.2.2.2.1
  have e1 := hc_up (M := u.1) (N := (cTakeP (gn G) u v b).1) (takeP_hs (gn G) u v b) h0 (by omega) (by omega) (by omega)
  have eY : gnY Y (11 * b) v = wCa (wCm Y (yCm Y + 1)) (up2 (yCa Y) b v (yCm Y + 1)) := by
    unfold gnY
    rw [if_pos (by omega), show 11 * b / 11 = b by omega]
  rw [eY]
  refine ⟨?_, fun b' v' => ?_, fun v' b' hv' hq hne => ?_⟩
  · show yCm Y + 1 ≤ _
    omega
  · show up2 (yCa Y) b v (yCm Y + 1) b' v' ≤ yCm Y + 1
    by_cases q : b' = b ∧ v' = v
    · rw [q.1, q.2, up2_self]; exact Nat.le_refl _
    · rw [up2_ne _ _ q]; have := y2 b' v'; omega
  · rw [takeP_hs] at hq
    rw [takeP_Fc, haveP_fc, stat_Ep (st_takeP _ _ _ _)] at hne ⊢
    show up2 (yCa Y) b v (yCm Y + 1) _ v' < up2 (yCa Y) b v (yCm Y + 1) b' v'
    by_cases q : 11 * b' = 11 * b ∧ v' = v
    · -- the new one
      have eb : b' = b := by omega
      rw [eb, q.2] at hne ⊢
      split at hne
      · rw [up2_self] at hne; exact absurd rfl hne
      · rename_i hz
        rw [if_neg hz, up2_self, up2_ne _ _ (fun z => hne z.1.symm)]
        have := y2 (mFc u.1 v (mEp u.1 b)) v; omega
    · rw [up2_ne _ _ q] at hq
      have hold := y3 v' b' hv' hq
      have hnz := f2 v' b' hq
      have hbb : ¬ (b' = b ∧ v' = v) := fun z => q ⟨by omega, z.2⟩
      rw [up2_ne _ _ hbb]
      have same : (if mFc u.1 v (mEp u.1 b) = 0 then up2 (mFc u.1) v (mEp u.1 b) b else mFc u.1) v' (mEp u.1 b') = mFc u.1 v' (mEp u.1 b') := by
        split
        · rename_i hz
          refine up2_ne _ _ (fun z => hnz ?_)
          rw [z.1, z.2]; exact hz
        · rfl
      rw [same] at hne ⊢
      have hold := hold hne
      by_cases q3 : mFc u.1 v' (mEp u.1 b') = b ∧ v' = v
      · have := (f1 v' (mEp u.1 b') hnz).2
        rw [q3.1, q3.2, h0] at this; cases this
      · rw [up2_ne _ _ q3]; exact hold
theorem InvY_same {n : Nat} {M N : MS} {Y Z : YS} (h : InvY n M Y) (hs : ∀ l v, mHs M l v = true → mHs N l v = true) (hp : ∀ b v, mHs N (11 * b) v = mHs M (11 * b) v) (hf : mFc N = mFc M) (he : ∀ b v, mHs M (11 * b) v = true → mEp N b = mEp M b) (h1 : yCa Z = yCa Y) (h2 : yCm Z = yCm Y) : InvY n N Z := by
  obtain ⟨y1, y2, y3⟩ := h
  unfold InvY
  rw [h1, h2, hf]
  refine ⟨Nat.le_trans y1 (hc_mono hs), y2, fun v b hv hq hne => ?_⟩
  rw [hp] at hq
  rw [he b v hq] at hne ⊢
  exact y3 v b hv hq hne
theorem InvY_takeV {G : kG} {u : CS} {Y : YS} (hY : InvY (gn G) u.1 Y) {v x b : Nat} (hx : x < 10) : InvY (gn G) (cTakeV (gn G) u v x b).1 (gnY Y (11 * b + 1 + x) v) := by
  have e : gnY Y (11 * b + 1 + x) v = Y := by unfold gnY; rw [if_neg (by omega)]
  rw [e]
  exact InvY_same hY (fun l w hq => by rw [takeV_hs]; exact up2_mono l w hq) (fun b' v' => by rw [takeV_hs]; exact up2_ne _ _ (by omega)) (takeV_Fc _ _ _ _ _) (fun _ _ _ => by rw [stat_Ep (st_takeV _ _ _ _ _)]) rfl rfl
theorem InvY_vote {n : Nat} {u : CS} {Y : YS} (hY : InvY n u.1 Y) {v ch : Nat} (hv : v < 10) : InvY n (cVote n u v ch).1 (gnY Y (11 * ch + 1 + v) v) := by
  have e : gnY Y (11 * ch + 1 + v) v = Y := by unfold gnY; rw [if_neg (by omega)]
  rw [e]
  have ehs : mHs (cVote n u v ch).1 = up2 (mHs u.1) (11 * ch + 1 + v) v true := by
    show mHs (sndM _ _ _ _) = _
    rw [snd_hs]; rfl
  exact InvY_same hY (fun l w hq => by rw [ehs]; exact up2_mono l w hq) (fun b' v' => by rw [ehs]; exact up2_ne _ _ (by omega)) (snd_Fc _ _ _ _) (fun _ _ _ => by rw [stat_Ep (st_vote _ _ _ _)]) rfl rfl
theorem InvY_make {G : kG} {u : CS} (h : Inv0 G u) {Y : YS} (hY : InvY (gn G) u.1 Y) (o e : Nat) (w : Int32) (v : Nat) : InvY (gn G) (cMake u o e w v).1 Y := InvY_same hY (fun _ _ h => h) (fun _ _ => rfl) rfl (fun b v' hq => va_up_ne _ _ (by have := (h.2.1 _ _ (Or.inl hq)).2.1; omega)) rfl rfl
theorem InvY_Y {n : Nat} {M : MS} {Y Z : YS} (h : InvY n M Y) (h1 : yCa Z = yCa Y) (h2 : yCm Z = yCm Y) : InvY n M Z := InvY_same h (fun _ _ h => h) (fun _ _ => rfl) rfl (fun _ _ _ => rfl) h1 h2
/-- the vote, as the reference gives it -/
theorem vote_gn {n : Nat} (hn : n ≤ 10) {u : CS} (hd : disI u.1) {v ch : Nat} (hf : mFa u.1 v = false) : (cVote n u v ch).1 = gnM n (sG (sVf u.1 (up2 (mVf u.1) v (mP u.1) ch)) (mG u.1 + 1)) (11 * ch + 1 + v) v := by
  have h := takeV_gn hn (u := (sG (sVf u.1 (up2 (mVf u.1) v (mP u.1) ch)) (mG u.1 + 1), u.2)) hd v v ch
  rw [← h]
  unfold cTakeV
  rw [if_neg (by show ¬ mFa u.1 v = true; rw [hf]; decide)]
  rfl
/-! only one way to be what the equations say -/
theorem kn_uniq {M : MS} {v : Nat} {k1 k2 : Nat → Bool} (hp : ∀ b, 0 < b → mPar M b < b) (h1 : ∀ b, b < mT M → knE M v k1 b) (h2 : ∀ b, b < mT M → knE M v k2 b) : ∀ b, b < mT M → k1 b = k2 b := by
  intro b
  induction b using Nat.strongRecOn with
  | ind b ih =>
    intro hb
    rw [h1 b hb, h2 b hb]
    rcases Nat.eq_zero_or_pos b with q | q
    · rw [q]; rfl
    · have := hp b q
      rw [ih _ this (by omega)]
theorem no_uniq {n : Nat} {M : MS} {v : Nat} {k1 k2 n1 n2 : Nat → Bool} (hp : ∀ b, 0 < b → mPar M b < b) (hk : ∀ b, b < mT M → k1 b = k2 b) (h1 : ∀ b, b < mT M → noE n M v k1 n1 b) (h2 : ∀ b, b < mT M → noE n M v k2 n2 b) : ∀ b, b < mT M → n1 b = n2 b := by
  intro b
  induction b using Nat.strongRecOn with
  | ind b ih =>
    intro hb
    rw [h1 b hb, h2 b hb, hk b hb]
    rcases Nat.eq_zero_or_pos b with q | q
    · rw [q]; rfl
    · have := hp b q
      rw [ih _ this (by omega)]
theorem tp_uniq {M : MS} {T : Nat} {n1 n2 : Nat → Bool} {t1 t2 : Nat} (hn : ∀ b, b < T → n1 b = n2 b) (h1 : tpE M n1 T t1) (h2 : tpE M n2 T t2) : t1 = t2 := by
  have a1 := better_nf (h1.2.2 t2 h2.1 (by rw [hn _ h2.1]; exact h2.2.1))
  have a2 := better_nf (h2.2.2 t1 h1.1 (by rw [← hn _ h1.1]; exact h1.2.1))
  omega
theorem fi_uniq {M : MS} {ch : Nat → Nat → Bool} {n1 n2 f1 f2 : Nat → Bool} (hn : ∀ b, b < mT M → n1 b = n2 b) {b : Nat} (h1 : fiE M ch n1 (mT M) f1 b) (h2 : fiE M ch n2 (mT M) f2 b) : f1 b = f2 b := by
  rw [Bool.eq_iff_iff]
  refine h1.trans (Iff.trans ?_ h2.symm)
  constructor
  · exact fun q => q.imp id fun ⟨c, a1, a2, a3, a4⟩ => ⟨c, a1, a2, by rw [← hn c a2]; exact a3, a4⟩
  · exact fun q => q.imp id fun ⟨c, a1, a2, a3, a4⟩ => ⟨c, a1, a2, by rw [hn c a2]; exact a3, a4⟩
theorem hf_uniq {M : MS} {T : Nat} {f1 f2 : Nat → Bool} {t1 t2 : Nat} (hf : ∀ b, b < T → f1 b = f2 b) (h1 : hfE M f1 T t1) (h2 : hfE M f2 T t2) : t1 = t2 := by
  have a1 := betterF_nf (h1.2.2 t2 h2.1 (by rw [hf _ h2.1]; exact h2.2.1))
  have a2 := betterF_nf (h2.2.2 t1 h1.1 (by rw [← hf _ h1.1]; exact h1.2.1))
  omega
theorem DV_uniq {n : Nat} {M : MS} {ch : Nat → Nat → Bool} {v : Nat} {k1 n1 f1 k2 n2 f2 : Nat → Bool} {t1 h1 t2 h2 : Nat} (hp : ∀ b, 0 < b → mPar M b < b) (a : DV n M ch v k1 n1 f1 t1 h1) (b : DV n M ch v k2 n2 f2 t2 h2) :
    (∀ c, c < mT M → k1 c = k2 c) ∧ (∀ c, c < mT M → n1 c = n2 c) ∧ (∀ c, c < mT M → f1 c = f2 c) ∧ t1 = t2 ∧ h1 = h2 := by
  have hk := kn_uniq hp a.1 b.1
  have hn := no_uniq hp hk a.2.1 b.2.1
  have hf : ∀ c, c < mT M → f1 c = f2 c := fun c hc => fi_uniq hn (a.2.2.2.1 c hc) (b.2.2.2.1 c hc)
  exact ⟨hk, hn, hf, tp_uniq hn a.2.2.1 b.2.2.1, hf_uniq hf a.2.2.2.2 b.2.2.2.2⟩
