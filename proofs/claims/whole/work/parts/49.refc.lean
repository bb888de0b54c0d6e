/-! more facts for the reference's walks -/
def anyEp (M : MS) (e k : Nat) : Bool := (List.range k).any (fun b => mEp M b == e)
theorem anyEp_s (M : MS) (e k : Nat) : anyEp M e (k + 1) = (anyEp M e k || decide (mEp M k = e)) := by
  simp only [anyEp, List.range_succ, List.any_append, List.any_cons, List.any_nil, Bool.or_false]
  congr 1
theorem anyEp_1 {M : MS} {e : Nat} (h : mEp M 0 = 0) (he : 1 ≤ e) : anyEp M e 1 = false := by
  rw [anyEp_s, h, decide_eq_false (by omega)]; rfl
theorem va_up_id {α : Type} {f : Nat → α} {k : Nat} {x : α} (h : f k = x) : va_up f k x = f := by
  funext j
  by_cases e : j = k
  · rw [e, va_up_self, h]
  · rw [va_up_ne _ _ e]
theorem up2_id {α : Type} {f : Nat → Nat → α} {i j : Nat} {x : α} (h : f i j = x) : up2 f i j x = f := by
  funext a b
  by_cases e : a = i ∧ b = j
  · rw [e.1, e.2, up2_self, h]
  · rw [up2_ne _ _ e]
theorem sr_I : ∀ l, l < 32 → ((nI l).toUInt32 &&& Int32.toUInt32 31) = UInt32.ofNat l := by decide +kernel
theorem ushr_bit (x : Int32) {k : Nat} (hk : k < 32) : ((x.toUInt32 >>> ((nI k).toUInt32 &&& Int32.toUInt32 31)).toInt32 &&& nI 1) = bI (tI x k) := by
  rw [sr_I k hk]
  apply tI_ext
  intro j hj
  rw [tI_and]
  have e1 : ∀ j, tI (nI 1) j = decide (j = 0) := by
    intro j
    show (1#32).getLsbD j = _
    simp [BitVec.getLsbD_one]
  have e0 : ∀ j, tI (0 : Int32) j = false := by
    intro j
    show (0#32).getLsbD j = _
    simp
  have e2 : tI (x.toUInt32 >>> UInt32.ofNat k).toInt32 j = tI x (k + j) := by
    show ((x.toUInt32 >>> UInt32.ofNat k).toBitVec).getLsbD j = _
    have h3 : ((UInt32.ofNat k).toBitVec % (32 : BitVec 32)).toNat = k := by
      rw [BitVec.toNat_umod]
      show (UInt32.ofNat k).toNat % 32 = k
      rw [UInt32.toNat_ofNat']
      omega
    simp only [UInt32.toBitVec_shiftRight, BitVec.ushiftRight_eq', BitVec.getLsbD_ushiftRight]
    rw [h3]
    rfl
  rw [e1, e2]
  by_cases h : j = 0
  · subst h
    cases hx : tI x k
    · simp [hx, bI, e0]
    · simp only [Nat.add_zero, hx]; exact (e1 0).symm
  · cases hx : tI x k
    · simp [h, bI, e0]
    · rw [decide_eq_false h, Bool.and_false]
      have := e1 j
      rw [decide_eq_false h] at this
      exact this.symm
theorem step_P {n v : Nat} {u : CS} {b : Nat} (h : mWy u.1 (11 * b) v = true) : stepL n v u (11 * b) = cLetP n u v b := by
  unfold stepL
  rw [if_pos h, if_pos (by omega), show 11 * b / 11 = b by omega]
theorem step_V {n v : Nat} {u : CS} {b x : Nat} (hx : x < 10) (h : mWy u.1 (11 * b + 1 + x) v = true) : stepL n v u (11 * b + 1 + x) = cLetV n u v x b := by
  unfold stepL
  rw [if_pos h, if_neg (by omega), show (11 * b + 1 + x) / 11 = b by omega, show (11 * b + 1 + x) % 11 - 1 = x by omega]
theorem flow_C_le {G : kG} {u : CS} (h : Inv G u) {v : Nat} (hv : v < gn G) : mC u.1 ≤ mC (cFlow (gn G) u v).1 := by rw [flow_eq h hv]; exact flL_C_le _ _ _ _
theorem in1_none {T : Nat} {y : Int32} (h : ∀ j : Nat, 1 ≤ j ∧ j ≤ T - 1 → y ≠ nI j) (hT : T < 2 ^ 31) : y = 0 ∨ ix T y = none := by
  by_cases e : y = 0
  · exact Or.inl e
  · refine Or.inr (ix_none (fun j hj q => ?_) hT)
    rcases Nat.eq_zero_or_pos j with z | z
    · exact e (by rw [q, z]; rfl)
    · exact h j ⟨z, by omega⟩ q
theorem lie_id {G : kG} {u : CS} (h : Inv0 G u) {v x b : Nat} (hf : mFa u.1 v = true) (hs : mHs u.1 (11 * b + 1 + x) v = true) : (cTakeV (gn G) u v x b).1 = u.1 := by
  rw [takeV_gn h.1.2.1 h.2.2.1, gnM, if_pos hf]
  refine ms_ext rfl rfl rfl ?_ ?_ rfl rfl
  · exact up2_id hs
  · exact up2_id (h.2.2.1 _ _ hs)
theorem wn_step (w a b : Int32) : (w &&& (b ^^^ (-1))) &&& (a ^^^ (-1)) = w &&& ((a ||| b) ^^^ (-1)) := tI_ext fun k hk => by
  simp only [tI_and, tI_xm hk, tI_or]
  cases tI w k <;> cases tI a k <;> cases tI b k <;> rfl
/-! chains -/
theorem ch_0 {M : MS} {ch : Nat → Nat → Bool} (hc : chE M ch) (hp : ∀ b, 0 < b → mPar M b < b) : ∀ b, b < mT M → ch b 0 = true := by
  intro b
  induction b using Nat.strongRecOn with
  | ind b ih =>
    intro hb
    rw [hc b 0 hb]
    rcases Nat.eq_zero_or_pos b with q | q
    · rw [q]; rfl
    · have := hp b q
      rw [ih _ this (by omega), decide_eq_true (Nat.ne_of_gt q)]; simp
theorem ch_s {M : MS} {ch : Nat → Nat → Bool} (hc : chE M ch) {b c : Nat} (hb : b < mT M) (h : ch b c = true) : c = b ∨ (0 < b ∧ ch (mPar M b) c = true) := by
  rw [hc b c hb] at h
  simp only [Bool.or_eq_true, Bool.and_eq_true, decide_eq_true_eq] at h
  exact h.imp id fun q => ⟨Nat.pos_of_ne_zero q.1, q.2⟩
theorem ch_p {M : MS} {ch : Nat → Nat → Bool} (hc : chE M ch) {b c : Nat} (hb : b < mT M) (h0 : 0 < b) (h : ch (mPar M b) c = true) : ch b c = true := by
  rw [hc b c hb, h, decide_eq_true (Nat.ne_of_gt h0)]; simp
theorem ch_tr {M : MS} {ch : Nat → Nat → Bool} (hc : chE M ch) (hp : ∀ b, 0 < b → mPar M b < b) {b c : Nat} (h2 : ch b c = true) : ∀ a, a < mT M → ch a b = true → ch a c = true := by
  intro a
  induction a using Nat.strongRecOn with
  | ind a ih =>
    intro ha h
    rcases ch_s hc ha h with q | ⟨q1, q2⟩
    · rw [← q]; exact h2
    · have := hp a q1
      exact ch_p hc ha q1 (ih _ this (by omega) q2)
theorem ch_tot {M : MS} {ch : Nat → Nat → Bool} (hc : chE M ch) (hp : ∀ b, 0 < b → mPar M b < b) {b c : Nat} : ∀ a, a < mT M → ch a b = true → ch a c = true → ch b c = true ∨ ch c b = true := by
  intro a
  induction a using Nat.strongRecOn with
  | ind a ih =>
    intro ha h1 h2
    rcases ch_s hc ha h1 with q | ⟨q1, q2⟩
    · rw [q]; exact Or.inl h2
    · rcases ch_s hc ha h2 with r | ⟨r1, r2⟩
      · rw [r]; exact Or.inr h1
      · have := hp a q1
        exact ih _ this (by omega) q2 r2
/-! the ledger: a chain in an array, from its top down -/
def cnE (M : MS) (hf : Nat) (cn : Nat → Nat) (m : Nat) : Prop := (0 < m → cn 0 = hf) ∧ ∀ j, j + 1 < m → 0 < cn j ∧ cn (j + 1) = mPar M (cn j)
def cnL (M : MS) (hf : Nat) (cn : Nat → Nat) (m k : Nat) : Prop := cnE M hf cn m ∧ (m = 0 → k = hf) ∧ (0 < m → 0 < cn (m - 1) ∧ k = mPar M (cn (m - 1))) ∧ k + m ≤ hf
theorem cn_0 (M : MS) (hf : Nat) (cn : Nat → Nat) : cnL M hf cn 0 hf := ⟨⟨fun h => by omega, fun j h => by omega⟩, fun _ => rfl, fun h => by omega, by omega⟩
theorem cn_put {M : MS} {hf : Nat} {cn : Nat → Nat} {m k : Nat} (h : cnL M hf cn m k) : cnE M hf (va_up cn m k) (m + 1) := by
  obtain ⟨⟨a1, a2⟩, b1, b2, b3⟩ := h
  refine ⟨fun _ => ?_, fun j hj => ?_⟩
  · rcases Nat.eq_zero_or_pos m with q | q
    · subst q; rw [va_up_self]; exact b1 rfl
    · rw [va_up_ne _ _ (by omega)]; exact a1 q
  · rw [va_up_ne cn k (show j ≠ m by omega)]
    by_cases e : j + 1 = m
    · have := b2 (by omega)
      rw [show m - 1 = j by omega] at this
      rw [e, va_up_self]; exact this
    · rw [va_up_ne _ _ e]; exact a2 j (by omega)
theorem cn_step {M : MS} {hf : Nat} {cn : Nat → Nat} {m k : Nat} (hp : ∀ b, 0 < b → mPar M b < b) (h : cnL M hf cn m k) (h0 : 0 < k) : cnL M hf (va_up cn m k) (m + 1) (mPar M k) := by
  have := hp k h0
  have h3 := h.2.2.2
  refine ⟨cn_put h, fun q => by omega, fun _ => ?_, by omega⟩
  rw [show m + 1 - 1 = m by omega, va_up_self]
  exact ⟨h0, rfl⟩
theorem cn_ch {M : MS} {ch : Nat → Nat → Bool} (hc : chE M ch) (hp : ∀ b, 0 < b → mPar M b < b) {hf : Nat} {cn : Nat → Nat} {m : Nat} (hT : hf < mT M) (h : cnE M hf cn m) : ∀ j, j < m → cn j < mT M ∧ ∀ b, b ≤ cn j → ch hf b = ch (cn j) b := by
  intro j
  induction j with
  | zero =>
    intro hj
    rw [h.1 hj]
    exact ⟨hT, fun _ _ => rfl⟩
  | succ j ih =>
    intro hj
    obtain ⟨i1, i2⟩ := ih (by omega)
    obtain ⟨q1, q2⟩ := h.2 j hj
    have hpj := hp _ q1
    rw [q2]
    refine ⟨by omega, fun b hb => ?_⟩
    rw [i2 b (by omega), hc (cn j) b i1, decide_eq_false (by omega), decide_eq_true (Nat.ne_of_gt q1)]; rfl
theorem ldg_none {M : MS} {ch : Nat → Bool} (d b : Nat) (ah : Int32) (lf : Nat) (h : ∀ c, b ≤ c → c < b + d → ch c = false) : ldg M ch d b ah lf = -1 := by
  induction d generalizing b with
  | zero => rfl
  | succ d ih =>
    rw [ldg, if_neg (by rw [h b (Nat.le_refl _) (by omega)]; decide)]
    exact ih (b + 1) fun c h1 h2 => h c (by omega) (by omega)
theorem ldg_skip {M : MS} {ch : Nat → Bool} (d e b : Nat) (ah : Int32) (lf : Nat) (h : ∀ c, b ≤ c → c < b + d → ch c = false) : ldg M ch (d + e) b ah lf = ldg M ch e (b + d) ah lf := by
  induction d generalizing b with
  | zero => rw [Nat.zero_add]; rfl
  | succ d ih =>
    rw [show d + 1 + e = (d + e) + 1 by omega, ldg, if_neg (by rw [h b (Nat.le_refl _) (by omega)]; decide), ih (b + 1) fun c h1 h2 => h c (by omega) (by omega), show b + 1 + d = b + (d + 1) by omega]
theorem ldg_blk {M : MS} {ch : Nat → Bool} {T b : Nat} {ah more : Int32} {lf : Nat} (hb : b < T) (hc : ch b = true) (hm : mLo M b &&& (ah ^^^ (-1)) = more) (hl : cnt (tI more) 32 ≤ lf) : ldg M ch (T - b) b ah lf = ldg M ch (T - (b + 1)) (b + 1) (ah ||| more) (lf - cnt (tI more) 32) := by
  rw [show T - b = (T - (b + 1)) + 1 by omega, ldg, if_pos hc, hm, if_neg (by omega)]
theorem ldg_hit {M : MS} {ch : Nat → Bool} {T b : Nat} {ah more : Int32} {lf i : Nat} (hb : b < T) (hc : ch b = true) (hm : mLo M b &&& (ah ^^^ (-1)) = more) (hi : i < 32) (ht : tI more i = true) (hn : cnt (tI more) i = lf) : ldg M ch (T - b) b ah lf = nI i := by
  have h1 : cnt (tI more) (i + 1) ≤ cnt (tI more) 32 := cnt_mono _ (by omega)
  rw [cnt, ht] at h1
  have h2 : cnt (tI more) i < cnt (tI more) 32 := by
    have : cnt (tI more) i + 1 ≤ cnt (tI more) 32 := h1
    omega
  rw [show T - b = (T - (b + 1)) + 1 by omega, ldg, if_pos hc, hm, if_pos (by omega), watF_eq hi ht hn]
theorem ldg_next {M : MS} {ch : Nat → Nat → Bool} (hc : chE M ch) (hp : ∀ b, 0 < b → mPar M b < b) (hh : htI M) {hf : Nat} {cn : Nat → Nat} {m : Nat} (hT : hf < mT M) (h : cnE M hf cn m) {i : Nat} (hi : i + 1 < m) (ah : Int32) (lf : Nat) : ldg M (ch hf) (mT M - (cn (i + 1) + 1)) (cn (i + 1) + 1) ah lf = ldg M (ch hf) (mT M - cn i) (cn i) ah lf := by
  obtain ⟨q1, q2⟩ := h.2 i hi
  obtain ⟨i1, i2⟩ := cn_ch hc hp hT h i (by omega)
  have hpj := hp _ q1
  have := ldg_skip (M := M) (ch := ch hf) (cn i - (cn (i + 1) + 1)) (mT M - cn i) (cn (i + 1) + 1) ah lf (fun c c1 c2 => by
    rw [i2 c (by omega)]
    cases q : ch (cn i) c
    · rfl
    · rcases ch_s hc i1 q with z | ⟨z1, z2⟩
      · omega
      · have := (ch_le hc hp hh _ c (by omega) z2).1
        omega)
  rw [show cn i - (cn (i + 1) + 1) + (mT M - cn i) = mT M - (cn (i + 1) + 1) by omega, show cn (i + 1) + 1 + (cn i - (cn (i + 1) + 1)) = cn i by omega] at this
  exact this
theorem ldg_last {M : MS} {ch : Nat → Nat → Bool} (hc : chE M ch) (hp : ∀ b, 0 < b → mPar M b < b) (hh : htI M) {hf : Nat} (hT : hf < mT M) (ah : Int32) (lf : Nat) : ldg M (ch hf) (mT M - (hf + 1)) (hf + 1) ah lf = -1 :=
  ldg_none _ _ _ _ fun c c1 c2 => by
    cases q : ch hf c
    · rfl
    · have := (ch_le hc hp hh _ c hT q).1; omega
/-! letters under way, counted the other way round -/
theorem cnt_add (f : Nat → Bool) (a b : Nat) : cnt f (a + b) = cnt f a + cnt (fun j => f (a + j)) b := by
  induction b with
  | zero => rfl
  | succ b ih => rw [show a + (b + 1) = (a + b) + 1 by omega, cnt, cnt, ih]; omega
def colS (w : Nat → Nat → Bool) (L : Nat) : Nat → Nat
  | 0 => 0
  | k + 1 => colS w L k + cnt (fun l => w l k) L
theorem colS_s (w : Nat → Nat → Bool) (L k : Nat) : colS w (L + 1) k = colS w L k + cnt (w L) k := by
  induction k with
  | zero => rfl
  | succ k ih => simp only [colS, cnt, ih]; omega
theorem row_col (w : Nat → Nat → Bool) (L : Nat) : cnt (fun k => w (k / 10) (k % 10)) (10 * L) = colS w L 10 := by
  induction L with
  | zero => rfl
  | succ L ih =>
    rw [show 10 * (L + 1) = 10 * L + 10 by omega, cnt_add, ih, colS_s]
    congr 1
    exact cnt_congr fun j hj => by
      show w ((10 * L + j) / 10) ((10 * L + j) % 10) = w L j
      rw [show (10 * L + j) / 10 = L by omega, show (10 * L + j) % 10 = j by omega]
theorem col_blk (M : MS) (v b : Nat) : cnt (fun l => mWy M l v) (11 * b) = cnt (pB (mWy M) v) b + uwB M v b := by
  induction b with
  | zero => rfl
  | succ b ih =>
    rw [show 11 * (b + 1) = 11 * b + (1 + 10) by omega, cnt_add, ih, cnt_add]
    have e1 : cnt (fun j => mWy M (11 * b + j) v) 1 = 0 + if pB (mWy M) v b then 1 else 0 := rfl
    have e2 : cnt (fun j => (fun j => mWy M (11 * b + j) v) (1 + j)) 10 = cnt (fun x => mWy M (11 * b + 1 + x) v) 10 := cnt_congr fun j _ => by
      show mWy M (11 * b + (1 + j)) v = mWy M (11 * b + 1 + j) v
      rw [Nat.add_assoc]
    rw [e1, e2]
    simp only [cnt, uwB]
    omega
theorem uw_eq {G : kG} {u : CS} (h : Inv0 G u) : cnt (fun k => mWy u.1 (k / 10) (k % 10)) (110 * mT u.1) = uwN u.1 (gn G) := by
  have hr := h.2.1
  have h61 := h.1.2.2.2.1
  have hn := h.1.2.1
  rw [show 110 * mT u.1 = 10 * (11 * mT u.1) by omega, row_col]
  have e1 : ∀ k, colS (mWy u.1) (11 * mT u.1) k = uwN u.1 k := by
    intro k
    induction k with
    | zero => rfl
    | succ k ih =>
      rw [colS, uwN, ih, col_blk]
      have := cnt_ext (f := pB (mWy u.1) k) (a := mT u.1) (64 - mT u.1) (fun j h1 h2 => by
        show mWy u.1 (11 * j) k = false
        cases q : mWy u.1 (11 * j) k
        · rfl
        · have := (hr _ _ (Or.inr q)).2.1; omega)
      rw [show mT u.1 + (64 - mT u.1) = 64 by omega] at this
      rw [this]
  have e2 : ∀ d, colS (mWy u.1) (11 * mT u.1) (gn G + d) = colS (mWy u.1) (11 * mT u.1) (gn G) := by
    intro d
    induction d with
    | zero => rfl
    | succ d ih =>
      show colS _ _ (gn G + d) + cnt (fun l => mWy u.1 l (gn G + d)) (11 * mT u.1) = _
      rw [ih, cnt_zero.mpr fun l _ => by
        cases q : mWy u.1 l (gn G + d)
        · rfl
        · have := (hr _ _ (Or.inr q)).2.2.1; omega]
      omega
  have := e2 (10 - gn G)
  rw [show gn G + (10 - gn G) = 10 by omega] at this
  rw [this, e1]
