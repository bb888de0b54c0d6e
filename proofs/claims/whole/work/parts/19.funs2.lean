/-! letters: what the class's own methods do, as functions of the state -/
def sndM (M : MS) (l : Nat) (to : Int32) : Nat → MS
  | 0 => M
  | k + 1 => if tI to k then mExp (sndM M l to k) l k else sndM M l to k
def sndC (M : MS) (l : Nat) (to : Int32) : Nat → Nat
  | 0 => 0
  | k + 1 => sndC M l to k + (if tI to k && newL (sndM M l to k) l k then 1 else 0)
def cSendAll (n : Nat) (u : CS) (l : Nat) : CS := (sndM u.1 l (nI (2 ^ n - 1)) n, u.2)
def cTakeP (n : Nat) (u : CS) (v b : Nat) : CS := if mFa u.1 v then cHaveP n u v b else cSendAll n (cHaveP n u v b) (11 * b)
def cTakeV (n : Nat) (u : CS) (v x b : Nat) : CS := if mFa u.1 v then cHaveV n u v x b else cSendAll n (cHaveV n u v x b) (11 * b + 1 + x)
def cCh (u : CS) (v : Nat) : Nat := if mFa u.1 v then 0 else cChoice u.1 u.2 v (mP u.1)
def cVote (n : Nat) (u : CS) (v ch : Nat) : CS := cSendAll n (cHaveV n (sG (sVf u.1 (up2 (mVf u.1) v (mP u.1) ch)) (mG u.1 + 1), u.2) v v ch) (11 * ch + 1 + v)
def cLook (n : Nat) (u : CS) (v : Nat) : CS := if cCh u v = 0 then u else cVote n u v (cCh u v)
def cUp (u : CS) : CS := (sC u.1 (mC u.1 + 1), u.2)
def cLetP (n : Nat) (u : CS) (v b : Nat) : CS := cLook n (cTakeP n (cUp u) v b) v
def cLetV (n : Nat) (u : CS) (v x b : Nat) : CS := cLook n (cTakeV n (cUp u) v x b) v
def fV (n v b : Nat) (u : CS) : Nat → CS
  | 0 => u
  | k + 1 => if mWy (fV n v b u k).1 (11 * b + 1 + k) v then cLetV n (fV n v b u k) v k b else fV n v b u k
def fP (n v b : Nat) (u : CS) : CS := if mWy u.1 (11 * b) v then cLetP n u v b else u
def fB (n v : Nat) (u : CS) : Nat → CS
  | 0 => u
  | k + 1 => fV n v (k + 1) (fP n v (k + 1) (fB n v u k)) n
def cFlow (n : Nat) (u : CS) (v : Nat) : CS := fB n v u (mT u.1 - 1)
/-- what stays as it is while letters come -/
def stat (M : MS) : Nat × Nat × (Nat → Nat) × (Nat → Nat) × (Nat → Nat) × (Nat → Int32) × (Nat → Nat) × (Nat → Nat) × (Nat → Bool) × (Nat → Int32) := (mT M, mP M, mLd M, mPar M, mEp M, mLo M, mHt M, mMk M, mFa M, mWi M)
theorem stat_T {M N : MS} (h : stat M = stat N) : mT M = mT N := congrArg (fun q => q.1) h
theorem stat_P {M N : MS} (h : stat M = stat N) : mP M = mP N := congrArg (fun q => q.2.1) h
theorem stat_Ld {M N : MS} (h : stat M = stat N) : mLd M = mLd N := congrArg (fun q => q.2.2.1) h
theorem stat_Par {M N : MS} (h : stat M = stat N) : mPar M = mPar N := congrArg (fun q => q.2.2.2.1) h
theorem stat_Ep {M N : MS} (h : stat M = stat N) : mEp M = mEp N := congrArg (fun q => q.2.2.2.2.1) h
theorem stat_Lo {M N : MS} (h : stat M = stat N) : mLo M = mLo N := congrArg (fun q => q.2.2.2.2.2.1) h
theorem stat_Ht {M N : MS} (h : stat M = stat N) : mHt M = mHt N := congrArg (fun q => q.2.2.2.2.2.2.1) h
theorem stat_Mk {M N : MS} (h : stat M = stat N) : mMk M = mMk N := congrArg (fun q => q.2.2.2.2.2.2.2.1) h
theorem stat_Fa {M N : MS} (h : stat M = stat N) : mFa M = mFa N := congrArg (fun q => q.2.2.2.2.2.2.2.2.1) h
theorem stat_Wi {M N : MS} (h : stat M = stat N) : mWi M = mWi N := congrArg (fun q => q.2.2.2.2.2.2.2.2.2) h
theorem st_exp (M : MS) (l v : Nat) : stat (mExp M l v) = stat M := by unfold mExp; split <;> rfl
theorem st_snd (M : MS) (l : Nat) (to : Int32) (k : Nat) : stat (sndM M l to k) = stat M := by
  induction k with
  | zero => rfl
  | succ k ih => unfold sndM; split <;> first | (rw [st_exp]; exact ih) | exact ih
theorem st_haveP (M : MS) (v b : Nat) : stat (mHaveP M v b) = stat M := by unfold mHaveP; split <;> rfl
theorem st_haveV (M : MS) (v x b : Nat) : stat (mHaveV M v x b) = stat M := rfl
theorem st_cHaveP (n : Nat) (u : CS) (v b : Nat) : stat (cHaveP n u v b).1 = stat u.1 := st_haveP u.1 v b
theorem st_cHaveV (n : Nat) (u : CS) (v x b : Nat) : stat (cHaveV n u v x b).1 = stat u.1 := rfl
theorem st_sendAll (n : Nat) (u : CS) (l : Nat) : stat (cSendAll n u l).1 = stat u.1 := st_snd _ _ _ _
theorem st_takeP (n : Nat) (u : CS) (v b : Nat) : stat (cTakeP n u v b).1 = stat u.1 := by
  unfold cTakeP; split
  · exact st_cHaveP n u v b
  · rw [st_sendAll]; exact st_cHaveP n u v b
theorem st_takeV (n : Nat) (u : CS) (v x b : Nat) : stat (cTakeV n u v x b).1 = stat u.1 := by
  unfold cTakeV; split
  · exact st_cHaveV n u v x b
  · rw [st_sendAll]; exact st_cHaveV n u v x b
theorem st_vote (n : Nat) (u : CS) (v ch : Nat) : stat (cVote n u v ch).1 = stat u.1 := by
  unfold cVote; rw [st_sendAll]; rfl
theorem st_look (n : Nat) (u : CS) (v : Nat) : stat (cLook n u v).1 = stat u.1 := by
  unfold cLook; split
  · rfl
  · exact st_vote n u v _
theorem st_letP (n : Nat) (u : CS) (v b : Nat) : stat (cLetP n u v b).1 = stat u.1 := by
  unfold cLetP; rw [st_look, st_takeP]; rfl
theorem st_letV (n : Nat) (u : CS) (v x b : Nat) : stat (cLetV n u v x b).1 = stat u.1 := by
  unfold cLetV; rw [st_look, st_takeV]; rfl
theorem st_fV (n v b : Nat) (u : CS) (k : Nat) : stat (fV n v b u k).1 = stat u.1 := by
  induction k with
  | zero => rfl
  | succ k ih => unfold fV; split <;> first | (rw [st_letV]; exact ih) | exact ih
theorem st_fP (n v b : Nat) (u : CS) : stat (fP n v b u).1 = stat u.1 := by unfold fP; split <;> first | exact st_letP n u v b | rfl
theorem st_fB (n v : Nat) (u : CS) (k : Nat) : stat (fB n v u k).1 = stat u.1 := by
  induction k with
  | zero => rfl
  | succ k ih => unfold fB; rw [st_fV, st_fP]; exact ih
theorem st_flow (n : Nat) (u : CS) (v : Nat) : stat (cFlow n u v).1 = stat u.1 := st_fB _ _ _ _
/-! ranges stay -/
theorem ok_exp {G : kG} {u : CS} (hk : okC G u) (l v : Nat) : okC G (mExp u.1 l v, u.2) := by unfold mExp; split <;> exact hk
theorem ok_snd {G : kG} {u : CS} (hk : okC G u) (l : Nat) (to : Int32) (k : Nat) : okC G (sndM u.1 l to k, u.2) := by
  induction k with
  | zero => exact hk
  | succ k ih => unfold sndM; split <;> first | exact ok_exp ih l k | exact ih
theorem ok_sendAll {G : kG} {u : CS} (hk : okC G u) (n l : Nat) : okC G (cSendAll n u l) := ok_snd hk _ _ _
theorem ok_cHaveP {G : kG} {u : CS} (hk : okC G u) {v b : Nat} (hb : b < mT u.1) : okC G (cHaveP (gn G) u v b) :=
  ok_judge (u := (mHaveP u.1 v b, u.2)) (ok_haveP hk hb) (by show b ≤ mT (mHaveP u.1 v b); rw [stat_T (st_haveP u.1 v b)]; omega)
theorem ok_cHaveV {G : kG} {u : CS} (hk : okC G u) {v x b : Nat} (hb : b < mT u.1) : okC G (cHaveV (gn G) u v x b) :=
  ok_judge (u := (mHaveV u.1 v x b, u.2)) hk (Nat.le_of_lt hb)
theorem ok_takeP {G : kG} {u : CS} (hk : okC G u) {v b : Nat} (hb : b < mT u.1) : okC G (cTakeP (gn G) u v b) := by
  unfold cTakeP; split
  · exact ok_cHaveP hk hb
  · exact ok_sendAll (ok_cHaveP hk hb) _ _
theorem ok_takeV {G : kG} {u : CS} (hk : okC G u) {v x b : Nat} (hb : b < mT u.1) : okC G (cTakeV (gn G) u v x b) := by
  unfold cTakeV; split
  · exact ok_cHaveV hk hb
  · exact ok_sendAll (ok_cHaveV hk hb) _ _
theorem cCh_lt {G : kG} {u : CS} (hk : okC G u) (v : Nat) : cCh u v < mT u.1 := by
  have h1 := hk.2.2.1
  have h2 := hk.2.2.2.2.2.2.2.2.2.1 v (mP u.1)
  unfold cCh cChoice
  split
  · omega
  · split <;> omega
theorem ok_vote {G : kG} {u : CS} (hk : okC G u) {v ch : Nat} (hc : ch < mT u.1) : okC G (cVote (gn G) u v ch) := by
  have h61 := hk.2.2.2.1
  exact ok_sendAll (ok_cHaveV (u := (sG (sVf u.1 (up2 (mVf u.1) v (mP u.1) ch)) (mG u.1 + 1), u.2)) (ok_Vf hk (by omega)) hc) _ _
theorem ok_look {G : kG} {u : CS} (hk : okC G u) (v : Nat) : okC G (cLook (gn G) u v) := by
  unfold cLook; split
  · exact hk
  · exact ok_vote hk (cCh_lt hk v)
theorem ok_up {G : kG} {u : CS} (hk : okC G u) : okC G (cUp u) := hk
theorem ok_letP {G : kG} {u : CS} (hk : okC G u) {v b : Nat} (hb : b < mT u.1) : okC G (cLetP (gn G) u v b) := ok_look (ok_takeP (u := cUp u) hk hb) v
theorem ok_letV {G : kG} {u : CS} (hk : okC G u) {v x b : Nat} (hb : b < mT u.1) : okC G (cLetV (gn G) u v x b) := ok_look (ok_takeV (u := cUp u) hk hb) v
theorem ok_fV {G : kG} {u : CS} (hk : okC G u) {v b : Nat} (hb : b < mT u.1) (k : Nat) : okC G (fV (gn G) v b u k) := by
  induction k with
  | zero => exact hk
  | succ k ih =>
    unfold fV; split
    · exact ok_letV ih (by rw [stat_T (st_fV _ _ _ _ _)]; exact hb)
    · exact ih
theorem ok_fP {G : kG} {u : CS} (hk : okC G u) {v b : Nat} (hb : b < mT u.1) : okC G (fP (gn G) v b u) := by
  unfold fP; split
  · exact ok_letP hk hb
  · exact hk
theorem ok_fB {G : kG} {u : CS} (hk : okC G u) {v k : Nat} (hb : k < mT u.1) : okC G (fB (gn G) v u k) := by
  induction k with
  | zero => exact hk
  | succ k ih =>
    have h := ih (by omega)
    have e := stat_T (st_fB (gn G) v u k)
    exact ok_fV (ok_fP h (by omega)) (by rw [stat_T (st_fP _ _ _ _)]; omega) _
theorem ok_flow {G : kG} {u : CS} (hk : okC G u) (v : Nat) : okC G (cFlow (gn G) u v) := ok_fB hk (by have := hk.2.2.1; omega)
/-- all nodes' bits -/
theorem all_n : ∀ n, n ≤ 10 → ∀ k, k < n → tI (nI (2 ^ n - 1)) k = true := by decide +kernel
theorem fV_stop {n v b : Nat} {u : CS} {i : Nat} (hz : ∀ x, i ≤ x → x < n → mWy (fV n v b u i).1 (11 * b + 1 + x) v = false) : ∀ d, i + d ≤ n → fV n v b u (i + d) = fV n v b u i := by
  intro d
  induction d with
  | zero => intro _; rfl
  | succ d ih =>
    intro hd
    have e := ih (by omega)
    show (if mWy (fV n v b u (i + d)).1 (11 * b + 1 + (i + d)) v then _ else fV n v b u (i + d)) = _
    rw [e, hz (i + d) (by omega) (by omega)]
    rfl
