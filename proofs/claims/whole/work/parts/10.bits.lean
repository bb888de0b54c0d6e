/-! bits -/
def tI (x : Int32) (k : Nat) : Bool := x.toBitVec.getLsbD k
def tL (x : Int64) (k : Nat) : Bool := x.toBitVec.getLsbD k
def bI (b : Bool) : Int32 := if b then 1 else 0
def eBV (w : Nat) (f : Nat → Bool) : BitVec w := (BitVec.iunfoldr (fun (i : Fin w) (_ : Unit) => ((), f i.val)) ()).2
theorem eBV_get (w : Nat) (f : Nat → Bool) {k : Nat} (h : k < w) : (eBV w f).getLsbD k = f k := by
  have h1 := BitVec.iunfoldr_getLsbD (f := fun (i : Fin w) (_ : Unit) => ((), f i.val)) (fun _ => ()) ⟨k, h⟩ (fun _ => rfl)
  rw [BitVec.getLsbD_eq_getElem h]
  exact h1
theorem tI_ext {x y : Int32} (h : ∀ k, k < 32 → tI x k = tI y k) : x = y := Int32.toBitVec_inj.mp (BitVec.eq_of_getLsbD_eq fun i hi => h i hi)
theorem tL_ext {x y : Int64} (h : ∀ k, k < 64 → tL x k = tL y k) : x = y := Int64.toBitVec_inj.mp (BitVec.eq_of_getLsbD_eq fun i hi => h i hi)
theorem eI_ex (f : Nat → Bool) : ∃ x : Int32, ∀ k, k < 32 → tI x k = f k := ⟨Int32.ofBitVec (eBV 32 f), fun _ h => eBV_get 32 f h⟩
theorem eL_ex (f : Nat → Bool) : ∃ x : Int64, ∀ k, k < 64 → tL x k = f k := ⟨Int64.ofBitVec (eBV 64 f), fun _ h => eBV_get 64 f h⟩
noncomputable def eI (f : Nat → Bool) : Int32 := Classical.choose (eI_ex f)
noncomputable def eL (f : Nat → Bool) : Int64 := Classical.choose (eL_ex f)
theorem tI_eI (f : Nat → Bool) {k : Nat} (h : k < 32) : tI (eI f) k = f k := Classical.choose_spec (eI_ex f) k h
theorem tL_eL (f : Nat → Bool) {k : Nat} (h : k < 64) : tL (eL f) k = f k := Classical.choose_spec (eL_ex f) k h
theorem tI_or (x y : Int32) (k : Nat) : tI (x ||| y) k = (tI x k || tI y k) := by simp [tI]
theorem tI_and (x y : Int32) (k : Nat) : tI (x &&& y) k = (tI x k && tI y k) := by simp [tI]
theorem tL_or (x y : Int64) (k : Nat) : tL (x ||| y) k = (tL x k || tL y k) := by simp [tL]
theorem tL_and (x y : Int64) (k : Nat) : tL (x &&& y) k = (tL x k && tL y k) := by simp [tL]
theorem tI_xm {x : Int32} {k : Nat} (h : k < 32) : tI (x ^^^ (-1)) k = !(tI x k) := by
  have e : ((-1 : Int32).toBitVec) = BitVec.allOnes 32 := by decide
  simp [tI, e, h]
theorem tL_xm {x : Int64} {k : Nat} (h : k < 64) : tL (x ^^^ (-1)) k = !(tL x k) := by
  have e : ((-1 : Int64).toBitVec) = BitVec.allOnes 64 := by decide
  simp [tL, e, h]
theorem sh_I : ∀ l, l < 32 → ((1 : Int32) <<< (nI l &&& 31)).toBitVec = BitVec.twoPow 32 l := by decide +kernel
theorem sh_L : ∀ l, l < 64 → ((1 : Int64) <<< ((nI l).toInt64 &&& 63)).toBitVec = BitVec.twoPow 64 l := by decide +kernel
theorem tI_sh {l k : Nat} (hl : l < 32) (hk : k < 32) : tI ((1 : Int32) <<< (nI l &&& 31)) k = decide (k = l) := by
  simp only [tI, sh_I l hl, BitVec.getLsbD_twoPow]
  by_cases h : l = k
  · subst h; simp [hl]
  · simp [h, Ne.symm h]
theorem tL_sh {l k : Nat} (hl : l < 64) (hk : k < 64) : tL ((1 : Int64) <<< ((nI l).toInt64 &&& 63)) k = decide (k = l) := by
  simp only [tL, sh_L l hl, BitVec.getLsbD_twoPow]
  by_cases h : l = k
  · subst h; simp [hl]
  · simp [h, Ne.symm h]
theorem eI_or (f : Nat → Bool) {l : Nat} (hl : l < 32) : eI f ||| ((1 : Int32) <<< (nI l &&& 31)) = eI (va_up f l true) := tI_ext fun k hk => by
  rw [tI_or, tI_eI _ hk, tI_eI _ hk, tI_sh hl hk]
  by_cases h : k = l <;> simp [va_up, h]
theorem eI_clr (f : Nat → Bool) {l : Nat} (hl : l < 32) : eI f &&& (((1 : Int32) <<< (nI l &&& 31)) ^^^ (-1)) = eI (va_up f l false) := tI_ext fun k hk => by
  rw [tI_and, tI_eI _ hk, tI_eI _ hk, tI_xm hk, tI_sh hl hk]
  by_cases h : k = l <;> simp [va_up, h]
theorem eL_or (f : Nat → Bool) {l : Nat} (hl : l < 64) : eL f ||| ((1 : Int64) <<< ((nI l).toInt64 &&& 63)) = eL (va_up f l true) := tL_ext fun k hk => by
  rw [tL_or, tL_eL _ hk, tL_eL _ hk, tL_sh hl hk]
  by_cases h : k = l <;> simp [va_up, h]
theorem eL_clr (f : Nat → Bool) {l : Nat} (hl : l < 64) : eL f &&& (((1 : Int64) <<< ((nI l).toInt64 &&& 63)) ^^^ (-1)) = eL (va_up f l false) := tL_ext fun k hk => by
  rw [tL_and, tL_eL _ hk, tL_eL _ hk, tL_xm hk, tL_sh hl hk]
  by_cases h : k = l <;> simp [va_up, h]
theorem eL_lor (f g : Nat → Bool) : eL f ||| eL g = eL (fun k => f k || g k) := tL_ext fun k hk => by
  rw [tL_or, tL_eL _ hk, tL_eL _ hk, tL_eL _ hk]
theorem eI_ior (f g : Nat → Bool) : eI f ||| eI g = eI (fun k => f k || g k) := tI_ext fun k hk => by
  rw [tI_or, tI_eI _ hk, tI_eI _ hk, tI_eI _ hk]
/-- an int, widened: the same bits below 32 -/
theorem tL_wide (x : Int32) {k : Nat} (hk : k < 32) : tL x.toInt64 k = tI x k := by
  have e : x.toInt64.toBitVec = x.toBitVec.signExtend 64 := rfl
  simp only [tL, tI, e, BitVec.getLsbD_signExtend]
  simp [hk, Nat.lt_trans hk (by decide : 32 < 64)]
/-- what 'holds' works out -/
theorem sr_L : ∀ l, l < 64 → ((nI l).toInt64.toUInt64 &&& Int64.toUInt64 63) = UInt64.ofNat l := by decide +kernel
theorem holds_eq (x : Int64) {k : Nat} (hk : k < 64) : ((x.toUInt64 >>> ((nI k).toInt64.toUInt64 &&& Int64.toUInt64 63)).toInt64 &&& 1) = if tL x k then 1 else 0 := by
  rw [sr_L k hk]
  apply tL_ext
  intro j hj
  rw [tL_and]
  have e1 : ∀ j, tL (1 : Int64) j = decide (j = 0) := by
    intro j
    show (1#64).getLsbD j = _
    simp [BitVec.getLsbD_one]
  have e0 : ∀ j, tL (0 : Int64) j = false := by
    intro j
    show (0#64).getLsbD j = _
    simp
  have e2 : tL (x.toUInt64 >>> UInt64.ofNat k).toInt64 j = tL x (k + j) := by
    show ((x.toUInt64 >>> UInt64.ofNat k).toBitVec).getLsbD j = _
    have h3 : ((UInt64.ofNat k).toBitVec % (64 : BitVec 64)).toNat = k := by
      rw [BitVec.toNat_umod]
      show (UInt64.ofNat k).toNat % 64 = k
      rw [UInt64.toNat_ofNat']
      omega
    simp only [UInt64.toBitVec_shiftRight, BitVec.ushiftRight_eq', BitVec.getLsbD_ushiftRight]
    rw [h3]
    rfl
  rw [e1, e2]
  by_cases h : j = 0
  · subst h
    by_cases hx : tL x k = true <;> simp [hx, e0, e1]
  · by_cases hx : tL x k = true <;> simp [hx, h, e0, e1]
theorem bI_t : bI true = 1 := rfl
theorem bI_f : bI false = 0 := rfl
theorem bI_ne0 (b : Bool) : bI b ≠ 0 ↔ b = true := by cases b <;> decide
theorem bI_eq0 (b : Bool) : bI b = 0 ↔ b = false := by cases b <;> decide
theorem bI_nar (b : Bool) : narrow .boolean (.int (bI b)) = .int (bI b) := by cases b <;> rfl
theorem bI_vnar (b : Bool) : vp_nar .boolean (bI b) = bI b := by cases b <;> rfl
theorem bI_fit (b : Bool) : fits .boolean (.int (bI b)) = true := by cases b <;> rfl
/-- functions of two numbers, changed at one place -/
def up2 {α : Type} (f : Nat → Nat → α) (i j : Nat) (x : α) : Nat → Nat → α := fun i' j' => if i' = i ∧ j' = j then x else f i' j'
theorem up2_self {α : Type} (f : Nat → Nat → α) (i j : Nat) (x : α) : up2 f i j x i j = x := by simp [up2]
theorem up2_ne {α : Type} (f : Nat → Nat → α) {i j i' j' : Nat} (x : α) (h : ¬ (i' = i ∧ j' = j)) : up2 f i j x i' j' = f i' j' := by simp [up2, h]
theorem upd_fn {f g : Nat → Int32} {k : Nat} {x : Int32} (h1 : g k = x) (h2 : ∀ j, j ≠ k → g j = f j) : upd f k x = g := by
  funext j
  by_cases h : j = k
  · subst h; simp [upd, h1]
  · simp [upd, h, h2 j h]
theorem updL_fn {f g : Nat → Int64} {k : Nat} {x : Int64} (h1 : g k = x) (h2 : ∀ j, j ≠ k → g j = f j) : vp_updL f k x = g := by
  funext j
  by_cases h : j = k
  · subst h; simp [vp_updL, h1]
  · simp [vp_updL, h, h2 j h]
def oI (k : Nat) : Int32 := if k = 0 then -1 else nI k
def eP (f : Nat → Nat) (b : Nat) : Int32 := if b = 0 then -1 else nI (f b)
