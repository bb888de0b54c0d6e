/-! the states at the beginning -/
def kL (G : kG) (L : Nat → Nat) (n : Nat) : kG := (G.1, G.2.1, L, n)
def M0 (n : Nat) : MS := (1, 0, 0, 0, fun e => e % n, fun _ => 0, fun _ => 0, fun _ => 0, fun _ => 0, fun _ => 0, fun _ => false, fun _ => 0, fun _ _ => false, fun _ _ => false, fun _ _ => 0, fun _ _ => 0)
def X0s : XS := (fun b c => decide (b = 0) && decide (c = 0), fun _ => 0, fun _ b => decide (b = 0), fun _ b => decide (b = 0), fun _ b => decide (b = 0), fun _ => 0, fun _ => 0)
def u0 (n : Nat) : CS := (M0 n, X0s)
def Y0 : YS := (fun _ _ => 0, 0, fun _ => false, fun _ => false, fun _ => false, 0, 0, 0, fun _ => false, fun _ => 0)
theorem cnt_ff (k : Nat) : cnt (fun _ => false) k = 0 := by
  induction k with
  | zero => rfl
  | succ k ih => rw [cnt, ih]; rfl
theorem inv_0 (G : kG) (h4 : 4 ≤ gn G) (h10 : gn G ≤ 10) : Inv G (u0 (gn G)) := by
  have T1 : mT (u0 (gn G)).1 = 1 := rfl
  refine ⟨⟨⟨h4, h10, Nat.le_refl _, Nat.le_of_ble_eq_true rfl, Nat.zero_le _, fun e => Nat.mod_lt _ (by omega), fun b h => h, fun _ => Nat.zero_le _, fun _ => Nat.zero_le _, fun _ _ => Nat.succ_pos _, fun _ _ => Nat.zero_le _, fun _ => Nat.succ_pos _, fun _ => Nat.succ_pos _⟩, ?_, ?_, ?_, ?_, ?_, ?_, ?_, ?_, ?_, ?_⟩, Nat.zero_le _⟩
  · rintro l v (h | h) <;> cases h
  · intro l v h; cases h
  · rintro b x o hx (h | h) <;> cases h
  · exact ⟨fun v e h => absurd rfl h, fun v b h => by cases h⟩
  · exact ⟨rfl, fun b h1 h2 => by rw [T1] at h2; omega⟩
  · intro v b hv hf h; cases h
  · exact ⟨rfl, fun b h1 h2 => by rw [T1] at h2; omega⟩
  · intro b c hb
    rw [T1] at hb
    rw [show b = 0 by omega]
    show (decide (0 = 0) && decide (c = 0)) = _
    simp
  · intro b hb
    rw [T1] at hb
    rw [show b = 0 by omega, if_pos rfl]; rfl
  · intro v hv
    refine ⟨⟨fun b hb => ?_, fun b hb => ?_, ?_, fun b hb => ?_, ?_⟩, fun b hb => ?_⟩
    · rw [T1] at hb
      unfold knE
      rw [show b = 0 by omega]; rfl
    · rw [T1] at hb
      unfold noE
      rw [show b = 0 by omega]; rfl
    · refine ⟨Nat.succ_pos _, rfl, fun b hb _ => ?_⟩
      rw [T1] at hb
      rw [show b = 0 by omega]; rfl
    · rw [T1] at hb
      unfold fiE
      rw [show b = 0 by omega]
      exact ⟨fun _ => Or.inl rfl, fun _ => rfl⟩
    · refine ⟨Nat.succ_pos _, rfl, fun b hb _ => ?_⟩
      rw [T1] at hb
      rw [show b = 0 by omega]; rfl
    · rw [T1] at hb
      have : decide (b = 0) = false := decide_eq_false (by omega)
      exact ⟨this, this, this⟩
theorem invY_0 (n : Nat) : InvY n (M0 n) Y0 := ⟨Nat.zero_le _, fun _ _ => Nat.le_refl _, fun v b hv h => by cases h⟩
theorem eL_0 : eL (fun _ => false) = 0 := tL_ext fun k hk => by
  rw [tL_eL _ hk]
  show false = (0#64).getLsbD k
  simp
theorem eL_1 : eL (fun b => decide (b = 0)) = 1 := tL_ext fun k hk => by
  rw [tL_eL _ hk]
  show decide (k = 0) = (1#64).getLsbD k
  simp [BitVec.getLsbD_one]
theorem eI_0 : eI (fun _ => false) = 0 := tI_ext fun k hk => by
  rw [tI_eI _ hk]
  show false = (0#32).getLsbD k
  simp
theorem oI_0 : oI 0 = -1 := rfl
/-! the nodes, as they come -/
def ndR (G : kG) (b n : Nat) (L : Nat → Nat) (F : Nat → Nat → Int32) (k : Nat) : va_E := match k % 5 with
  | 0 => .inr (1, [.int (nI (k / 5)), .int (nI n), .ref b, .int 0, .int 0, .long 0, .long 0, .ref (L (k + 1)), .ref (L (k + 2)), .ref (L (k + 3)), .ref (L (k + 4)), .long 1, .long 1, .long 1, .int (nI 0), .int (nI 0)])
  | 1 => .inl (gI G, 61, .inl (fun _ => 0))
  | 2 => .inl (gI G, 61, .inl (fun _ => 0))
  | _ => .inl (gI G, 41, .inl (F k))
def ndW (G : kG) (b n : Nat) (L : Nat → Nat) (F : Nat → Nat → Int32) (i : Nat) : va_W := (List.range (5 * i)).map (fun k => (L k, ndR G b n L F k))
def nx5 {α : Type} (L : Nat → α) (i : Nat) (a0 a1 a2 a3 a4 : α) : Nat → α := fun k => if k = 5 * i then a0 else if k = 5 * i + 1 then a1 else if k = 5 * i + 2 then a2 else if k = 5 * i + 3 then a3 else if k = 5 * i + 4 then a4 else L k
theorem nx5_lt {α : Type} {L : Nat → α} {i : Nat} {a0 a1 a2 a3 a4 : α} {k : Nat} (h : k < 5 * i) : nx5 L i a0 a1 a2 a3 a4 k = L k := by
  unfold nx5
  rw [if_neg (by omega), if_neg (by omega), if_neg (by omega), if_neg (by omega), if_neg (by omega)]
theorem nx5_0 {α : Type} {L : Nat → α} {i : Nat} {a0 a1 a2 a3 a4 : α} : nx5 L i a0 a1 a2 a3 a4 (5 * i) = a0 := by unfold nx5; rw [if_pos rfl]
theorem nx5_1 {α : Type} {L : Nat → α} {i : Nat} {a0 a1 a2 a3 a4 : α} : nx5 L i a0 a1 a2 a3 a4 (5 * i + 1) = a1 := by unfold nx5; rw [if_neg (by omega), if_pos rfl]
theorem nx5_2 {α : Type} {L : Nat → α} {i : Nat} {a0 a1 a2 a3 a4 : α} : nx5 L i a0 a1 a2 a3 a4 (5 * i + 2) = a2 := by unfold nx5; rw [if_neg (by omega), if_neg (by omega), if_pos rfl]
theorem nx5_3 {α : Type} {L : Nat → α} {i : Nat} {a0 a1 a2 a3 a4 : α} : nx5 L i a0 a1 a2 a3 a4 (5 * i + 3) = a3 := by unfold nx5; rw [if_neg (by omega), if_neg (by omega), if_neg (by omega), if_pos rfl]
theorem nx5_4 {α : Type} {L : Nat → α} {i : Nat} {a0 a1 a2 a3 a4 : α} : nx5 L i a0 a1 a2 a3 a4 (5 * i + 4) = a4 := by unfold nx5; rw [if_neg (by omega), if_neg (by omega), if_neg (by omega), if_neg (by omega), if_pos rfl]
theorem ndR_0 (G : kG) (b n : Nat) (L : Nat → Nat) (F : Nat → Nat → Int32) (v : Nat) : ndR G b n L F (5 * v) = .inr (1, [.int (nI v), .int (nI n), .ref b, .int 0, .int 0, .long 0, .long 0, .ref (L (5 * v + 1)), .ref (L (5 * v + 2)), .ref (L (5 * v + 3)), .ref (L (5 * v + 4)), .long 1, .long 1, .long 1, .int (nI 0), .int (nI 0)]) := by
  unfold ndR
  rw [show 5 * v % 5 = 0 by omega, show 5 * v / 5 = v by omega]; rfl
theorem ndR_1 (G : kG) (b n : Nat) (L : Nat → Nat) (F : Nat → Nat → Int32) (v : Nat) : ndR G b n L F (5 * v + 1) = .inl (gI G, 61, .inl (fun _ => 0)) := by
  unfold ndR
  rw [show (5 * v + 1) % 5 = 1 by omega]; rfl
theorem ndR_2 (G : kG) (b n : Nat) (L : Nat → Nat) (F : Nat → Nat → Int32) (v : Nat) : ndR G b n L F (5 * v + 2) = .inl (gI G, 61, .inl (fun _ => 0)) := by
  unfold ndR
  rw [show (5 * v + 2) % 5 = 2 by omega]; rfl
theorem ndR_3 (G : kG) (b n : Nat) (L : Nat → Nat) (F : Nat → Nat → Int32) (v : Nat) : ndR G b n L F (5 * v + 3) = .inl (gI G, 41, .inl (F (5 * v + 3))) := by
  unfold ndR
  rw [show (5 * v + 3) % 5 = 3 by omega]; rfl
theorem ndR_4 (G : kG) (b n : Nat) (L : Nat → Nat) (F : Nat → Nat → Int32) (v : Nat) : ndR G b n L F (5 * v + 4) = .inl (gI G, 41, .inl (F (5 * v + 4))) := by
  unfold ndR
  rw [show (5 * v + 4) % 5 = 4 by omega]; rfl
theorem ndR_ext {G : kG} {b n : Nat} {L L' : Nat → Nat} {F F' : Nat → Nat → Int32} {i k : Nat} (hk : k < 5 * i) (hL : ∀ j, j < 5 * i → L' j = L j) (hF : ∀ j, j < 5 * i → F' j = F j) : ndR G b n L' F' k = ndR G b n L F k := by
  have h5 : k % 5 < 5 := Nat.mod_lt _ (by decide)
  have e : k = 5 * (k / 5) + k % 5 := by omega
  rcases (show k % 5 = 0 ∨ k % 5 = 1 ∨ k % 5 = 2 ∨ k % 5 = 3 ∨ k % 5 = 4 by omega) with h | h | h | h | h
  · rw [show k = 5 * (k / 5) by omega, ndR_0, ndR_0, hL _ (by omega), hL _ (by omega), hL _ (by omega), hL _ (by omega)]
  · rw [show k = 5 * (k / 5) + 1 by omega, ndR_1, ndR_1]
  · rw [show k = 5 * (k / 5) + 2 by omega, ndR_2, ndR_2]
  · rw [show k = 5 * (k / 5) + 3 by omega, ndR_3, ndR_3, hF _ (by omega)]
  · rw [show k = 5 * (k / 5) + 4 by omega, ndR_4, ndR_4, hF _ (by omega)]
theorem ndW_s (G : kG) (b n : Nat) (L : Nat → Nat) (F : Nat → Nat → Int32) (i : Nat) (q0 q1 q2 q3 q4 : Nat) (g3 g4 : Nat → Int32) :
    ndW G b n L F i ++ [(q0, .inr (1, [.int (nI i), .int (nI n), .ref b, .int 0, .int 0, .long 0, .long 0, .ref q1, .ref q2, .ref q3, .ref q4, .long 1, .long 1, .long 1, .int (nI 0), .int (nI 0)])), (q1, .inl (gI G, 61, .inl (fun _ => 0))), (q2, .inl (gI G, 61, .inl (fun _ => 0))), (q3, .inl (gI G, 41, .inl g3)), (q4, .inl (gI G, 41, .inl g4))] = ndW G b n (nx5 L i q0 q1 q2 q3 q4) (nx5 F i g3 g3 g3 g3 g4) (i + 1) := by
  unfold ndW
  rw [show 5 * (i + 1) = 5 * i + 1 + 1 + 1 + 1 + 1 by omega]
  rw [List.range_succ, List.range_succ, List.range_succ, List.range_succ, List.range_succ]
  simp only [List.map_append, List.append_assoc]
  congr 1
  · apply List.map_congr_left
    intro k hk
    have hk := List.mem_range.mp hk
    rw [nx5_lt hk, ndR_ext hk (fun j hj => nx5_lt hj) (fun j hj => nx5_lt hj)]
  · simp only [List.map_cons, List.map_nil, List.cons_append, List.nil_append]
    rw [show 5 * i + 1 + 1 = 5 * i + 2 by omega, show 5 * i + 2 + 1 = 5 * i + 3 by omega, show 5 * i + 3 + 1 = 5 * i + 4 by omega]
    rw [ndR_0, ndR_1, ndR_2, ndR_3, ndR_4, nx5_0, nx5_1, nx5_2, nx5_3, nx5_4, nx5_3, nx5_4]
theorem ndW_at (G : kG) (b n : Nat) (L : Nat → Nat) (F : Nat → Nat → Int32) {i k : Nat} (h : k < 5 * i) : (ndW G b n L F i)[k]? = some (L k, ndR G b n L F k) := by simp [ndW, h]
theorem ndW_len (G : kG) (b n : Nat) (L : Nat → Nat) (F : Nat → Nat → Int32) (i : Nat) : (ndW G b n L F i).length = 5 * i := by simp [ndW]
