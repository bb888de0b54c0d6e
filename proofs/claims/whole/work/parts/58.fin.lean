theorem upd_m1 (j : Nat) : upd (fun _ => 0) 0 (-1) j = eP (fun _ => 0) j := by
  by_cases h : j = 0
  · subst h; rfl
  · simp [upd, eP, h]; rfl

def LR3 (h0 q7 q15 q23 q36 q44 q52 q60 q68 q77 q86 q95 q104 q112 q120 q128 q137 q145 : Nat) : Nat → Nat := fun k => ([h0, q7, q15, q23, q36, q44, q52, q60, q68, q77, q86, q95, q104, q112, q120, q128, q137, q145] : List Nat).getD k 0
set_option maxHeartbeats 1000000 in
set_option maxRecDepth 100000 in
theorem fin3 {G : kG} {n h0 q7 q15 q23 q36 q44 q52 q60 q68 q77 q86 q95 q104 q112 q120 q128 q137 q145 : Nat} {f g : Nat → Int32} {H : Heap} (hf : ∀ j, j < 41 → f j = nI (j % n)) (hg : ∀ j, j < 410 → g j = -1) (hP : va_P (gD G) vwCl [(h0, .inr (3, [.int 0, .int (nI n), .ref q7, .ref q15, .ref q23, .int 0, .int (nI 1), .ref q36, .ref q44, .ref q52, .ref q60, .ref q68, .ref q77, .ref q86, .ref q95, .int 0, .int 0, .ref q104, .int 0, .ref q112, .ref q120, .ref q128, .int 0, .int 0, .int 0, .ref q137, .ref q145])), (q7, .inl (gZ G, 10, .inl (fun _ => 0))), (q15, .inl (gI G, 10, .inl (fun _ => 0))), (q23, .inl (gI G, 41, .inl (f))), (q36, .inl (gI G, 61, .inl (upd (fun _ => 0) 0 ((-1))))), (q44, .inl (gI G, 61, .inl (fun _ => 0))), (q52, .inl (gI G, 61, .inl (fun _ => 0))), (q60, .inl (gI G, 61, .inl (fun _ => 0))), (q68, .inl (gI G, 61, .inl (upd (fun _ => 0) 0 ((-1))))), (q77, .inl (gZ G, 6710, .inl (fun _ => 0))), (q86, .inl (gZ G, 6710, .inl (fun _ => 0))), (q95, .inl (gI G, 610, .inl (fun _ => 0))), (q104, .inl (gI G, 410, .inl (g))), (q112, .inl (gZ G, 61, .inl (fun _ => 0))), (q120, .inl (gZ G, 61, .inl (fun _ => 0))), (q128, .inl (gZ G, 61, .inl (fun _ => 0))), (q137, .inl (gZ G, 671, .inl (fun _ => 0))), (q145, .inl (gI G, 61, .inl (fun _ => 0)))] H) : va_P (gD G) vwCl (wR (kL G (LR3 h0 q7 q15 q23 q36 q44 q52 q60 q68 q77 q86 q95 q104 q112 q120 q128 q137 q145) n) (M0 n, Y0)) H := by
  refine P_re hP id (fun k q hk => ?_)
  obtain ⟨h1, rfl⟩ := wR_some hk
  match k, h1 with
  | 0, _ => exact ⟨_, rfl, Or.inl rfl⟩
  | 1, _ => exact ⟨_, rfl, eqE_i (fun _ _ => rfl)⟩
  | 2, _ => exact ⟨_, rfl, eqE_i (fun _ _ => rfl)⟩
  | 3, _ => exact ⟨_, rfl, eqE_i hf⟩
  | 4, _ => exact ⟨_, rfl, eqE_i (fun j _ => upd_m1 j)⟩
  | 5, _ => exact ⟨_, rfl, eqE_i (fun _ _ => rfl)⟩
  | 6, _ => exact ⟨_, rfl, eqE_i (fun _ _ => rfl)⟩
  | 7, _ => exact ⟨_, rfl, eqE_i (fun _ _ => rfl)⟩
  | 8, _ => exact ⟨_, rfl, eqE_i (fun j _ => upd_m1 j)⟩
  | 9, _ => exact ⟨_, rfl, eqE_i (fun _ _ => rfl)⟩
  | 10, _ => exact ⟨_, rfl, eqE_i (fun _ _ => rfl)⟩
  | 11, _ => exact ⟨_, rfl, eqE_i (fun _ _ => rfl)⟩
  | 12, _ => exact ⟨_, rfl, eqE_i hg⟩
  | 13, _ => exact ⟨_, rfl, eqE_i (fun _ _ => rfl)⟩
  | 14, _ => exact ⟨_, rfl, eqE_i (fun _ _ => rfl)⟩
  | 15, _ => exact ⟨_, rfl, eqE_i (fun _ _ => rfl)⟩
  | 16, _ => exact ⟨_, rfl, eqE_i (fun _ _ => rfl)⟩
  | 17, _ => exact ⟨_, rfl, eqE_i (fun _ _ => rfl)⟩
  | k + 18, h => exact absurd h (by omega)
set_option maxRecDepth 100000 in
theorem fin3D {G : kG} {n h0 q7 q15 q23 q36 q44 q52 q60 q68 q77 q86 q95 q104 q112 q120 q128 q137 q145 : Nat} {f g : Nat → Int32} {A : Nat → Prop} (hD : va_D A [(h0, .inr (3, [.int 0, .int (nI n), .ref q7, .ref q15, .ref q23, .int 0, .int (nI 1), .ref q36, .ref q44, .ref q52, .ref q60, .ref q68, .ref q77, .ref q86, .ref q95, .int 0, .int 0, .ref q104, .int 0, .ref q112, .ref q120, .ref q128, .int 0, .int 0, .int 0, .ref q137, .ref q145])), (q7, .inl (gZ G, 10, .inl (fun _ => 0))), (q15, .inl (gI G, 10, .inl (fun _ => 0))), (q23, .inl (gI G, 41, .inl (f))), (q36, .inl (gI G, 61, .inl (upd (fun _ => 0) 0 ((-1))))), (q44, .inl (gI G, 61, .inl (fun _ => 0))), (q52, .inl (gI G, 61, .inl (fun _ => 0))), (q60, .inl (gI G, 61, .inl (fun _ => 0))), (q68, .inl (gI G, 61, .inl (upd (fun _ => 0) 0 ((-1))))), (q77, .inl (gZ G, 6710, .inl (fun _ => 0))), (q86, .inl (gZ G, 6710, .inl (fun _ => 0))), (q95, .inl (gI G, 610, .inl (fun _ => 0))), (q104, .inl (gI G, 410, .inl (g))), (q112, .inl (gZ G, 61, .inl (fun _ => 0))), (q120, .inl (gZ G, 61, .inl (fun _ => 0))), (q128, .inl (gZ G, 61, .inl (fun _ => 0))), (q137, .inl (gZ G, 671, .inl (fun _ => 0))), (q145, .inl (gI G, 61, .inl (fun _ => 0)))]) : va_D A (wR (kL G (LR3 h0 q7 q15 q23 q36 q44 q52 q60 q68 q77 q86 q95 q104 q112 q120 q128 q137 q145) n) (M0 n, Y0)) := by
  refine D_re hD id (fun k q hk => ?_) (fun i j _ _ e => e)
  obtain ⟨h1, rfl⟩ := wR_some hk
  match k, h1 with
  | 0, _ => exact ⟨_, rfl⟩
  | 1, _ => exact ⟨_, rfl⟩
  | 2, _ => exact ⟨_, rfl⟩
  | 3, _ => exact ⟨_, rfl⟩
  | 4, _ => exact ⟨_, rfl⟩
  | 5, _ => exact ⟨_, rfl⟩
  | 6, _ => exact ⟨_, rfl⟩
  | 7, _ => exact ⟨_, rfl⟩
  | 8, _ => exact ⟨_, rfl⟩
  | 9, _ => exact ⟨_, rfl⟩
  | 10, _ => exact ⟨_, rfl⟩
  | 11, _ => exact ⟨_, rfl⟩
  | 12, _ => exact ⟨_, rfl⟩
  | 13, _ => exact ⟨_, rfl⟩
  | 14, _ => exact ⟨_, rfl⟩
  | 15, _ => exact ⟨_, rfl⟩
  | 16, _ => exact ⟨_, rfl⟩
  | 17, _ => exact ⟨_, rfl⟩
  | k + 18, h => exact absurd h (by omega)

def LC2 (h0 a q b q7 q15 q23 q31 q39 q47 q55 : Nat) (L : Nat → Nat) : Nat → Nat := fun k => if k < 11 then ([h0, a, q, b, q7, q15, q23, q31, q39, q47, q55] : List Nat).getD k 0 else L (k - 11)
def g2 (k : Nat) : Nat := if k < 11 then ([0, 9, 10, 1, 2, 3, 4, 5, 6, 7, 8] : List Nat).getD k 0 else k
theorem g2_inj : ∀ i j, g2 i = g2 j → i = j := by
  have h1 : ∀ i, i < 11 → ∀ j, j < 11 → g2 i = g2 j → i = j := by decide +kernel
  have h2 : ∀ i, i < 11 → g2 i < 11 := by decide +kernel
  intro i j h
  rcases Nat.lt_or_ge i 11 with a | a
  · rcases Nat.lt_or_ge j 11 with b | b
    · exact h1 i a j b h
    · have := h2 i a
      have e : g2 j = j := by unfold g2; rw [if_neg (by omega)]
      omega
  · have e1 : g2 i = i := by unfold g2; rw [if_neg (by omega)]
    rcases Nat.lt_or_ge j 11 with b | b
    · have := h2 j b
      omega
    · have e : g2 j = j := by unfold g2; rw [if_neg (by omega)]
      omega
theorem ch0_eq : vp_updL (fun _ => 0) 0 1 = fun b => eL (xCh X0s b) := by
  refine updL_fn ?_ (fun j hj => ?_)
  · show eL (fun c => decide (0 = 0) && decide (c = 0)) = 1
    rw [← eL_1]; congr 1
  · show eL (fun c => decide (j = 0) && decide (c = 0)) = 0
    rw [← eL_0]; congr 1; funext c; rw [decide_eq_false hj]; rfl
theorem eI_v (b v : Nat) : (0 : Int32) = eI (vB (fun _ _ => false) b v) := by
  rw [← eI_0]; congr 1; funext k; simp [vB]
theorem nd_idx (k : Nat) (h : 11 ≤ k) : ∃ v i, i < 5 ∧ k = 11 + 5 * v + i := ⟨(k - 11) / 5, (k - 11) % 5, Nat.mod_lt _ (by decide), by omega⟩

set_option maxHeartbeats 1000000 in
set_option maxRecDepth 100000 in
theorem fin2 {G : kG} {n h0 a q b q7 q15 q23 q31 q39 q47 q55 : Nat} {L : Nat → Nat} {F : Nat → Nat → Int32} {f : Nat → Option Nat} {f2 : Nat → Int32} {H : Heap} (hf : ∀ j, j < n → f j = some (L (5 * j))) (hF : ∀ v, v < n → ∀ j, j < 41 → F (5 * v + 3) j = -1 ∧ F (5 * v + 4) j = -1) (hf2 : ∀ j, j < 41 → f2 j = nI (j % n)) (hP : va_P (gD G) vwCl ([(h0, .inr (2, [.ref b, .ref a, .ref q, .int 0, .int 0, .int 0])), (b, .inr (0, [.ref q7, .ref q15, .ref q23, .ref q31, .ref q39, .ref q47, .ref q55, .int (nI 1)])), (q7, .inl (gI G, 61, .inl (upd (fun _ => 0) 0 ((-1))))), (q15, .inl (gI G, 61, .inl (fun _ => 0))), (q23, .inl (gI G, 61, .inl (fun _ => 0))), (q31, .inl (gI G, 61, .inl (fun _ => 0))), (q39, .inl (gI G, 61, .inl (upd (fun _ => 0) 0 ((-1))))), (q47, .inl (gJ G, 61, .inr (.inl (vp_updL (fun _ => 0) 0 1)))), (q55, .inl (gI G, 61, .inl (fun _ => 0))), (a, .inl (gO G, n, .inr (.inr (.inr (.inr (f)))))), (q, .inl (gI G, 41, .inl (f2)))] ++ ndW G b n L F n) H) : va_P (gD G) vwCl (wC (kL G (LC2 h0 a q b q7 q15 q23 q31 q39 q47 q55 L) n) (u0 n)) H := by
  have ch0 : (Sum.inl (gJ G, 61, .inr (.inl (vp_updL (fun _ => 0) 0 1))) : va_E) = .inl (gJ G, 61, .inr (.inl (fun b => eL (xCh X0s b)))) := by rw [ch0_eq]
  refine P_re hP g2 (fun k q hk => ?_)
  obtain ⟨h1, rfl⟩ := wC_some hk
  rcases Nat.lt_or_ge k 11 with h11 | h11
  · match k, h11 with
    | 0, _ => exact ⟨_, rfl, Or.inl rfl⟩
    | 1, _ => exact ⟨_, rfl, eqE_q (fun j hj => (hf j hj).trans (by rw [show gL (kL G (LC2 h0 a q b q7 q15 q23 q31 q39 q47 q55 L) n) (11 + 5 * j) = L (5 * j) from by show (if 11 + 5 * j < 11 then _ else L (11 + 5 * j - 11)) = _; rw [if_neg (by omega), show 11 + 5 * j - 11 = 5 * j by omega]]))⟩
    | 2, _ => exact ⟨_, rfl, eqE_i hf2⟩
    | 3, _ => exact ⟨_, rfl, Or.inl rfl⟩
    | 4, _ => exact ⟨_, rfl, eqE_i (fun j _ => upd_m1 j)⟩
    | 5, _ => exact ⟨_, rfl, eqE_i (fun _ _ => rfl)⟩
    | 6, _ => exact ⟨_, rfl, eqE_i (fun _ _ => rfl)⟩
    | 7, _ => exact ⟨_, rfl, eqE_i (fun _ _ => rfl)⟩
    | 8, _ => exact ⟨_, rfl, eqE_i (fun j _ => upd_m1 j)⟩
    | 9, _ => exact ⟨_, rfl, Or.inl ch0⟩
    | 10, _ => exact ⟨_, rfl, eqE_i (fun _ _ => rfl)⟩
    | k + 11, h => exact absurd h (by omega)
  · clear hk
    obtain ⟨v, i, hi, rfl⟩ := nd_idx k h11
    have hv : v < n := by
      have : 11 + 5 * v + i < 11 + 5 * n := h1
      omega
    have e1 : g2 (11 + 5 * v + i) = 11 + (5 * v + i) := by unfold g2; rw [if_neg (by omega)]; omega
    have e2 : gL (kL G (LC2 h0 a q b q7 q15 q23 q31 q39 q47 q55 L) n) (11 + 5 * v + i) = L (5 * v + i) := by
      show (if 11 + 5 * v + i < 11 then _ else L (11 + 5 * v + i - 11)) = _
      rw [if_neg (by omega), show 11 + 5 * v + i - 11 = 5 * v + i by omega]
    have e3 : ([(h0, .inr (2, [.ref b, .ref a, .ref q, .int 0, .int 0, .int 0])), (b, .inr (0, [.ref q7, .ref q15, .ref q23, .ref q31, .ref q39, .ref q47, .ref q55, .int (nI 1)])), (q7, .inl (gI G, 61, .inl (upd (fun _ => 0) 0 ((-1))))), (q15, .inl (gI G, 61, .inl (fun _ => 0))), (q23, .inl (gI G, 61, .inl (fun _ => 0))), (q31, .inl (gI G, 61, .inl (fun _ => 0))), (q39, .inl (gI G, 61, .inl (upd (fun _ => 0) 0 ((-1))))), (q47, .inl (gJ G, 61, .inr (.inl (vp_updL (fun _ => 0) 0 1)))), (q55, .inl (gI G, 61, .inl (fun _ => 0))), (a, .inl (gO G, n, .inr (.inr (.inr (.inr (f)))))), (q, .inl (gI G, 41, .inl (f2)))] ++ ndW G b n L F n)[11 + (5 * v + i)]? = some (L (5 * v + i), ndR G b n L F (5 * v + i)) := by
      rw [List.getElem?_append_right (by show 11 ≤ 11 + (5 * v + i); omega)]
      show (ndW G b n L F n)[11 + (5 * v + i) - 11]? = _
      rw [show 11 + (5 * v + i) - 11 = 5 * v + i by omega, ndW_at _ _ _ _ _ (by omega)]
    refine ⟨_, by rw [e1, e3, e2], ?_⟩
    rw [ctC_n _ _ _ hi]
    rcases (show i = 0 ∨ i = 1 ∨ i = 2 ∨ i = 3 ∨ i = 4 by omega) with h | h | h | h | h
    · subst h
      have a1 : gL (kL G (LC2 h0 a q b q7 q15 q23 q31 q39 q47 q55 L) n) (12 + 5 * v) = L (5 * v + 1) := by
        show (if 12 + 5 * v < 11 then _ else L (12 + 5 * v - 11)) = _
        rw [if_neg (by omega), show 12 + 5 * v - 11 = 5 * v + 1 by omega]
      have a2 : gL (kL G (LC2 h0 a q b q7 q15 q23 q31 q39 q47 q55 L) n) (13 + 5 * v) = L (5 * v + 2) := by
        show (if 13 + 5 * v < 11 then _ else L (13 + 5 * v - 11)) = _
        rw [if_neg (by omega), show 13 + 5 * v - 11 = 5 * v + 2 by omega]
      have a3 : gL (kL G (LC2 h0 a q b q7 q15 q23 q31 q39 q47 q55 L) n) (14 + 5 * v) = L (5 * v + 3) := by
        show (if 14 + 5 * v < 11 then _ else L (14 + 5 * v - 11)) = _
        rw [if_neg (by omega), show 14 + 5 * v - 11 = 5 * v + 3 by omega]
      have a4 : gL (kL G (LC2 h0 a q b q7 q15 q23 q31 q39 q47 q55 L) n) (15 + 5 * v) = L (5 * v + 4) := by
        show (if 15 + 5 * v < 11 then _ else L (15 + 5 * v - 11)) = _
        rw [if_neg (by omega), show 15 + 5 * v - 11 = 5 * v + 4 by omega]
      have z0 : eL (pB (mHs (u0 n).1) v) = 0 := eL_0
      have z1 : eL (pB (mWy (u0 n).1) v) = 0 := eL_0
      have z2 : eL (xKn (u0 n).2 v) = 1 := eL_1
      have z3 : eL (xNo (u0 n).2 v) = 1 := eL_1
      have z4 : eL (xFi (u0 n).2 v) = 1 := eL_1
      refine Or.inl ?_
      rw [Nat.add_zero, ndR_0]
      show _ = (Sum.inr (1, fsN _ (u0 n) v) : va_E)
      rw [fsN, a1, a2, a3, a4, z0, z1, z2, z3, z4]
      rfl
    · subst h; rw [ndR_1]; exact eqE_i (fun j _ => eI_v j v)
    · subst h; rw [ndR_2]; exact eqE_i (fun j _ => eI_v j v)
    · subst h; rw [ndR_3]; exact eqE_i (fun j hj => (hF v hv j hj).1)
    · subst h; rw [ndR_4]; exact eqE_i (fun j hj => (hF v hv j hj).2)
set_option maxRecDepth 100000 in
theorem fin2D {G : kG} {n h0 a q b q7 q15 q23 q31 q39 q47 q55 : Nat} {L : Nat → Nat} {F : Nat → Nat → Int32} {f : Nat → Option Nat} {f2 : Nat → Int32} {A : Nat → Prop} (hD : va_D A ([(h0, .inr (2, [.ref b, .ref a, .ref q, .int 0, .int 0, .int 0])), (b, .inr (0, [.ref q7, .ref q15, .ref q23, .ref q31, .ref q39, .ref q47, .ref q55, .int (nI 1)])), (q7, .inl (gI G, 61, .inl (upd (fun _ => 0) 0 ((-1))))), (q15, .inl (gI G, 61, .inl (fun _ => 0))), (q23, .inl (gI G, 61, .inl (fun _ => 0))), (q31, .inl (gI G, 61, .inl (fun _ => 0))), (q39, .inl (gI G, 61, .inl (upd (fun _ => 0) 0 ((-1))))), (q47, .inl (gJ G, 61, .inr (.inl (vp_updL (fun _ => 0) 0 1)))), (q55, .inl (gI G, 61, .inl (fun _ => 0))), (a, .inl (gO G, n, .inr (.inr (.inr (.inr (f)))))), (q, .inl (gI G, 41, .inl (f2)))] ++ ndW G b n L F n)) : va_D A (wC (kL G (LC2 h0 a q b q7 q15 q23 q31 q39 q47 q55 L) n) (u0 n)) := by
  refine D_re hD g2 (fun k q hk => ?_) (fun i j _ _ e => g2_inj i j e)
  obtain ⟨h1, rfl⟩ := wC_some hk
  rcases Nat.lt_or_ge k 11 with h11 | h11
  · match k, h11 with
    | 0, _ => exact ⟨_, rfl⟩
    | 1, _ => exact ⟨_, rfl⟩
    | 2, _ => exact ⟨_, rfl⟩
    | 3, _ => exact ⟨_, rfl⟩
    | 4, _ => exact ⟨_, rfl⟩
    | 5, _ => exact ⟨_, rfl⟩
    | 6, _ => exact ⟨_, rfl⟩
    | 7, _ => exact ⟨_, rfl⟩
    | 8, _ => exact ⟨_, rfl⟩
    | 9, _ => exact ⟨_, rfl⟩
    | 10, _ => exact ⟨_, rfl⟩
    | k + 11, h => exact absurd h (by omega)
  · clear hk
    obtain ⟨v, i, hi, rfl⟩ := nd_idx k h11
    have hv : v < n := by
      have : 11 + 5 * v + i < 11 + 5 * n := h1
      omega
    have e1 : g2 (11 + 5 * v + i) = 11 + (5 * v + i) := by unfold g2; rw [if_neg (by omega)]; omega
    have e2 : gL (kL G (LC2 h0 a q b q7 q15 q23 q31 q39 q47 q55 L) n) (11 + 5 * v + i) = L (5 * v + i) := by
      show (if 11 + 5 * v + i < 11 then _ else L (11 + 5 * v + i - 11)) = _
      rw [if_neg (by omega), show 11 + 5 * v + i - 11 = 5 * v + i by omega]
    have e3 : ([(h0, .inr (2, [.ref b, .ref a, .ref q, .int 0, .int 0, .int 0])), (b, .inr (0, [.ref q7, .ref q15, .ref q23, .ref q31, .ref q39, .ref q47, .ref q55, .int (nI 1)])), (q7, .inl (gI G, 61, .inl (upd (fun _ => 0) 0 ((-1))))), (q15, .inl (gI G, 61, .inl (fun _ => 0))), (q23, .inl (gI G, 61, .inl (fun _ => 0))), (q31, .inl (gI G, 61, .inl (fun _ => 0))), (q39, .inl (gI G, 61, .inl (upd (fun _ => 0) 0 ((-1))))), (q47, .inl (gJ G, 61, .inr (.inl (vp_updL (fun _ => 0) 0 1)))), (q55, .inl (gI G, 61, .inl (fun _ => 0))), (a, .inl (gO G, n, .inr (.inr (.inr (.inr (f)))))), (q, .inl (gI G, 41, .inl (f2)))] ++ ndW G b n L F n)[11 + (5 * v + i)]? = some (L (5 * v + i), ndR G b n L F (5 * v + i)) := by
      rw [List.getElem?_append_right (by show 11 ≤ 11 + (5 * v + i); omega)]
      show (ndW G b n L F n)[11 + (5 * v + i) - 11]? = _
      rw [show 11 + (5 * v + i) - 11 = 5 * v + i by omega, ndW_at _ _ _ _ _ (by omega)]
    exact ⟨_, by rw [e1, e3, e2]⟩
