/-! the law: its parts -/
theorem pAbout_inv {G : kG} {u : CS} (h : Inv G u) (x y : Int32) : Inv G (pAbout u x y).2 := by unfold pAbout; (repeat' split) <;> exact h
theorem pSeen_inv {G : kG} {u : CS} (h : Inv G u) (x y : Int32) : Inv G (pSeen (gn G) u x y).2 := by unfold pSeen; (repeat' split) <;> exact h
theorem pVotes_inv {G : kG} {u : CS} (h : Inv G u) (x y : Int32) : Inv G (pVotes (gn G) u x y).2 := by unfold pVotes; (repeat' split) <;> exact h
theorem pVoted_inv {G : kG} {u : CS} (h : Inv G u) (x y : Int32) : Inv G (pVoted (gn G) u x y).2 := by unfold pVoted; (repeat' split) <;> exact h
theorem pReach_inv {G : kG} {u : CS} (h : Inv G u) (x y : Int32) : Inv G (pReach (gn G) u x y).2 := by unfold pReach; (repeat' split) <;> exact h
theorem pLedger_inv {G : kG} {u : CS} (h : Inv G u) (x y : Int32) : Inv G (pLedger (gn G) u x y).2 := by unfold pLedger; (repeat' split) <;> exact h
theorem pAgree_inv {G : kG} {u : CS} (h : Inv G u) : Inv G (pAgree (gn G) u).2 := h
theorem pCount_inv {G : kG} {u : CS} (h : Inv G u) (x : Int32) : Inv G (pCount (gn G) u x).2 := by unfold pCount; (repeat' split) <;> exact h
/-- where the two systems lie -/
def lwF (G0 : kG) (L1 L2 : Nat → Nat) (n : Nat) (s : State) : Prop := lay (kL G0 L1 n) ∧ layR (kL G0 L2 n) ∧ (∀ q, AC (kL G0 L1 n) q → s.heap.size ≤ q) ∧ (∀ q, AR (kL G0 L2 n) q → s.heap.size ≤ q) ∧ ∀ q, AC (kL G0 L1 n) q → ¬ AR (kL G0 L2 n) q
theorem wC_in {G : kG} {u : CS} {k : Nat} {q : Nat × va_E} (h : (wC G u)[k]? = some q) : AC G q.1 := by
  obtain ⟨h1, rfl⟩ := wC_some h
  exact ⟨k, h1, rfl⟩
theorem wR_in {G : kG} {r : RS} {k : Nat} {q : Nat × va_E} (h : (wR G r)[k]? = some q) : AR G q.1 := by
  obtain ⟨h1, rfl⟩ := wR_some h
  exact ⟨k, h1, rfl⟩
section LAW
variable {p : Program} {l : Launch} {e : Env} {s : State} {m : MethodId} {args : Array Value} {below : List Frame} {meth : Method} {c : Code} {H : Heap} {locs : List Loc} {Q : State → Prop} {cells slots : Nat} {R : Room}
variable {G0 : kG} {L1 L2 : Nat → Nat} {n : Nat} {pc : Nat} {ls : Array Slot} {rest st : List Value}
theorem lawC (X : CallFix p m c cL_law 4 s args WL RL) (hK : kC G0 s) (hF : lwF G0 L1 L2 n s) {u : CS} {r : RS} (h1 : va_P (gD G0) vwCl (wC (kL G0 L1 n) u) H) (h2 : va_P (gD G0) vwCl (wR (kL G0 L2 n) r) H) (hS : va_S (fun q : Nat => s.heap.size ≤ q) s.heap H locs)
    {y : MethodName} {bytes : ByteArray} {mL index : Nat} {rm : Room} {As : List Value} {w : Int32 × CS} (hc : vwCl[2]? = some (y.cls, TX2, 6)) (hM : KMi l (kL G0 L1 n) (AC (kL G0 L1 n)) (wC (kL G0 L1 n)) y bytes mL (some .int) rm (.ref (L1 0) :: As) u (fun z u' => w = (z, u'))) (hrc : rm.cells = 0 ∧ rm.slots = 0)
    (w1 : Cond.methodLink RL index y ∈ WL) (w2 : Cond.instanceMethod y ∈ WL) (w3 : Cond.selects y.cls y y ∈ WL) (w4 : Cond.initialized y.cls ∈ WL) (w5 : Cond.code y bytes mL (some .int) ∈ WL)
    (hd : y.cls ≠ "java/lang/invoke/MethodHandle" ∧ y.cls ≠ "java/lang/invoke/VarHandle" ∧ (parseMethodDescriptor y.desc).map (fun d => d.parameters.length) = some As.length) (hR : rm.frames + 1 ≤ R.frames ∧ 8 + (mL + 11) + rm.locals ≤ R.locals)
    (hsize : ls.size = 4) (hst : st = As.reverse ++ .ref (L1 0) :: rest) (hW : (rest.map fun v => v.category).sum ≤ 8) (hf : cells + 0 ≤ R.cells ∧ slots + 0 ≤ R.slots) (hdg : decode cL_law pc = .ok (.invokevirtual index, 3))
    (kk : ∀ (H : Heap) (locs : List Loc), va_P (gD G0) vwCl (wC (kL G0 L1 n) w.2) H → va_P (gD G0) vwCl (wR (kL G0 L2 n) r) H → va_S (fun q : Nat => s.heap.size ≤ q) s.heap H locs → W p l e R s m args below meth c H locs cells slots Q (F0 m (pc + 3) ls (.int w.1 :: rest))) :
    W p l e R s m args below meth c H locs cells slots Q (F0 m pc ls st) := by
  refine va_calli (k_runV (G := kL G0 L1 n) (q0 := 0) X hK h1 (wC_g (kL G0 L1 n) u (by decide)) hc hM hrc w1 w2 w3 w4 w5 hd hR hsize hst hW hf hdg) hS (fun q _ h => hF.2.2.1 q h) (fun q h => hF.2.2.1 q h) (fun z u' t H1 locs1 ht hvm hq hB hz hk1 hS1 => ?_)
  subst hq
  exact kk H1 locs1 (ht ▸ hB) (h2.kept fun k q hq => hk1 _ (h2 k q hq).lt fun h => hF.2.2.2.2 _ h (wR_in hq)) hS1
theorem lawR (X : CallFix p m c cL_law 4 s args WL RL) (hK : kC G0 s) (hF : lwF G0 L1 L2 n s) {u : CS} {r : RS} (h1 : va_P (gD G0) vwCl (wC (kL G0 L1 n) u) H) (h2 : va_P (gD G0) vwCl (wR (kL G0 L2 n) r) H) (hS : va_S (fun q : Nat => s.heap.size ≤ q) s.heap H locs)
    {y : MethodName} {bytes : ByteArray} {mL index : Nat} {rm : Room} {As : List Value} {w : Int32 × CS} (hc : vwCl[3]? = some (y.cls, TX3, 27)) (hM : KMi l (kL G0 L2 n) (AR (kL G0 L2 n)) (wR (kL G0 L2 n)) y bytes mL (some .int) rm (.ref (L2 0) :: As) r (fun zz rr => RP n w zz rr)) (hrc : rm.cells = 0 ∧ rm.slots = 0)
    (w1 : Cond.methodLink RL index y ∈ WL) (w2 : Cond.instanceMethod y ∈ WL) (w3 : Cond.selects y.cls y y ∈ WL) (w4 : Cond.initialized y.cls ∈ WL) (w5 : Cond.code y bytes mL (some .int) ∈ WL)
    (hd : y.cls ≠ "java/lang/invoke/MethodHandle" ∧ y.cls ≠ "java/lang/invoke/VarHandle" ∧ (parseMethodDescriptor y.desc).map (fun d => d.parameters.length) = some As.length) (hR : rm.frames + 1 ≤ R.frames ∧ 8 + (mL + 11) + rm.locals ≤ R.locals)
    (hsize : ls.size = 4) (hst : st = As.reverse ++ .ref (L2 0) :: rest) (hW : (rest.map fun v => v.category).sum ≤ 8) (hf : cells + 0 ≤ R.cells ∧ slots + 0 ≤ R.slots) (hdg : decode cL_law pc = .ok (.invokevirtual index, 3))
    (kk : ∀ (Y : YS) (H : Heap) (locs : List Loc), InvY n w.2.1 Y → va_P (gD G0) vwCl (wC (kL G0 L1 n) u) H → va_P (gD G0) vwCl (wR (kL G0 L2 n) (w.2.1, Y)) H → va_S (fun q : Nat => s.heap.size ≤ q) s.heap H locs → W p l e R s m args below meth c H locs cells slots Q (F0 m (pc + 3) ls (.int w.1 :: rest))) :
    W p l e R s m args below meth c H locs cells slots Q (F0 m pc ls st) := by
  refine va_calli (k_runV (G := kL G0 L2 n) (q0 := 0) X hK h2 (wR_g (kL G0 L2 n) r (by decide)) hc hM hrc w1 w2 w3 w4 w5 hd hR hsize hst hW hf hdg) hS (fun q _ h => hF.2.2.2.1 q h) (fun q h => hF.2.2.2.1 q h) (fun z rr t H1 locs1 ht hvm hq hB hz hk1 hS1 => ?_)
  obtain ⟨M, Y⟩ := rr
  obtain ⟨e1, e2, hY⟩ := hq
  have e2 : M = w.2.1 := e2
  subst e1
  subst e2
  exact kk Y H1 locs1 hY (h1.kept fun k q hq => hk1 _ (h1 k q hq).lt fun h => hF.2.2.2.2 _ (wC_in hq) h) (ht ▸ hB) hS1
end LAW
/-- the law's own helper, at the place 0 -/
def KPl (G : kG) (b L : Nat) (xs : Nat → Int32) : Array Value → State → Prop := va_Pc [.ref b, .int (nI 0)] (fun U => kC G U ∧ va_X b L xs U U.heap)
theorem KPl.blind {G : kG} {b L : Nat} {xs : Nat → Int32} : FrameBlind (KPl G b L xs) := fun a U g mk h => ⟨h.1, h.2.1.calling, va_X.moved (u := U) (U := U.calling g mk a) (Vm.Alike.refl U.vm) h.2.2⟩
set_option maxHeartbeats 1000000 in
theorem mL_cell (l : Launch) (G : kG) (b L : Nat) (xs : Nat → Int32) (hL : L ≤ 3073) : Met l yL_cell (.code yL_cell cL_cell 2 (some .int) :: WL) ({ frames := 0, cells := 0, slots := 0, locals := 0 }) (KPl G b L xs) (va_Qi (fun (r : Int32) (_ : Unit) => r = if 0 < L then xs 0 else 0) (fun _ _ => True) (fun _ => False)) 0 0 (fun _ => False) := by
  refine Met.ofW (cc := cL_cell) (maxL := 2) (ret := some .int) (by decide) rfl ?_
  intro p e s m args below meth c s₁ B hml hv
  obtain ⟨rfl, hK, hX⟩ := hv
  have hx := B.exec
  have hb := B.bytes
  have hr := B.returns
  have hlocks := B.notSynchronized
  have hl := lv_entry ([.ref b, .int (nI 0)]) (n := 2) (Nat.le_of_ble_eq_true rfl)
  rw [lg_entry_eq]
  generalize (lg_sl ([.ref b, .int (nI 0)]) ++ List.replicate (2 - (lg_sl ([.ref b, .int (nI 0)])).length) Slot.unset).toArray = ls at hl ⊢
  have hl : lv_has ls 2 [(0, .ref b), (1, .int (nI 0))] := hl
  have hS : va_S (fun _ => False) s.heap s.heap [] := va_S.rf
  have hbl : b < s.heap.size := by
    obtain ⟨scr, h1, _⟩ := hX
    exact (Array.getElem?_eq_some_iff.mp h1).1
  refine lv_iload_n hx hb dL_cell_0 rfl (lv_at hl 1 rfl) ?_
  refine lv_aload_n hx hb dL_cell_1 rfl (lv_at hl 0 rfl) ?_
  refine va_slen hx hb hX hbl (fun h => h) hS dL_cell_2 ?_
  refine lv_icmp_ge (tgt := 12) hx hb dL_cell_3 (by decide) (fun c_3 => ?_) (fun c_3 => ?_)
  · have c_3 : L ≤ 0 := cLe (a := L) (b := 0) c_3 (by omega) (by omega)
    refine lv_iconst (v := nI 0) hx hb dL_cell_12 (by decide) ?_
    exact W.iret (v := nI 0) hx hb hr (fun t ht hW => ⟨⟨nI 0, (), rfl, by rw [if_neg (by omega)]; rfl, trivial⟩, hS.F ht⟩) hS.2.2 dL_cell_13
  · have c_3 : 0 < L := cNle (a := L) (b := 0) c_3 (by omega) (by omega)
    refine lv_aload_n hx hb dL_cell_6 rfl (lv_at hl 0 rfl) ?_
    refine lv_iload_n hx hb dL_cell_7 rfl (lv_at hl 1 rfl) ?_
    refine va_sld hx hb hX hbl (fun h => h) hS (vp_in_nI c_3 (by omega)) dL_cell_8 ?_
    refine k_ti (congrArg xs (nI_clamp (n := 0) (by decide))) ?_
    refine lv_goto (tgt := 13) hx hb dL_cell_9 (by decide) ?_
    exact W.iret (v := xs 0) hx hb hr (fun t ht hW => ⟨⟨xs 0, (), rfl, by rw [if_pos c_3], trivial⟩, hS.F ht⟩) hS.2.2 dL_cell_13
/-- what the tables say at the law's entry -/
theorem kC_start {s : State} {a : Array Value} (hts : ∀ w ∈ lw_tbl, w.before a s = true) : ∃ G : kG, kC G s := by
  have hw : ∀ w ∈ WL, w.before a s = true := fun w h => hts w (WL_tbl h)
  obtain ⟨c0, i0, k0⟩ := u_known (C := RX0) (T := TX0) (N := 8) (n := 8) hw inX0 (hw _ tw_1_24)
  obtain ⟨c1, i1, k1⟩ := u_known (C := RX1) (T := TX1) (N := 16) (n := 16) hw inX1 (hw _ tw_1_71)
  obtain ⟨c2, i2, k2⟩ := u_known (C := RX2) (T := TX2) (N := 6) (n := 6) hw inX2 (hw _ tw_1_10)
  obtain ⟨c3, i3, k3⟩ := u_known (C := RX3) (T := TX3) (N := 27) (n := 27) hw inX3 (hw _ tw_2_130)
  obtain ⟨aI, kI, pI, f1, f2, f3⟩ := Cond.arrayClass_spec (hw _ tw_1_67)
  obtain ⟨aJ, kJ, pJ, g1, g2, g3⟩ := Cond.arrayClass_spec (hw _ tw_1_68)
  obtain ⟨aZ, kZ, pZ, h1, h2, h3⟩ := Cond.arrayClass_spec (hw _ tw_2_217)
  obtain ⟨comp, aO, kO, o1, o2, o3, o4, o5⟩ := Cond.arrayOver_spec (hts (Cond.arrayOver (.object "StreamChain$Node")) (List.mem_append_right _ (List.mem_append_left _ (List.mem_of_getElem? (i := 70) rfl))))
  refine ⟨((fun k => if k = 0 then c0 else if k = 1 then c1 else if k = 2 then c2 else c3, fun k => if k = 0 then i0 else if k = 1 then i1 else if k = 2 then i2 else i3), (aI, aJ, aZ, aO), fun _ => 0, 0), ⟨fun k q hq => ?_, fun k q hq => ?_⟩, fun w h => va_Nw.of (isNest_tables (nestL_nest w h)) (hts w (nestL_in w h))⟩
  · match k, hq with
    | 0, hq => cases hq; exact k0
    | 1, hq => cases hq; exact k1
    | 2, hq => cases hq; exact k2
    | 3, hq => cases hq; exact k3
    | k + 4, hq => simp [vwCl] at hq
  · match k, hq with
    | 0, hq => cases hq; exact ⟨fun n z => ⟨fun k h => (by cases h), kI, f2, pI, f3⟩, f1⟩
    | 1, hq => cases hq; exact ⟨fun n z => ⟨fun k h => (by cases h), kJ, g2, pJ, g3⟩, g1⟩
    | 2, hq => cases hq; exact ⟨fun n z => ⟨fun k h => (by cases h), kZ, h2, pZ, h3⟩, h1⟩
    | 3, hq => cases hq; exact ⟨fun n z => ⟨fun k h => (by cases h), kO, o3, comp, o4⟩, kO, comp, o3, o4, o1, o5⟩
    | k + 4, hq => simp [gT] at hq
theorem AO_start {s : State} {a : Array Value} (hts : ∀ w ∈ lw_tbl, w.before a s = true) : va_AO nNode s := va_AO.of (hts (Cond.arrayOver (.object "StreamChain$Node")) (List.mem_append_right _ (List.mem_append_left _ (List.mem_of_getElem? (i := 70) rfl))))
theorem lw_gt {L i : Nat} (hL : L ≤ 3073) (hi : i < 2 ^ 30) : nI L - nI 6 < nI i ↔ L < i + 6 := by
  rw [Int32.lt_iff_toInt_lt, pk_sub_toInt (by omega) (by omega), nI_toInt (by omega)]
  omega
