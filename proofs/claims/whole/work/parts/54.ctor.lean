/-! rows for constructors: worlds that are lists, and grow -/
theorem ra_uniq {U : State} {a b : ClassId} {ty : FieldType} (h1 : va_RA U a ty) (h2 : va_RA U b ty) : a = b := by
  cases ty with
  | object C =>
    obtain ⟨_, _, _, _, _, h3⟩ := h1
    obtain ⟨_, _, _, _, _, h4⟩ := h2
    exact Option.some.inj (h3.symm.trans h4)
  | _ => exact Option.some.inj (h1.symm.trans h2)
def nNode : String := "StreamChain$Node"
def KPx (G : kG) (av : List Value) (ws : va_W) (sz : Nat) : Array Value → State → Prop := va_Pc av (fun U => (kC G U ∧ va_AO nNode U) ∧ va_P (gD G) vwCl ws U.heap ∧ U.heap.size = sz)
theorem KPx.blind {G : kG} {av : List Value} {ws : va_W} {sz : Nat} : FrameBlind (KPx G av ws sz) := fun a U g mk h => ⟨h.1, ⟨h.2.1.1.calling, va_AO.moved (u := U) (U := U.calling g mk a) (Vm.Alike.refl U.vm) h.2.1.2⟩, h.2.2⟩
/-- a constructor's contract out of the walk of its body -/
theorem K_ofX {l : Launch} {G : kG} {y : MethodName} {cc : ByteArray} {mL : Nat} {ret : Option FieldType} {rm : Room} {av : List Value} {ws : va_W} {sz : Nat} {Qc : Array Value → State → Outcome → State → Prop} {mc ms : Nat} {free : Addr → Prop}
    (hy : plainName y.cls = true) (hlen : (lg_sl av).length ≤ mL)
    (body : ∀ (p : Program) (e : Env) (s : State) (m : MethodId) (below : List Frame) (meth : Method) (c : Code), CallFix p m c cc mL s av.toArray WL y.cls → meth.sig.returnType = ret → meth.locks = false → meth.name = y.name → kC G s → va_AO nNode s → va_P (gD G) vwCl ws s.heap → s.heap.size = sz →
      ∀ ls : Array Slot, lv_has ls mL (lv_args 0 av) → W p l e rm s m av.toArray below meth c s.heap [] 0 0 (MQ below Qc av.toArray s mc ms free) (F0 m 0 ls [])) :
    Met l y (.code y cc mL ret :: WL) rm (KPx G av ws sz) Qc mc ms free := by
  refine Met.ofW (cc := cc) (maxL := mL) (ret := ret) hy rfl ?_
  intro p e s m args below meth c s₁ B hml hv
  obtain ⟨rfl, ⟨hK, hO⟩, hP, hz⟩ := hv
  have hts := atoms_spec (ws := .code y cc mL ret :: WL) B.pre
  have hl := lv_entry av (n := mL) hlen
  rw [lg_entry_eq]
  exact body p e s m below meth c ⟨B.exec, B.bytes, hml, findClass_of_methodNamed B.named, fun w h => hts w (List.mem_cons_of_mem _ h)⟩ B.returns B.notSynchronized (name_of_methodNamed B.named B.method).1 hK hO hP hz _ hl
section KX
variable {p : Program} {l : Launch} {e : Env} {R : Room} {s : State} {m : MethodId} {args : Array Value} {below : List Frame} {meth : Method} {c : Code} {H : Heap} {locs : List Loc} {cells slots : Nat} {Q : State → Prop}
variable {G : kG} {A : Nat → Prop} {cc : ByteArray} {nL : Nat} {own : String} {pc : Nat} {ls : Array Slot} {rest st : List Value} {ws : va_W} {a : Nat} {H0 : Heap}
/-- Object's constructor -/
theorem k_obj (X : CallFix p m c cc nL s args WL own) {idx : Nat} (h1 : Cond.methodLink own idx Lib.objectInit ∈ WL) (h2 : Cond.instanceMethod Lib.objectInit ∈ WL) (h3 : Cond.code Lib.objectInit ⟨#[0xb1]⟩ 1 none ∈ WL) (hsize : ls.size = nL) (hd : decode cc pc = .ok (.invokespecial idx, 3)) (hframes : 1 ≤ R.frames) (hlocals : (rest.map fun v => v.category).sum + 12 ≤ R.locals)
    (kk : W p l e R s m args below meth c H locs cells slots Q (F0 m (pc + 3) ls rest)) : W p l e R s m args below meth c H locs cells slots Q (F0 m pc ls (.ref a :: rest)) :=
  W.objInit X.1 X.2.1 X.2.2.2.1 (X.2.2.2.2 _ h1) (X.2.2.2.2 _ h2) (X.2.2.2.2 _ h3) (g := F0 m pc ls (.ref a :: rest)) rfl (hsize.trans X.2.2.1.symm) rfl hd hframes (by show 2 * 0 + _ + 12 ≤ _; omega) kk
/-- an array of numbers is made -/
theorem k_newa (X : CallFix p m c cc nL s args WL own) (hK : kC G s) (hP : va_P (gD G) vwCl ws H) (hD : va_D A ws) (hS : va_S A H0 H locs) (hA : ∀ q, H0.size ≤ q → A q) {atype : ArrayType} {ty : FieldType} (hty : newarray.typeOf atype = ty) (hw : Cond.arrayClass ty ∈ WL) (t0 : Nat) {cA : ClassId} (ht : (gT G)[t0]? = some (cA, ty)) {n : Int32} {N' : Nat} {a0 : vp_A} (ha : ∀ cA : ClassId, vp_cell cA a0 = arrV cA N' (fun _ => defaultValue ty)) (hn : ¬ n < 0) (hN : n.toNatClampNeg = N') (hbytes : N' * componentBytes ty ≤ 536870912) (hcells : cells + 1 ≤ R.cells) (hslots : slots + N' ≤ R.slots) (hdg : decode cc pc = .ok (.newarray atype, 2))
    (kk : ∀ (q : Nat) (H1 : Heap), va_P (gD G) vwCl (ws ++ [(q, .inl (cA, a0))]) H1 → va_D A (ws ++ [(q, .inl (cA, a0))]) → va_S A H0 H1 locs → W p l e R s m args below meth c H1 locs (cells + 1) (slots + N') Q (F0 m (pc + 2) ls (.ref q :: rest))) : W p l e R s m args below meth c H locs cells slots Q (F0 m pc ls (.int n :: rest)) :=
  va_newa X.1 X.2.1 (by rw [hty]; exact X.2.2.2.2 _ hw) hty hK.1 hP hD hS hA ha hn hN hbytes hcells hslots hdg (fun q cA' H1 hK1 hP1 hD1 hS1 => by
    have e : cA' = cA := ra_uniq (hK1.2 (gT G).length (cA', ty) (by simp)).2 (hK.1.2 t0 _ ht).2
    subst e
    exact kk q H1 hP1 hD1 hS1)
/-- an array of references is made -/
theorem k_newq (X : CallFix p m c cc nL s args WL own) (hK : kC G s) (hO : va_AO nNode s) (hP : va_P (gD G) vwCl ws H) (hD : va_D A ws) (hS : va_S A H0 H locs) (hA : ∀ q, H0.size ≤ q → A q) {index : Nat} (hw : Cond.classLink own index nNode ∈ WL) {n : Int32} {N' : Nat} (hn : ¬ n < 0) (hN : n.toNatClampNeg = N') (hbytes : N' * 4 ≤ 536870912) (hcells : cells + 1 ≤ R.cells) (hslots : slots + N' ≤ R.slots) (hdg : decode cc pc = .ok (.anewarray index, 3))
    (kk : ∀ (q : Nat) (H1 : Heap), va_P (gD G) vwCl (ws ++ [(q, .inl (gO G, N', .inr (.inr (.inr (.inr (fun _ => none))))))]) H1 → va_D A (ws ++ [(q, .inl (gO G, N', .inr (.inr (.inr (.inr (fun _ => none))))))]) → va_S A H0 H1 locs → W p l e R s m args below meth c H1 locs (cells + 1) (slots + N') Q (F0 m (pc + 3) ls (.ref q :: rest))) : W p l e R s m args below meth c H locs cells slots Q (F0 m pc ls (.int n :: rest)) :=
  va_newq X.1 X.2.1 X.2.2.2.1 (X.2.2.2.2 _ hw) hO hK.1 hP hD hS hA hn hN hbytes hcells hslots hdg (fun q cA' H1 hK1 hP1 hD1 hS1 => by
    have e : cA' = gO G := ra_uniq (hK1.2 (gT G).length (cA', .object nNode) (by simp)).2 (hK.1.2 3 _ rfl).2
    subst e
    exact kk q H1 hP1 hD1 hS1)
/-- fields in a constructor: a final one, and one that isn't -/
theorem k_pF (X : CallFix p m c cc nL s args WL own) (hK : kC G s) {C : String} {T : u_T} {N ci : Nat} (hin : ∀ w ∈ u_ws C T N, w ∈ WL) (hc : vwCl[ci]? = some (C, T, N)) {ty0 : Nat → FieldType} (hty : ∀ k, k < N → parseFieldDescriptor (T k).2.2.1 = some (ty0 k)) (hnm : ∀ a, a < N → ∀ b, b < N → a ≠ b → (T a).2.1 ≠ (T b).2.1) (hP : va_P (gD G) vwCl ws H) (hD : va_D A ws) (hS : va_S A H0 H locs) {q0 : Nat} {fs : List Value} (he : ws[q0]? = some (a, .inr (ci, fs))) (k : Nat) (hk : k < N) {index : Nat} (hl : Cond.fieldLink own index (T k).1 (T k).2.1 (T k).2.2.1 ∈ WL) (hfin : (T k).2.2.2 = true) (hin2 : meth.name = "<init>") (hdecl : (T k).1 = own) {v : Value} (hn : narrow (ty0 k) v = v) (hfit : fits (ty0 k) v = true) (hlen : k < fs.length) (ws' : va_W) (hw : ws.set q0 (a, .inr (ci, fs.set k v)) = ws') (hdg : decode cc pc = .ok (.putfield index, 3))
    (kk : ∀ (H1 : Heap) (locs1 : List Loc), va_P (gD G) vwCl ws' H1 → va_D A ws' → va_S A H0 H1 locs1 → W p l e R s m args below meth c H1 locs1 cells slots Q (F0 m (pc + 3) ls rest)) : W p l e R s m args below meth c H locs cells slots Q (F0 m pc ls (v :: .ref a :: rest)) :=
  va_putF X.1 X.2.1 X.2.2.2.2 hin ty0 hty hnm X.2.2.2.1 hK.1 hP hD hS q0 he hc k hk (X.2.2.2.2 _ hl) (fun _ h => h) hfin hin2 hdecl (hty k hk) hn hfit hlen hdg (fun H1 locs1 h1 h2 h3 => kk H1 locs1 (hw ▸ h1) (hw ▸ h2) h3)
theorem k_pV (X : CallFix p m c cc nL s args WL own) (hK : kC G s) {C : String} {T : u_T} {N ci : Nat} (hin : ∀ w ∈ u_ws C T N, w ∈ WL) (hc : vwCl[ci]? = some (C, T, N)) {ty0 : Nat → FieldType} (hty : ∀ k, k < N → parseFieldDescriptor (T k).2.2.1 = some (ty0 k)) (hnm : ∀ a, a < N → ∀ b, b < N → a ≠ b → (T a).2.1 ≠ (T b).2.1) (hP : va_P (gD G) vwCl ws H) (hD : va_D A ws) (hS : va_S A H0 H locs) {q0 : Nat} {fs : List Value} (he : ws[q0]? = some (a, .inr (ci, fs))) (k : Nat) (hk : k < N) {index : Nat} (hl : Cond.fieldLink own index (T k).1 (T k).2.1 (T k).2.2.1 ∈ WL) (hfin : (T k).2.2.2 = false) {v : Value} (hn : narrow (ty0 k) v = v) (hfit : fits (ty0 k) v = true) (hlen : k < fs.length) (ws' : va_W) (hw : ws.set q0 (a, .inr (ci, fs.set k v)) = ws') (hdg : decode cc pc = .ok (.putfield index, 3))
    (kk : ∀ (H1 : Heap) (locs1 : List Loc), va_P (gD G) vwCl ws' H1 → va_D A ws' → va_S A H0 H1 locs1 → W p l e R s m args below meth c H1 locs1 cells slots Q (F0 m (pc + 3) ls rest)) : W p l e R s m args below meth c H locs cells slots Q (F0 m pc ls (v :: .ref a :: rest)) :=
  va_put X.1 X.2.1 X.2.2.2.2 hin ty0 hty hnm X.2.2.2.1 hK.1 hP hD hS q0 he hc k hk (X.2.2.2.2 _ hl) (fun _ h => h) hfin (hty k hk) hn hfit hlen hdg (fun H1 locs1 h1 h2 h3 => kk H1 locs1 (hw ▸ h1) (hw ▸ h2) h3)
theorem k_iL (X : CallFix p m c cc nL s args WL own) (hK : kC G s) (hP : va_P (gD G) vwCl ws H) (hD : va_D A ws) (hS : va_S A H0 H locs) {q0 n : Nat} {f : Nat → Int32} (ha : ws[q0]? = some (a, .inl (gI G, n, .inl f))) {k : Nat} (hk : k < n) (hn : n < 2 ^ 31) {x : Int32} (ws' : va_W) (hw : ws.set q0 (a, .inl (gI G, n, .inl (upd f k x))) = ws') (hdg : decode cc pc = .ok (.iastore, 1))
    (kk : ∀ (H1 : Heap) (locs1 : List Loc), va_P (gD G) vwCl ws' H1 → va_D A ws' → va_S A H0 H1 locs1 → W p l e R s m args below meth c H1 locs1 cells slots Q (F0 m (pc + 1) ls rest)) : W p l e R s m args below meth c H locs cells slots Q (F0 m pc ls (.int x :: .int (nI k) :: .ref a :: rest)) := by
  refine va_iast X.1 X.2.1 hK.1 hP hD hS q0 0 ha rfl (vp_in_nI hk hn) hdg (fun H1 locs1 h1 h2 h3 => ?_)
  rw [nI_clamp (Nat.lt_trans hk hn), hw] at h1 h2
  exact kk H1 locs1 h1 h2 h3
theorem k_lL (X : CallFix p m c cc nL s args WL own) (hK : kC G s) (hP : va_P (gD G) vwCl ws H) (hD : va_D A ws) (hS : va_S A H0 H locs) {q0 n : Nat} {f : Nat → Int64} (ha : ws[q0]? = some (a, .inl (gJ G, n, .inr (.inl f)))) {k : Nat} (hk : k < n) (hn : n < 2 ^ 31) {x : Int64} (ws' : va_W) (hw : ws.set q0 (a, .inl (gJ G, n, .inr (.inl (vp_updL f k x)))) = ws') (hdg : decode cc pc = .ok (.lastore, 1))
    (kk : ∀ (H1 : Heap) (locs1 : List Loc), va_P (gD G) vwCl ws' H1 → va_D A ws' → va_S A H0 H1 locs1 → W p l e R s m args below meth c H1 locs1 cells slots Q (F0 m (pc + 1) ls rest)) : W p l e R s m args below meth c H locs cells slots Q (F0 m pc ls (.long x :: .int (nI k) :: .ref a :: rest)) := by
  refine va_last X.1 X.2.1 hK.1 hP hD hS q0 1 ha rfl (vp_in_nI hk hn) hdg (fun H1 locs1 h1 h2 h3 => ?_)
  rw [nI_clamp (Nat.lt_trans hk hn), hw] at h1 h2
  exact kk H1 locs1 h1 h2 h3
theorem k_aL (X : CallFix p m c cc nL s args WL own) (hK : kC G s) (hP : va_P (gD G) vwCl ws H) (hD : va_D A ws) (hS : va_S A H0 H locs) {q0 n : Nat} {f : Nat → Option Nat} (ha : ws[q0]? = some (a, .inl (gO G, n, .inr (.inr (.inr (.inr f)))))) {k : Nat} (hk : k < n) (hn : n < 2 ^ 31) {v qk : Nat} {vs : List Value} (hv : ws[qk]? = some (v, .inr (1, vs))) (ws' : va_W) (hw : ws.set q0 (a, .inl (gO G, n, .inr (.inr (.inr (.inr (va_up f k (some v))))))) = ws') (hdg : decode cc pc = .ok (.aastore, 1))
    (kk : ∀ (H1 : Heap) (locs1 : List Loc), va_P (gD G) vwCl ws' H1 → va_D A ws' → va_S A H0 H1 locs1 → W p l e R s m args below meth c H1 locs1 cells slots Q (F0 m (pc + 1) ls rest)) : W p l e R s m args below meth c H locs cells slots Q (F0 m pc ls (.ref v :: .int (nI k) :: .ref a :: rest)) := by
  refine va_astq X.1 X.2.1 hK.1 hP hD hS q0 3 qk 1 ha rfl hv rfl (vp_in_nI hk hn) hdg (fun H1 locs1 h1 h2 h3 => ?_)
  rw [nI_clamp (Nat.lt_trans hk hn), hw] at h1 h2
  exact kk H1 locs1 h1 h2 h3
/-- an object is made -/
theorem k_newo (X : CallFix p m c cc nL s args WL own) (hK : kC G s) {C : String} {T : u_T} {N ci : Nat} (hin : ∀ w ∈ u_ws C T N, w ∈ WL) (hc : vwCl[ci]? = some (C, T, N)) {ty0 : Nat → FieldType} (hty : ∀ k, k < N → parseFieldDescriptor (T k).2.2.1 = some (ty0 k)) (hP : va_P (gD G) vwCl ws H) (hD : va_D A ws) (hS : va_S A H0 H locs) (hA : ∀ q, H0.size ≤ q → A q) {index : Nat} (h1 : Cond.classLink own index C ∈ WL) (h2 : Cond.instantiable C N ∈ WL) (h3 : Cond.initialized C ∈ WL) {fs : List Value} (hfs : ∀ j, j < N → defaultValue (ty0 j) = vp_V fs j) (hcells : cells + 1 ≤ R.cells) (hslots : slots + N ≤ R.slots) (hdg : decode cc pc = .ok (.new index, 3))
    (kk : ∀ (q : Nat) (H1 : Heap), va_P (gD G) vwCl (ws ++ [(q, .inr (ci, fs))]) H1 → va_D A (ws ++ [(q, .inr (ci, fs))]) → va_S A H0 H1 locs → W p l e R s m args below meth c H1 locs (cells + 1) (slots + N) Q (F0 m (pc + 3) ls (.ref q :: rest))) : W p l e R s m args below meth c H locs cells slots Q (F0 m pc ls rest) :=
  va_new X.1 X.2.1 X.2.2.2.2 hin ty0 hty X.2.2.2.1 (X.2.2.2.2 _ h1) (X.2.2.2.2 _ h2) (X.2.2.2.2 _ h3) hK.1 hP hD hS hA hc hfs hcells hslots hdg kk
end KX
/-! worlds whose cells are told in other words -/
theorem vp_cell_ext {cA : ClassId} {n : Nat} {f g : Nat → Int32} (h : ∀ j, j < n → f j = g j) : vp_cell cA (n, .inl f) = vp_cell cA (n, .inl g) := by
  rw [vp_cell_i, vp_cell_i]
  show ({ cls := cA, slots := Array.ofFn (n := n) fun j => .int (f j.val), vm := .none } : Cell) = { cls := cA, slots := Array.ofFn (n := n) fun j => .int (g j.val), vm := .none }
  congr 2
  funext j
  rw [h j.val j.isLt]
theorem vp_cell_extq {cA : ClassId} {n : Nat} {f g : Nat → Option Nat} (h : ∀ j, j < n → f j = g j) : vp_cell cA (n, .inr (.inr (.inr (.inr f)))) = vp_cell cA (n, .inr (.inr (.inr (.inr g)))) := by
  rw [vp_cell_q, vp_cell_q]
  show ({ cls := cA, slots := Array.ofFn (n := n) fun j => va_rf (f j.val), vm := .none } : Cell) = { cls := cA, slots := Array.ofFn (n := n) fun j => va_rf (g j.val), vm := .none }
  congr 2
  funext j
  rw [h j.val j.isLt]
/-- a cell that says the same -/
def eqE (e e' : va_E) : Prop := e = e' ∨ ∃ (c : ClassId) (a b : vp_A), e = .inl (c, a) ∧ e' = .inl (c, b) ∧ vp_cell c a = vp_cell c b
theorem eqE.at {D : va_G} {cl : List vw_C} {q : Nat} {e e' : va_E} {H : Heap} (h : eqE e e') (ha : va_at D cl (q, e) H) : va_at D cl (q, e') H := by
  rcases h with rfl | ⟨c, a, b, rfl, rfl, h⟩
  · exact ha
  · show H[q]? = some (vp_cell c b)
    rw [← h]; exact ha
theorem eqE_i {c : ClassId} {n : Nat} {f g : Nat → Int32} (h : ∀ j, j < n → f j = g j) : eqE (.inl (c, n, .inl f)) (.inl (c, n, .inl g)) := Or.inr ⟨c, _, _, rfl, rfl, vp_cell_ext h⟩
theorem eqE_q {c : ClassId} {n : Nat} {f g : Nat → Option Nat} (h : ∀ j, j < n → f j = g j) : eqE (.inl (c, n, .inr (.inr (.inr (.inr f))))) (.inl (c, n, .inr (.inr (.inr (.inr g))))) := Or.inr ⟨c, _, _, rfl, rfl, vp_cell_extq h⟩
theorem P_re {D : va_G} {cl : List vw_C} {ws ws' : va_W} {H : Heap} (h : va_P D cl ws H) (g : Nat → Nat) (hg : ∀ (k : Nat) (q : Nat × va_E), ws'[k]? = some q → ∃ e, ws[g k]? = some (q.1, e) ∧ eqE e q.2) : va_P D cl ws' H := fun k q hk => by
  obtain ⟨e, h1, h2⟩ := hg k q hk
  exact h2.at (h _ _ h1)
theorem D_re {A : Nat → Prop} {ws ws' : va_W} (h : va_D A ws) (g : Nat → Nat) (hg : ∀ (k : Nat) (q : Nat × va_E), ws'[k]? = some q → ∃ e, ws[g k]? = some (q.1, e)) (hi : ∀ i j : Nat, i < ws'.length → j < ws'.length → g i = g j → i = j) : va_D A ws' := by
  refine ⟨fun i j x y hx hy hxy => ?_, fun k q hk => ?_⟩
  · obtain ⟨e1, h1⟩ := hg i x hx
    obtain ⟨e2, h2⟩ := hg j y hy
    exact hi i j (List.getElem?_eq_some_iff.mp hx).1 (List.getElem?_eq_some_iff.mp hy).1 (h.1 _ _ _ _ h1 h2 hxy)
  · obtain ⟨e1, h1⟩ := hg k q hk
    exact h.2 _ (q.1, e1) h1
/-- behind a call that had one cell -/
theorem P_upd {D : va_G} {cl : List vw_C} {A : Nat → Prop} {ws : va_W} {H H1 : Heap} (hP : va_P D cl ws H) (hD : va_D A ws) {q0 a : Nat} {e e' : va_E} (ha : ws[q0]? = some (a, e)) (hk : ∀ q : Nat, q < H.size → q ≠ a → H1[q]? = H[q]?) (h1 : va_at D cl (a, e') H1) : va_P D cl (ws.set q0 (a, e')) H1 := by
  intro k q hq
  by_cases hk0 : k = q0
  · subst hk0
    have hl := (List.getElem?_eq_some_iff.mp ha).1
    rw [List.getElem?_set_self hl] at hq
    cases hq; exact h1
  · rw [List.getElem?_set_ne (Ne.symm hk0)] at hq
    refine (hP k q hq).kept (hk _ (hP k q hq).lt (fun e1 => hk0 (hD.1 _ _ _ _ hq ha e1)))
theorem D_one {A : Nat → Prop} {a : Nat} {e : va_E} (h : A a) : va_D A [(a, e)] := by
  refine ⟨fun i j p q hi hj _ => ?_, fun k q hk => ?_⟩
  · have h1 : i < 1 := (List.getElem?_eq_some_iff.mp hi).1
    have h2 : j < 1 := (List.getElem?_eq_some_iff.mp hj).1
    omega
  · have h1 : k < 1 := (List.getElem?_eq_some_iff.mp hk).1
    rw [show k = 0 by omega] at hk
    cases hk; exact h
theorem A_one {a : Nat} {e : va_E} {sz : Nat} : va_A [(a, e)] sz a := Or.inl ⟨0, e, rfl⟩
/-- behind a call that had one old cell and made others: what comes is apart from the rest -/
theorem A_one' {a : Nat} {e : va_E} {sz q : Nat} (h : va_A [(a, e)] sz q) : q = a ∨ sz ≤ q := by
  rcases h with ⟨k, e', h⟩ | h
  · have h1 : k < 1 := (List.getElem?_eq_some_iff.mp h).1
    rw [show k = 0 by omega] at h
    cases h; exact Or.inl rfl
  · exact Or.inr h
