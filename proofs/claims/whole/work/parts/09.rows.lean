/-! a layer of my own over the kit: contracts over a world that is a function of a state -/
abbrev kG : Type := va_G × (ClassId × ClassId × ClassId × ClassId) × (Nat → Nat) × Nat
abbrev gD (G : kG) : va_G := G.1
abbrev gI (G : kG) : ClassId := G.2.1.1
abbrev gJ (G : kG) : ClassId := G.2.1.2.1
abbrev gZ (G : kG) : ClassId := G.2.1.2.2.1
abbrev gO (G : kG) : ClassId := G.2.1.2.2.2
abbrev gL (G : kG) : Nat → Nat := G.2.2.1
abbrev gn (G : kG) : Nat := G.2.2.2
def gT (G : kG) : List (ClassId × FieldType) := [(gI G, .int), (gJ G, .long), (gZ G, .boolean), (gO G, .object "StreamChain$Node")]
def isNest : Cond → Bool
  | .fieldLinkNest .. => true
  | .methodLinkNest .. => true
  | _ => false
theorem nestL_nest : ∀ w ∈ nestL, isNest w = true := List.all_eq_true.mp rfl
theorem isNest_tables {w : Cond} (h : isNest w = true) : w.onTables = true := by
  cases w <;> first | rfl | cases h
theorem isNest_warm {w : Cond} (h : isNest w = true) {s U : State} (hW : s.WarmedH U.vm) (hz : va_Nw w s) : va_Nw w U := by
  cases w <;> first | exact va_Nw.warmF hW hz | exact va_Nw.warmM hW hz | cases h
/-- what the tables say at a state: classes, kinds of arrays, links to nest mates -/
def kC (G : kG) (U : State) : Prop := va_K (gD G) vwCl (gT G) U ∧ ∀ w ∈ nestL, va_Nw w U
theorem kC.warm {G : kG} {s U : State} (hW : s.WarmedH U.vm) (h : kC G s) : kC G U :=
  ⟨va_K.moved hW.alike h.1, fun w hw => isNest_warm (nestL_nest w hw) hW (h.2 w hw)⟩
theorem kC.calling {G : kG} {U : State} {g : JFrame} {mk : MethodId} {a : Array Value} (h : kC G U) : kC G (U.calling g mk a) :=
  ⟨va_K.moved (u := U) (U := U.calling g mk a) (Vm.Alike.refl U.vm) h.1, fun w hw => va_Nw.same (isNest_tables (nestL_nest w hw)) (u := U) (U := U.calling g mk a) rfl (h.2 w hw)⟩
def KB (G : kG) {S : Type} (wd : S → va_W) : S → State → Prop := fun u t => va_P (gD G) vwCl (wd u) t.heap
def KPc (G : kG) (av : List Value) (ws : va_W) : Array Value → State → Prop := va_Pc av (fun U => kC G U ∧ va_P (gD G) vwCl ws U.heap)
theorem KPc.blind {G : kG} {av : List Value} {ws : va_W} : FrameBlind (KPc G av ws) := fun _ _ _ _ h => ⟨h.1, h.2.1.calling, h.2.2⟩
/-- contracts: an int, nothing, a reference or null -/
def KMi (l : Launch) (G : kG) (A : Nat → Prop) {S : Type} (wd : S → va_W) (y : MethodName) (cc : ByteArray) (mL : Nat) (ret : Option FieldType) (rm : Room) (av : List Value) (u : S) (post : Int32 → S → Prop) : Prop :=
  Met l y (.code y cc mL ret :: WL) rm (KPc G av (wd u)) (va_Qi post (KB G wd) A) 0 0 A
def KMv (l : Launch) (G : kG) (A : Nat → Prop) {S : Type} (wd : S → va_W) (y : MethodName) (cc : ByteArray) (mL : Nat) (ret : Option FieldType) (rm : Room) (av : List Value) (u : S) (post : S → Prop) : Prop :=
  Met l y (.code y cc mL ret :: WL) rm (KPc G av (wd u)) (va_Qv post (KB G wd) A) 0 0 A
def KMq (l : Launch) (G : kG) (A : Nat → Prop) {S : Type} (wd : S → va_W) (y : MethodName) (cc : ByteArray) (mL : Nat) (ret : Option FieldType) (rm : Room) (av : List Value) (u : S) (post : Option Nat → S → Prop) : Prop :=
  Met l y (.code y cc mL ret :: WL) rm (KPc G av (wd u)) (va_Qq post (KB G wd) A) 0 0 A
/-- a contract out of the walk of its body -/
theorem K_of {l : Launch} {G : kG} {y : MethodName} {cc : ByteArray} {mL : Nat} {ret : Option FieldType} {rm : Room} {av : List Value} {ws : va_W} {Qc : Array Value → State → Outcome → State → Prop} {mc ms : Nat} {free : Addr → Prop}
    (hy : plainName y.cls = true) (hlen : (lg_sl av).length ≤ mL)
    (body : ∀ (p : Program) (e : Env) (s : State) (m : MethodId) (below : List Frame) (meth : Method) (c : Code), CallFix p m c cc mL s av.toArray WL y.cls → meth.sig.returnType = ret → meth.locks = false → meth.name = y.name → kC G s → va_P (gD G) vwCl ws s.heap →
      ∀ ls : Array Slot, lv_has ls mL (lv_args 0 av) → W p l e rm s m av.toArray below meth c s.heap [] 0 0 (MQ below Qc av.toArray s mc ms free) (F0 m 0 ls [])) :
    Met l y (.code y cc mL ret :: WL) rm (KPc G av ws) Qc mc ms free := by
  refine Met.ofW (cc := cc) (maxL := mL) (ret := ret) hy rfl ?_
  intro p e s m args below meth c s₁ B hml hv
  obtain ⟨rfl, hK, hP⟩ := hv
  have hts := atoms_spec (ws := .code y cc mL ret :: WL) B.pre
  have hl := lv_entry av (n := mL) hlen
  rw [lg_entry_eq]
  exact body p e s m below meth c ⟨B.exec, B.bytes, hml, findClass_of_methodNamed B.named, fun w h => hts w (List.mem_cons_of_mem _ h)⟩ B.returns B.notSynchronized (name_of_methodNamed B.named B.method).1 hK hP _ hl
theorem WL_GoodIn : GoodIn WL WL := fun _ h => ⟨h, WL_good h⟩
theorem gz_c {y : MethodName} {cc : ByteArray} {mL : Nat} {ret : Option FieldType} (h5 : Cond.code y cc mL ret ∈ WL) : GoodIn WL (.code y cc mL ret :: WL) := fun w h => (List.mem_cons.mp h).elim (fun e => by rw [e]; exact ⟨h5, WL_good h5⟩) (fun h => ⟨h, WL_good h⟩)
theorem gz_cons {c : Cond} {ws : List Cond} (h : c ∈ WL) (hw : GoodIn WL ws) : GoodIn WL (c :: ws) := fun w hh => (List.mem_cons.mp hh).elim (fun e => by rw [e]; exact ⟨h, WL_good h⟩) (fun hh => hw w hh)
theorem gz_V {own C : String} {index : Nat} {y : MethodName} {cc : ByteArray} {mL : Nat} {ret : Option FieldType} (h1 : Cond.methodLink own index y ∈ WL) (h2 : Cond.instanceMethod y ∈ WL) (h3 : Cond.selects C y y ∈ WL) (h4 : Cond.initialized C ∈ WL) (h5 : Cond.code y cc mL ret ∈ WL) : GoodIn WL (wsV own index C y (.code y cc mL ret :: WL)) :=
  gz_cons h1 (gz_cons h2 (gz_cons h3 (gz_cons h4 (gz_c h5))))
theorem gz_S {own : String} {index : Nat} {y : MethodName} {cc : ByteArray} {mL : Nat} {ret : Option FieldType} (h1 : Cond.methodLink own index y ∈ WL) (h2 : Cond.static y ∈ WL) (h4 : Cond.initialized y.cls ∈ WL) (h5 : Cond.code y cc mL ret ∈ WL) : GoodIn WL (va_wsS own index y (.code y cc mL ret :: WL)) :=
  gz_cons h1 (gz_cons h2 (gz_cons h4 (gz_c h5)))
section KR
variable {p : Program} {l : Launch} {e : Env} {R : Room} {s : State} {m : MethodId} {args : Array Value} {below : List Frame} {meth : Method} {c : Code} {H : Heap} {locs : List Loc} {cells slots : Nat} {Q : State → Prop}
variable {G : kG} {A : Nat → Prop} {S : Type} {wd : S → va_W} {u : S} {cc : ByteArray} {nL : Nat} {own : String} {pc : Nat} {ls : Array Slot} {rest st : List Value} {ws : va_W} {a : Nat} {H0 : Heap}
/-- fields of one's own class -/
theorem k_get (X : CallFix p m c cc nL s args WL own) (hK : kC G s) {C : String} {T : u_T} {N ci : Nat} (hin : ∀ w ∈ u_ws C T N, w ∈ WL) (hc : vwCl[ci]? = some (C, T, N)) (hP : va_P (gD G) vwCl ws H) {q0 : Nat} {fs : List Value} (he : ws[q0]? = some (a, .inr (ci, fs))) (k : Nat) (hk : k < N) {index : Nat} (hl : Cond.fieldLink own index (T k).1 (T k).2.1 (T k).2.2.1 ∈ WL) {v : Value} (hv : fs[k]? = some v) (hdg : decode cc pc = .ok (.getfield index, 3))
    (kk : W p l e R s m args below meth c H locs cells slots Q (F0 m (pc + 3) ls (v :: rest))) : W p l e R s m args below meth c H locs cells slots Q (F0 m pc ls (.ref a :: rest)) :=
  va_get X.1 X.2.1 X.2.2.2.2 hin X.2.2.2.1 hK.1 hP q0 he hc k hk (X.2.2.2.2 _ hl) (fun _ h => h) hv hdg kk
/-- fields of a nest mate -/
theorem k_gn (X : CallFix p m c cc nL s args WL own) (hK : kC G s) {C : String} {T : u_T} {N ci : Nat} (hin : ∀ w ∈ u_ws C T N, w ∈ WL) (hc : vwCl[ci]? = some (C, T, N)) (hP : va_P (gD G) vwCl ws H) {q0 : Nat} {fs : List Value} (he : ws[q0]? = some (a, .inr (ci, fs))) (k : Nat) (hk : k < N) {index : Nat} {host : String} (hl : Cond.fieldLinkNest own index (T k).1 (T k).2.1 (T k).2.2.1 host ∈ nestL) {v : Value} (hv : fs[k]? = some v) (hdg : decode cc pc = .ok (.getfield index, 3))
    (kk : W p l e R s m args below meth c H locs cells slots Q (F0 m (pc + 3) ls (v :: rest))) : W p l e R s m args below meth c H locs cells slots Q (F0 m pc ls (.ref a :: rest)) :=
  va_getN X.1 X.2.1 X.2.2.2.2 hin X.2.2.2.1 hK.1 hP q0 he hc k hk (va_Nw.use rfl (hK.2 _ hl)) (fun _ h => h) hv hdg kk
theorem k_put (X : CallFix p m c cc nL s args WL own) (hK : kC G s) {C : String} {T : u_T} {N ci : Nat} (hin : ∀ w ∈ u_ws C T N, w ∈ WL) (hc : vwCl[ci]? = some (C, T, N)) {ty0 : Nat → FieldType} (hty : ∀ k, k < N → parseFieldDescriptor (T k).2.2.1 = some (ty0 k)) (hnm : ∀ a, a < N → ∀ b, b < N → a ≠ b → (T a).2.1 ≠ (T b).2.1) (hP : va_P (gD G) vwCl (wd u) H) (hD : va_D A (wd u)) (hS : va_S A H0 H locs) {q0 : Nat} {fs : List Value} (he : (wd u)[q0]? = some (a, .inr (ci, fs))) (k : Nat) (hk : k < N) {index : Nat} (hl : Cond.fieldLink own index (T k).1 (T k).2.1 (T k).2.2.1 ∈ WL) (hfin : (T k).2.2.2 = false) {v : Value} (hn : narrow (ty0 k) v = v) (hfit : fits (ty0 k) v = true) (hlen : k < fs.length) (u' : S) (hw : (wd u).set q0 (a, .inr (ci, fs.set k v)) = wd u') (hdg : decode cc pc = .ok (.putfield index, 3))
    (kk : ∀ (H1 : Heap) (locs1 : List Loc), va_P (gD G) vwCl (wd u') H1 → va_S A H0 H1 locs1 → W p l e R s m args below meth c H1 locs1 cells slots Q (F0 m (pc + 3) ls rest)) : W p l e R s m args below meth c H locs cells slots Q (F0 m pc ls (v :: .ref a :: rest)) :=
  va_put X.1 X.2.1 X.2.2.2.2 hin ty0 hty hnm X.2.2.2.1 hK.1 hP hD hS q0 he hc k hk (X.2.2.2.2 _ hl) (fun _ h => h) hfin (hty k hk) hn hfit hlen hdg (fun H1 locs1 h1 _ h3 => kk H1 locs1 (hw ▸ h1) h3)
theorem k_pn (X : CallFix p m c cc nL s args WL own) (hK : kC G s) {C : String} {T : u_T} {N ci : Nat} (hin : ∀ w ∈ u_ws C T N, w ∈ WL) (hc : vwCl[ci]? = some (C, T, N)) {ty0 : Nat → FieldType} (hty : ∀ k, k < N → parseFieldDescriptor (T k).2.2.1 = some (ty0 k)) (hnm : ∀ a, a < N → ∀ b, b < N → a ≠ b → (T a).2.1 ≠ (T b).2.1) (hP : va_P (gD G) vwCl (wd u) H) (hD : va_D A (wd u)) (hS : va_S A H0 H locs) {q0 : Nat} {fs : List Value} (he : (wd u)[q0]? = some (a, .inr (ci, fs))) (k : Nat) (hk : k < N) {index : Nat} {host : String} (hl : Cond.fieldLinkNest own index (T k).1 (T k).2.1 (T k).2.2.1 host ∈ nestL) (hfin : (T k).2.2.2 = false) {v : Value} (hn : narrow (ty0 k) v = v) (hfit : fits (ty0 k) v = true) (hlen : k < fs.length) (u' : S) (hw : (wd u).set q0 (a, .inr (ci, fs.set k v)) = wd u') (hdg : decode cc pc = .ok (.putfield index, 3))
    (kk : ∀ (H1 : Heap) (locs1 : List Loc), va_P (gD G) vwCl (wd u') H1 → va_S A H0 H1 locs1 → W p l e R s m args below meth c H1 locs1 cells slots Q (F0 m (pc + 3) ls rest)) : W p l e R s m args below meth c H locs cells slots Q (F0 m pc ls (v :: .ref a :: rest)) :=
  va_putN X.1 X.2.1 X.2.2.2.2 hin ty0 hty hnm X.2.2.2.1 hK.1 hP hD hS q0 he hc k hk (va_Nw.use rfl (hK.2 _ hl)) (fun _ h => h) hfin (hty k hk) hn hfit hlen hdg (fun H1 locs1 h1 _ h3 => kk H1 locs1 (hw ▸ h1) h3)
/-- arrays, at a place k that is a Nat -/
theorem k_ild (X : CallFix p m c cc nL s args WL own) (hK : kC G s) (hP : va_P (gD G) vwCl ws H) {q0 n : Nat} {f : Nat → Int32} (ha : ws[q0]? = some (a, .inl (gI G, n, .inl f))) {k : Nat} (hk : k < n) (hn : n < 2 ^ 31) {v : Int32} (hv : f k = v) (hdg : decode cc pc = .ok (.iaload, 1))
    (kk : W p l e R s m args below meth c H locs cells slots Q (F0 m (pc + 1) ls (.int v :: rest))) : W p l e R s m args below meth c H locs cells slots Q (F0 m pc ls (.int (nI k) :: .ref a :: rest)) := by
  refine va_iald X.1 X.2.1 hK.1 hP q0 0 ha rfl (vp_in_nI hk hn) hdg ?_
  rw [nI_clamp (Nat.lt_trans hk hn), hv]
  exact kk
theorem k_zld (X : CallFix p m c cc nL s args WL own) (hK : kC G s) (hP : va_P (gD G) vwCl ws H) {q0 n : Nat} {f : Nat → Int32} (ha : ws[q0]? = some (a, .inl (gZ G, n, .inl f))) {k : Nat} (hk : k < n) (hn : n < 2 ^ 31) {v : Int32} (hv : f k = v) (hdg : decode cc pc = .ok (.baload, 1))
    (kk : W p l e R s m args below meth c H locs cells slots Q (F0 m (pc + 1) ls (.int v :: rest))) : W p l e R s m args below meth c H locs cells slots Q (F0 m pc ls (.int (nI k) :: .ref a :: rest)) := by
  refine va_zald X.1 X.2.1 hK.1 hP q0 2 ha rfl (vp_in_nI hk hn) hdg ?_
  rw [nI_clamp (Nat.lt_trans hk hn), hv]
  exact kk
theorem k_lld (X : CallFix p m c cc nL s args WL own) (hK : kC G s) (hP : va_P (gD G) vwCl ws H) {q0 n : Nat} {f : Nat → Int64} (ha : ws[q0]? = some (a, .inl (gJ G, n, .inr (.inl f)))) {k : Nat} (hk : k < n) (hn : n < 2 ^ 31) {v : Int64} (hv : f k = v) (hdg : decode cc pc = .ok (.laload, 1))
    (kk : W p l e R s m args below meth c H locs cells slots Q (F0 m (pc + 1) ls (.long v :: rest))) : W p l e R s m args below meth c H locs cells slots Q (F0 m pc ls (.int (nI k) :: .ref a :: rest)) := by
  refine va_lald X.1 X.2.1 hK.1 hP q0 1 ha rfl (vp_in_nI hk hn) hdg ?_
  rw [nI_clamp (Nat.lt_trans hk hn), hv]
  exact kk
theorem k_ald (X : CallFix p m c cc nL s args WL own) (hK : kC G s) (hP : va_P (gD G) vwCl ws H) {q0 n : Nat} {f : Nat → Option Nat} (ha : ws[q0]? = some (a, .inl (gO G, n, .inr (.inr (.inr (.inr f)))))) {k : Nat} (hk : k < n) (hn : n < 2 ^ 31) {v : Nat} (hv : f k = some v) (hdg : decode cc pc = .ok (.aaload, 1))
    (kk : W p l e R s m args below meth c H locs cells slots Q (F0 m (pc + 1) ls (.ref v :: rest))) : W p l e R s m args below meth c H locs cells slots Q (F0 m pc ls (.int (nI k) :: .ref a :: rest)) := by
  refine va_aldq X.1 X.2.1 hK.1 hP q0 3 ha rfl (vp_in_nI hk hn) hdg ?_
  rw [nI_clamp (Nat.lt_trans hk hn), hv]
  exact kk
theorem k_ist (X : CallFix p m c cc nL s args WL own) (hK : kC G s) (hP : va_P (gD G) vwCl (wd u) H) (hD : va_D A (wd u)) (hS : va_S A H0 H locs) {q0 n : Nat} {f : Nat → Int32} (ha : (wd u)[q0]? = some (a, .inl (gI G, n, .inl f))) {k : Nat} (hk : k < n) (hn : n < 2 ^ 31) {x : Int32} (u' : S) (hw : (wd u).set q0 (a, .inl (gI G, n, .inl (upd f k x))) = wd u') (hdg : decode cc pc = .ok (.iastore, 1))
    (kk : ∀ (H1 : Heap) (locs1 : List Loc), va_P (gD G) vwCl (wd u') H1 → va_S A H0 H1 locs1 → W p l e R s m args below meth c H1 locs1 cells slots Q (F0 m (pc + 1) ls rest)) : W p l e R s m args below meth c H locs cells slots Q (F0 m pc ls (.int x :: .int (nI k) :: .ref a :: rest)) := by
  refine va_iast X.1 X.2.1 hK.1 hP hD hS q0 0 ha rfl (vp_in_nI hk hn) hdg (fun H1 locs1 h1 _ h3 => kk H1 locs1 ?_ h3)
  rw [nI_clamp (Nat.lt_trans hk hn), hw] at h1
  exact h1
theorem nar_bI (b : Bool) : vp_nar .boolean (if b then 1 else 0) = if b then 1 else 0 := by cases b <;> rfl
theorem k_zst (X : CallFix p m c cc nL s args WL own) (hK : kC G s) (hP : va_P (gD G) vwCl (wd u) H) (hD : va_D A (wd u)) (hS : va_S A H0 H locs) {q0 n : Nat} {f : Nat → Int32} (ha : (wd u)[q0]? = some (a, .inl (gZ G, n, .inl f))) {k : Nat} (hk : k < n) (hn : n < 2 ^ 31) {x : Int32} (hx : vp_nar .boolean x = x) (u' : S) (hw : (wd u).set q0 (a, .inl (gZ G, n, .inl (upd f k x))) = wd u') (hdg : decode cc pc = .ok (.bastore, 1))
    (kk : ∀ (H1 : Heap) (locs1 : List Loc), va_P (gD G) vwCl (wd u') H1 → va_S A H0 H1 locs1 → W p l e R s m args below meth c H1 locs1 cells slots Q (F0 m (pc + 1) ls rest)) : W p l e R s m args below meth c H locs cells slots Q (F0 m pc ls (.int x :: .int (nI k) :: .ref a :: rest)) := by
  refine va_zast X.1 X.2.1 hK.1 hP hD hS q0 2 ha rfl (vp_in_nI hk hn) hdg (fun H1 locs1 h1 _ h3 => kk H1 locs1 ?_ h3)
  rw [nI_clamp (Nat.lt_trans hk hn), hx, hw] at h1
  exact h1
theorem k_lst (X : CallFix p m c cc nL s args WL own) (hK : kC G s) (hP : va_P (gD G) vwCl (wd u) H) (hD : va_D A (wd u)) (hS : va_S A H0 H locs) {q0 n : Nat} {f : Nat → Int64} (ha : (wd u)[q0]? = some (a, .inl (gJ G, n, .inr (.inl f)))) {k : Nat} (hk : k < n) (hn : n < 2 ^ 31) {x : Int64} (u' : S) (hw : (wd u).set q0 (a, .inl (gJ G, n, .inr (.inl (vp_updL f k x)))) = wd u') (hdg : decode cc pc = .ok (.lastore, 1))
    (kk : ∀ (H1 : Heap) (locs1 : List Loc), va_P (gD G) vwCl (wd u') H1 → va_S A H0 H1 locs1 → W p l e R s m args below meth c H1 locs1 cells slots Q (F0 m (pc + 1) ls rest)) : W p l e R s m args below meth c H locs cells slots Q (F0 m pc ls (.long x :: .int (nI k) :: .ref a :: rest)) := by
  refine va_last X.1 X.2.1 hK.1 hP hD hS q0 1 ha rfl (vp_in_nI hk hn) hdg (fun H1 locs1 h1 _ h3 => kk H1 locs1 ?_ h3)
  rw [nI_clamp (Nat.lt_trans hk hn), hw] at h1
  exact h1
theorem k_len (X : CallFix p m c cc nL s args WL own) (hK : kC G s) (hP : va_P (gD G) vwCl ws H) {q0 n : Nat} {f : Nat → Option Nat} (ha : ws[q0]? = some (a, .inl (gO G, n, .inr (.inr (.inr (.inr f)))))) (hdg : decode cc pc = .ok (.arraylength, 1))
    (kk : W p l e R s m args below meth c H locs cells slots Q (F0 m (pc + 1) ls (.int (nI n) :: rest))) : W p l e R s m args below meth c H locs cells slots Q (F0 m pc ls (.ref a :: rest)) :=
  va_alen X.1 X.2.1 hK.1 hP q0 3 ha rfl rfl hdg kk
/-- another name for what is on the top -/
theorem k_ti {x y : Int32} (h : x = y) (kk : W p l e R s m args below meth c H locs cells slots Q (F0 m pc ls (.int y :: rest))) : W p l e R s m args below meth c H locs cells slots Q (F0 m pc ls (.int x :: rest)) := h ▸ kk
theorem k_tl {x y : Int64} (h : x = y) (kk : W p l e R s m args below meth c H locs cells slots Q (F0 m pc ls (.long y :: rest))) : W p l e R s m args below meth c H locs cells slots Q (F0 m pc ls (.long x :: rest)) := h ▸ kk
/-- the world behind another name -/
theorem k_su {u' : S} (h : u = u') (hP : va_P (gD G) vwCl (wd u) H) : va_P (gD G) vwCl (wd u') H := h ▸ hP
/-- ends -/
theorem k_reti {post : Int32 → S → Prop} {v : Int32} (X : CallFix p m c cc nL s args WL own) (hr : meth.sig.returnType = some .int) (hlocks : meth.locks = false) (hP : va_P (gD G) vwCl (wd u) H) (hS : va_S A s.heap H locs) (hdg : decode cc pc = .ok (.ireturn, 1)) (hq : post v u) : W p l e R s m args below meth c H locs cells slots (MQ below (va_Qi post (KB G wd) A) args s cells slots A) (F0 m pc ls [.int v]) :=
  W.iret (v := v) X.1 X.2.1 hr (fun t ht _ => ⟨⟨v, u, rfl, hq, by show va_P _ _ _ t.heap; rw [ht]; exact hP⟩, hS.F ht⟩) hS.2.2 hdg hlocks
theorem k_retz {post : Int32 → S → Prop} {v : Int32} (X : CallFix p m c cc nL s args WL own) (hr : meth.sig.returnType = some .boolean) (hlocks : meth.locks = false) (hP : va_P (gD G) vwCl (wd u) H) (hS : va_S A s.heap H locs) (hdg : decode cc pc = .ok (.ireturn, 1)) (hn : narrow .boolean (.int v) = .int v) (hq : post v u) : W p l e R s m args below meth c H locs cells slots (MQ below (va_Qi post (KB G wd) A) args s cells slots A) (F0 m pc ls [.int v]) :=
  W.zret (v := v) X.1 X.2.1 hr hn (fun t ht _ => ⟨⟨v, u, rfl, hq, by show va_P _ _ _ t.heap; rw [ht]; exact hP⟩, hS.F ht⟩) hS.2.2 hdg hlocks
theorem k_retv {post : S → Prop} (X : CallFix p m c cc nL s args WL own) (hr : meth.sig.returnType = none) (hlocks : meth.locks = false) (hP : va_P (gD G) vwCl (wd u) H) (hS : va_S A s.heap H locs) (hdg : decode cc pc = .ok (.return_, 1)) (hq : post u) : W p l e R s m args below meth c H locs cells slots (MQ below (va_Qv post (KB G wd) A) args s cells slots A) (F0 m pc ls []) :=
  W.vret X.1 X.2.1 hr (fun t ht _ => ⟨⟨u, rfl, hq, by show va_P _ _ _ t.heap; rw [ht]; exact hP⟩, hS.F ht⟩) hS.2.2 hdg hlocks
theorem k_retq {post : Option Nat → S → Prop} (r : Option Nat) {C : String} {v : Value} (hv : va_rf r = v) (X : CallFix p m c cc nL s args WL own) (hr : meth.sig.returnType = some (.object C)) (hlocks : meth.locks = false) (hP : va_P (gD G) vwCl (wd u) H) (hS : va_S A s.heap H locs) (hdg : decode cc pc = .ok (.areturn, 1)) (hq : post r u) : W p l e R s m args below meth c H locs cells slots (MQ below (va_Qq post (KB G wd) A) args s cells slots A) (F0 m pc ls [v]) :=
  W.aret X.1 X.2.1 hr (Or.inl ⟨C, rfl⟩) (hv ▸ va_rf_or r) (fun t ht _ => ⟨⟨r, u, by rw [hv], hq, by show va_P _ _ _ t.heap; rw [ht]; exact hP⟩, hS.F ht⟩) hS.2.2 hdg hlocks
/-- calls -/
theorem k_runV {y : MethodName} {bytes : ByteArray} {mL mc ms index : Nat} {ret : Option FieldType} {rm : Room} {Qc : Array Value → State → Outcome → State → Prop} {free : Addr → Prop} {b ci q0 : Nat} {fs As : List Value} {T : u_T} {N : Nat} (X : CallFix p m c cc nL s args WL own) (hK : kC G s) (hP : va_P (gD G) vwCl ws H)
    (he : ws[q0]? = some (b, .inr (ci, fs))) (hc : vwCl[ci]? = some (y.cls, T, N)) (hM : Met l y (.code y bytes mL ret :: WL) rm (KPc G (.ref b :: As) ws) Qc mc ms free) (hrc : rm.cells = mc ∧ rm.slots = ms)
    (h1 : Cond.methodLink own index y ∈ WL) (h2 : Cond.instanceMethod y ∈ WL) (h3 : Cond.selects y.cls y y ∈ WL) (h4 : Cond.initialized y.cls ∈ WL) (h5 : Cond.code y bytes mL ret ∈ WL)
    (hd : y.cls ≠ "java/lang/invoke/MethodHandle" ∧ y.cls ≠ "java/lang/invoke/VarHandle" ∧ (parseMethodDescriptor y.desc).map (fun d => d.parameters.length) = some As.length) (hR : rm.frames + 1 ≤ R.frames ∧ 8 + (mL + 11) + rm.locals ≤ R.locals)
    (hsize : ls.size = nL) (hst : st = As.reverse ++ .ref b :: rest) (hW : (rest.map fun v => v.category).sum ≤ 8) (hf : cells + mc ≤ R.cells ∧ slots + ms ≤ R.slots) (hdg : decode cc pc = .ok (.invokevirtual index, 3)) :
    va_Run p l e R s m args below meth c H locs cells slots mc ms (F0 m pc ls st) rest (Qc (Value.ref b :: As).toArray) free :=
  va_runV (g := F0 m pc ls st) X hM (cwV As.length X.2.2.2.2 (gz_V h1 h2 h3 h4 h5) rfl hrc.1 hrc.2 ⟨rfl, hd⟩ hR) ⟨KPc.blind, va_recv hK.1 hP hc he, fun U hU hW => ⟨rfl, hK.warm hW, by rw [hU]; exact hP⟩⟩ rfl rfl hsize hst (lv_room hW) hdg hf
theorem k_runN {y : MethodName} {bytes : ByteArray} {mL mc ms index : Nat} {ret : Option FieldType} {rm : Room} {Qc : Array Value → State → Outcome → State → Prop} {free : Addr → Prop} {b ci q0 : Nat} {fs As : List Value} {T : u_T} {N : Nat} {host : String} (X : CallFix p m c cc nL s args WL own) (hK : kC G s) (hP : va_P (gD G) vwCl ws H)
    (he : ws[q0]? = some (b, .inr (ci, fs))) (hc : vwCl[ci]? = some (y.cls, T, N)) (hM : Met l y (.code y bytes mL ret :: WL) rm (KPc G (.ref b :: As) ws) Qc mc ms free) (hrc : rm.cells = mc ∧ rm.slots = ms)
    (h1 : Cond.methodLinkNest own index y host ∈ nestL) (h2 : Cond.instanceMethod y ∈ WL) (h3 : Cond.selects y.cls y y ∈ WL) (h4 : Cond.initialized y.cls ∈ WL) (h5 : Cond.code y bytes mL ret ∈ WL)
    (hd : y.cls ≠ "java/lang/invoke/MethodHandle" ∧ y.cls ≠ "java/lang/invoke/VarHandle" ∧ (parseMethodDescriptor y.desc).map (fun d => d.parameters.length) = some As.length) (hR : rm.frames + 1 ≤ R.frames ∧ 8 + (mL + 11) + rm.locals ≤ R.locals)
    (hsize : ls.size = nL) (hst : st = As.reverse ++ .ref b :: rest) (hW : (rest.map fun v => v.category).sum ≤ 8) (hf : cells + mc ≤ R.cells ∧ slots + ms ≤ R.slots) (hdg : decode cc pc = .ok (.invokevirtual index, 3)) :
    va_Run p l e R s m args below meth c H locs cells slots mc ms (F0 m pc ls st) rest (Qc (Value.ref b :: As).toArray) free :=
  va_runVN (g := F0 m pc ls st) X hM ⟨va_cnB As.length X.2.2.2.2 (gz_c h5) rfl hrc.1 hrc.2 (hK.2 _ h1) (X.2.2.2.2 _ h4) hd hR, X.2.2.2.2 _ h2, X.2.2.2.2 _ h3⟩ ⟨KPc.blind, va_recv hK.1 hP hc he, fun U hU hW => ⟨rfl, hK.warm hW, by rw [hU]; exact hP⟩⟩ rfl rfl hsize hst (lv_room hW) hdg hf
theorem k_runS {y : MethodName} {bytes : ByteArray} {mL mc ms index : Nat} {ret : Option FieldType} {rm : Room} {Qc : Array Value → State → Outcome → State → Prop} {free : Addr → Prop} {As : List Value} (X : CallFix p m c cc nL s args WL own) (hK : kC G s) (hP : va_P (gD G) vwCl ws H)
    (hM : Met l y (.code y bytes mL ret :: WL) rm (KPc G As ws) Qc mc ms free) (hrc : rm.cells = mc ∧ rm.slots = ms)
    (h1 : Cond.methodLink own index y ∈ WL) (h2 : Cond.static y ∈ WL) (h4 : Cond.initialized y.cls ∈ WL) (h5 : Cond.code y bytes mL ret ∈ WL)
    (hd : y.cls ≠ "java/lang/invoke/MethodHandle" ∧ y.cls ≠ "java/lang/invoke/VarHandle" ∧ (parseMethodDescriptor y.desc).map (fun d => d.parameters.length) = some As.length) (hR : rm.frames + 1 ≤ R.frames ∧ 8 + (mL + 11) + rm.locals ≤ R.locals)
    (hsize : ls.size = nL) (hst : st = As.reverse ++ rest) (hW : (rest.map fun v => v.category).sum ≤ 8) (hf : cells + mc ≤ R.cells ∧ slots + ms ≤ R.slots) (hdg : decode cc pc = .ok (.invokestatic index, 3)) :
    va_Run p l e R s m args below meth c H locs cells slots mc ms (F0 m pc ls st) rest (Qc As.toArray) free :=
  va_runS (g := F0 m pc ls st) X hM (va_cwS As.length X.2.2.2.2 (gz_S h1 h2 h4 h5) rfl hrc.1 hrc.2 hd hR) ⟨KPc.blind, fun U hU hW => ⟨rfl, hK.warm hW, by rw [hU]; exact hP⟩⟩ rfl rfl hsize hst (lv_room hW) hdg hf
theorem k_runSN {y : MethodName} {bytes : ByteArray} {mL mc ms index : Nat} {ret : Option FieldType} {rm : Room} {Qc : Array Value → State → Outcome → State → Prop} {free : Addr → Prop} {As : List Value} {host : String} (X : CallFix p m c cc nL s args WL own) (hK : kC G s) (hP : va_P (gD G) vwCl ws H)
    (hM : Met l y (.code y bytes mL ret :: WL) rm (KPc G As ws) Qc mc ms free) (hrc : rm.cells = mc ∧ rm.slots = ms)
    (h1 : Cond.methodLinkNest own index y host ∈ nestL) (h2 : Cond.static y ∈ WL) (h4 : Cond.initialized y.cls ∈ WL) (h5 : Cond.code y bytes mL ret ∈ WL)
    (hd : y.cls ≠ "java/lang/invoke/MethodHandle" ∧ y.cls ≠ "java/lang/invoke/VarHandle" ∧ (parseMethodDescriptor y.desc).map (fun d => d.parameters.length) = some As.length) (hR : rm.frames + 1 ≤ R.frames ∧ 8 + (mL + 11) + rm.locals ≤ R.locals)
    (hsize : ls.size = nL) (hst : st = As.reverse ++ rest) (hW : (rest.map fun v => v.category).sum ≤ 8) (hf : cells + mc ≤ R.cells ∧ slots + ms ≤ R.slots) (hdg : decode cc pc = .ok (.invokestatic index, 3)) :
    va_Run p l e R s m args below meth c H locs cells slots mc ms (F0 m pc ls st) rest (Qc As.toArray) free :=
  va_runSN (g := F0 m pc ls st) X hM ⟨va_cnB As.length X.2.2.2.2 (gz_c h5) rfl hrc.1 hrc.2 (hK.2 _ h1) (X.2.2.2.2 _ h4) hd hR, X.2.2.2.2 _ h2, trivial⟩ ⟨KPc.blind, fun U hU hW => ⟨rfl, hK.warm hW, by rw [hU]; exact hP⟩⟩ rfl rfl hsize hst (lv_room hW) hdg hf
theorem k_ci {post : Int32 → S → Prop} {av : Array Value} (hr : va_Run p l e R s m args below meth c H locs cells slots 0 0 (F0 m pc ls st) rest (va_Qi post (KB G wd) A av) A) (hS : va_S A s.heap H locs)
    (kk : ∀ (r : Int32) (u' : S) (H1 : Heap) (locs1 : List Loc), post r u' → va_P (gD G) vwCl (wd u') H1 → va_S A s.heap H1 locs1 → W p l e R s m args below meth c H1 locs1 cells slots Q (F0 m (pc + 3) ls (.int r :: rest))) : W p l e R s m args below meth c H locs cells slots Q (F0 m pc ls st) :=
  va_calli hr hS (fun _ _ h => h) (fun _ h => h) (fun r u' t H1 locs1 ht _ hq hB _ _ hS1 => kk r u' H1 locs1 hq (ht ▸ hB) hS1)
theorem k_cv {post : S → Prop} {av : Array Value} (hr : va_Run p l e R s m args below meth c H locs cells slots 0 0 (F0 m pc ls st) rest (va_Qv post (KB G wd) A av) A) (hS : va_S A s.heap H locs)
    (kk : ∀ (u' : S) (H1 : Heap) (locs1 : List Loc), post u' → va_P (gD G) vwCl (wd u') H1 → va_S A s.heap H1 locs1 → W p l e R s m args below meth c H1 locs1 cells slots Q (F0 m (pc + 3) ls rest)) : W p l e R s m args below meth c H locs cells slots Q (F0 m pc ls st) :=
  va_callv hr hS (fun _ _ h => h) (fun _ h => h) (fun u' t H1 locs1 ht _ hq hB _ _ hS1 => kk u' H1 locs1 hq (ht ▸ hB) hS1)
theorem k_cq {post : Option Nat → S → Prop} {av : Array Value} (hr : va_Run p l e R s m args below meth c H locs cells slots 0 0 (F0 m pc ls st) rest (va_Qq post (KB G wd) A av) A) (hS : va_S A s.heap H locs)
    (kk : ∀ (r : Option Nat) (u' : S) (H1 : Heap) (locs1 : List Loc), post r u' → va_P (gD G) vwCl (wd u') H1 → va_S A s.heap H1 locs1 → W p l e R s m args below meth c H1 locs1 cells slots Q (F0 m (pc + 3) ls (va_rf r :: rest))) : W p l e R s m args below meth c H locs cells slots Q (F0 m pc ls st) :=
  va_callq hr hS (fun _ _ h => h) (fun _ h => h) (fun r u' t H1 locs1 ht _ hq hB _ _ hS1 => kk r u' H1 locs1 hq (ht ▸ hB) hS1)
end KR
