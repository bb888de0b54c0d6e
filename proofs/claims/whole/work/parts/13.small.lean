/-! small rows: compares of small numbers, fields' words -/
theorem cLe {a b : Nat} (h : nI a ≤ nI b) (ha : a < 2 ^ 31) (hb : b < 2 ^ 31) : a ≤ b := (nI_leI ha hb).mp h
theorem cNle {a b : Nat} (h : ¬ nI a ≤ nI b) (ha : b < 2 ^ 31) (hb : a < 2 ^ 31) : b < a := Nat.lt_of_not_le fun q => h ((nI_leI hb ha).mpr q)
theorem cLt {a b : Nat} (h : nI a < nI b) (ha : a < 2 ^ 31) (hb : b < 2 ^ 31) : a < b := (nI_ltI ha hb).mp h
theorem cNlt {a b : Nat} (h : ¬ nI a < nI b) (ha : b < 2 ^ 31) (hb : a < 2 ^ 31) : b ≤ a := Nat.le_of_not_lt fun q => h ((nI_ltI hb ha).mpr q)
theorem cEq {a b : Nat} (h : nI a = nI b) (ha : a < 2 ^ 31) (hb : b < 2 ^ 31) : a = b := (nI_eq ha hb).mp h
theorem cNe {a b : Nat} (h : ¬ nI a = nI b) (_ : a < 2 ^ 31) (_ : b < 2 ^ 31) : a ≠ b := fun q => h (congrArg nI q)
theorem czEq {a : Nat} (h : nI a = 0) (ha : a < 2 ^ 31) (_ : 0 < 2 ^ 31) : a = 0 := cEq (b := 0) h ha (by decide)
theorem czNe {a : Nat} (h : ¬ nI a = 0) (_ : a < 2 ^ 31) (_ : 0 < 2 ^ 31) : a ≠ 0 := fun q => h (congrArg nI q)
theorem czLt {a : Nat} (h : nI a < 0) (ha : a < 2 ^ 31) (_ : 0 < 2 ^ 31) : a < 0 := cLt (b := 0) h ha (by decide)
theorem czNlt {a : Nat} (h : ¬ nI a < 0) (_ : 0 < 2 ^ 31) (ha : a < 2 ^ 31) : 0 ≤ a := Nat.zero_le _
theorem czLe {a : Nat} (h : nI a ≤ 0) (ha : a < 2 ^ 31) (_ : 0 < 2 ^ 31) : a ≤ 0 := cLe (b := 0) h ha (by decide)
theorem czNle {a : Nat} (h : ¬ nI a ≤ 0) (_ : 0 < 2 ^ 31) (ha : a < 2 ^ 31) : 0 < a := cNle (b := 0) h (by decide) ha
theorem czrLt {a : Nat} (h : 0 < nI a) (_ : 0 < 2 ^ 31) (ha : a < 2 ^ 31) : 0 < a := cLt (a := 0) h (by decide) ha
theorem czrNlt {a : Nat} (h : ¬ 0 < nI a) (ha : a < 2 ^ 31) (_ : 0 < 2 ^ 31) : a ≤ 0 := cNlt (a := 0) h ha (by decide)
theorem czrLe {a : Nat} (_ : 0 ≤ nI a) (_ : 0 < 2 ^ 31) (ha : a < 2 ^ 31) : 0 ≤ a := Nat.zero_le _
theorem czrNle {a : Nat} (h : ¬ 0 ≤ nI a) (ha : a < 2 ^ 31) (_ : 0 < 2 ^ 31) : a < 0 := cNle (a := 0) h ha (by decide)
theorem oI_pos {k : Nat} (h : 0 < k) : nI k = oI k := by simp [oI, Nat.ne_of_gt h]
theorem eP_pos {f : Nat → Nat} {k : Nat} (h : 0 < k) : eP f k = nI (f k) := by simp [eP, Nat.ne_of_gt h]
theorem eP_0 {f : Nat → Nat} : eP f 0 = -1 := by simp [eP]
theorem m1_ne {n : Nat} (h : n < 2 ^ 31) : nI n ≠ -1 := by
  intro e
  have h1 := nI_toInt h
  rw [e] at h1
  have h2 : (-1 : Int32).toInt = -1 := by decide
  rw [h2] at h1
  omega
theorem oI_m1 {k : Nat} (h : k < 2 ^ 31) : oI k = -1 ↔ k = 0 := by
  by_cases hk : k = 0
  · simp [oI, hk]
  · simp only [oI, if_neg hk]
    exact ⟨fun e => absurd e (m1_ne h), fun e => absurd e hk⟩
theorem eP_m1 {f : Nat → Nat} {k : Nat} (h : f k < 2 ^ 31) : eP f k = -1 ↔ k = 0 := by
  by_cases hk : k = 0
  · simp [eP, hk]
  · simp only [eP, if_neg hk]
    exact ⟨fun e => absurd e (m1_ne h), fun e => absurd e hk⟩
theorem sb_gt {a b : Nat} (ha : a < 2 ^ 30) (hb : b < 2 ^ 30) : 0 < nI a - nI b ↔ b < a := by
  rw [Int32.lt_iff_toInt_lt, pk_sub_toInt ha hb]
  have e : (0 : Int32).toInt = 0 := rfl
  rw [e]
  omega
theorem sb_eq {a b : Nat} (ha : a < 2 ^ 30) (hb : b < 2 ^ 30) : nI a - nI b = 0 ↔ a = b := by
  rw [← Int32.toInt_inj, pk_sub_toInt ha hb]
  have e : (0 : Int32).toInt = 0 := rfl
  rw [e]
  omega
/-- an int, and a bound: below 0, a small number below n, or not below n -/
theorem ix3 (x : Int32) (n : Nat) (hn : n < 2 ^ 31) : (∃ j : Nat, j < n ∧ x = nI j) ∨ (∀ j : Nat, j < n → x ≠ nI j) := by
  by_cases h : ∃ j : Nat, j < n ∧ x = nI j
  · exact Or.inl h
  · exact Or.inr fun j hj e => h ⟨j, hj, e⟩
theorem ix_in {x : Int32} {n : Nat} (h0 : ¬ x < 0) (h1 : x < nI n) (hn : n < 2 ^ 31) : ∃ j : Nat, j < n ∧ x = nI j := by
  obtain ⟨j, hj, rfl⟩ := nI_of h0
  exact ⟨j, cLt h1 hj hn, rfl⟩
theorem ix_lo {x : Int32} {j n : Nat} (h : x < 0) (hj : j < n) (hn : n < 2 ^ 31) : x ≠ nI j := fun e => by
  rw [e] at h
  exact nI_pos (Nat.lt_trans hj hn) h
theorem ix_hi {x : Int32} {j n : Nat} (h : nI n ≤ x) (hj : j < n) (hn : n < 2 ^ 31) : x ≠ nI j := fun e => by
  rw [e] at h
  have := cLe h hn (Nat.lt_trans hj hn)
  omega
theorem inX0 : ∀ w ∈ u_ws RX0 TX0 8, w ∈ WL := by
  show ∀ w ∈ ([(Cond.laysFinal "StreamChain$Blocks" "StreamChain$Blocks" "parent" "[I"), (Cond.laysFinal "StreamChain$Blocks" "StreamChain$Blocks" "epoch" "[I"), (Cond.laysFinal "StreamChain$Blocks" "StreamChain$Blocks" "load" "[I"), (Cond.laysFinal "StreamChain$Blocks" "StreamChain$Blocks" "height" "[I"), (Cond.laysFinal "StreamChain$Blocks" "StreamChain$Blocks" "maker" "[I"), (Cond.laysFinal "StreamChain$Blocks" "StreamChain$Blocks" "chain" "[J"), (Cond.laysFinal "StreamChain$Blocks" "StreamChain$Blocks" "chainLoad" "[I"), (Cond.lays "StreamChain$Blocks" "StreamChain$Blocks" "total" "I")] : List Cond), w ∈ WL
  exact List.forall_mem_cons.mpr ⟨tw_1_50, List.forall_mem_cons.mpr ⟨tw_1_52, List.forall_mem_cons.mpr ⟨tw_1_54, List.forall_mem_cons.mpr ⟨tw_1_56, List.forall_mem_cons.mpr ⟨tw_1_58, List.forall_mem_cons.mpr ⟨tw_1_60, List.forall_mem_cons.mpr ⟨tw_1_62, List.forall_mem_cons.mpr ⟨tw_1_64, fun _ h => absurd h List.not_mem_nil⟩⟩⟩⟩⟩⟩⟩⟩
theorem inX1 : ∀ w ∈ u_ws RX1 TX1 16, w ∈ WL := by
  show ∀ w ∈ ([(Cond.laysFinal "StreamChain$Node" "StreamChain$Node" "number" "I"), (Cond.laysFinal "StreamChain$Node" "StreamChain$Node" "size" "I"), (Cond.laysFinal "StreamChain$Node" "StreamChain$Node" "blocks" "LStreamChain$Blocks;"), (Cond.lays "StreamChain$Node" "StreamChain$Node" "isFalse" "Z"), (Cond.lays "StreamChain$Node" "StreamChain$Node" "wishes" "I"), (Cond.lays "StreamChain$Node" "StreamChain$Node" "proposals" "J"), (Cond.lays "StreamChain$Node" "StreamChain$Node" "proposalsUnderWay" "J"), (Cond.laysFinal "StreamChain$Node" "StreamChain$Node" "voters" "[I"), (Cond.laysFinal "StreamChain$Node" "StreamChain$Node" "votersUnderWay" "[I"), (Cond.laysFinal "StreamChain$Node" "StreamChain$Node" "firstCome" "[I"), (Cond.laysFinal "StreamChain$Node" "StreamChain$Node" "votedFor" "[I"), (Cond.lays "StreamChain$Node" "StreamChain$Node" "known" "J"), (Cond.lays "StreamChain$Node" "StreamChain$Node" "notarized" "J"), (Cond.lays "StreamChain$Node" "StreamChain$Node" "finals" "J"), (Cond.lays "StreamChain$Node" "StreamChain$Node" "tip" "I"), (Cond.lays "StreamChain$Node" "StreamChain$Node" "highestFinal" "I")] : List Cond), w ∈ WL
  exact List.forall_mem_cons.mpr ⟨tw_1_106, List.forall_mem_cons.mpr ⟨tw_1_108, List.forall_mem_cons.mpr ⟨tw_1_110, List.forall_mem_cons.mpr ⟨tw_1_112, List.forall_mem_cons.mpr ⟨tw_1_114, List.forall_mem_cons.mpr ⟨tw_1_116, List.forall_mem_cons.mpr ⟨tw_1_118, List.forall_mem_cons.mpr ⟨tw_1_120, List.forall_mem_cons.mpr ⟨tw_1_122, List.forall_mem_cons.mpr ⟨tw_1_124, List.forall_mem_cons.mpr ⟨tw_1_126, List.forall_mem_cons.mpr ⟨tw_1_128, List.forall_mem_cons.mpr ⟨tw_1_130, List.forall_mem_cons.mpr ⟨tw_1_132, List.forall_mem_cons.mpr ⟨tw_1_134, List.forall_mem_cons.mpr ⟨tw_1_136, fun _ h => absurd h List.not_mem_nil⟩⟩⟩⟩⟩⟩⟩⟩⟩⟩⟩⟩⟩⟩⟩⟩
theorem inX2 : ∀ w ∈ u_ws RX2 TX2 6, w ∈ WL := by
  show ∀ w ∈ ([(Cond.laysFinal "StreamChain" "StreamChain" "blocks" "LStreamChain$Blocks;"), (Cond.laysFinal "StreamChain" "StreamChain" "nodes" "[LStreamChain$Node;"), (Cond.laysFinal "StreamChain" "StreamChain" "leaders" "[I"), (Cond.lays "StreamChain" "StreamChain" "present" "I"), (Cond.lays "StreamChain" "StreamChain" "votesGiven" "I"), (Cond.lays "StreamChain" "StreamChain" "lettersCome" "I")] : List Cond), w ∈ WL
  exact List.forall_mem_cons.mpr ⟨tw_1_145, List.forall_mem_cons.mpr ⟨tw_1_147, List.forall_mem_cons.mpr ⟨tw_1_149, List.forall_mem_cons.mpr ⟨tw_1_151, List.forall_mem_cons.mpr ⟨tw_1_153, List.forall_mem_cons.mpr ⟨tw_1_155, fun _ h => absurd h List.not_mem_nil⟩⟩⟩⟩⟩⟩
theorem inX3 : ∀ w ∈ u_ws RX3 TX3 27, w ∈ WL := by
  show ∀ w ∈ ([(Cond.lays "StreamChainModel" "StreamChainModel" "thrown" "I"), (Cond.laysFinal "StreamChainModel" "StreamChainModel" "n" "I"), (Cond.laysFinal "StreamChainModel" "StreamChainModel" "isFalse" "[Z"), (Cond.laysFinal "StreamChainModel" "StreamChainModel" "wishes" "[I"), (Cond.laysFinal "StreamChainModel" "StreamChainModel" "leader" "[I"), (Cond.lays "StreamChainModel" "StreamChainModel" "present" "I"), (Cond.lays "StreamChainModel" "StreamChainModel" "blocks" "I"), (Cond.laysFinal "StreamChainModel" "StreamChainModel" "parent" "[I"), (Cond.laysFinal "StreamChainModel" "StreamChainModel" "epochOf" "[I"), (Cond.laysFinal "StreamChainModel" "StreamChainModel" "load" "[I"), (Cond.laysFinal "StreamChainModel" "StreamChainModel" "height" "[I"), (Cond.laysFinal "StreamChainModel" "StreamChainModel" "maker" "[I"), (Cond.laysFinal "StreamChainModel" "StreamChainModel" "has" "[Z"), (Cond.laysFinal "StreamChainModel" "StreamChainModel" "isWay" "[Z"), (Cond.laysFinal "StreamChainModel" "StreamChainModel" "cameAt" "[I"), (Cond.lays "StreamChainModel" "StreamChainModel" "came" "I"), (Cond.lays "StreamChainModel" "StreamChainModel" "arrived" "I"), (Cond.laysFinal "StreamChainModel" "StreamChainModel" "vote" "[I"), (Cond.lays "StreamChainModel" "StreamChainModel" "given" "I"), (Cond.laysFinal "StreamChainModel" "StreamChainModel" "isKnown" "[Z"), (Cond.laysFinal "StreamChainModel" "StreamChainModel" "isNotarized" "[Z"), (Cond.laysFinal "StreamChainModel" "StreamChainModel" "isFinal" "[Z"), (Cond.lays "StreamChainModel" "StreamChainModel" "reach" "I"), (Cond.lays "StreamChainModel" "StreamChainModel" "tip" "I"), (Cond.lays "StreamChainModel" "StreamChainModel" "highest" "I"), (Cond.laysFinal "StreamChainModel" "StreamChainModel" "isToCome" "[Z"), (Cond.laysFinal "StreamChainModel" "StreamChainModel" "chain" "[I")] : List Cond), w ∈ WL
  exact List.forall_mem_cons.mpr ⟨tw_2_162, List.forall_mem_cons.mpr ⟨tw_2_164, List.forall_mem_cons.mpr ⟨tw_2_166, List.forall_mem_cons.mpr ⟨tw_2_168, List.forall_mem_cons.mpr ⟨tw_2_170, List.forall_mem_cons.mpr ⟨tw_2_172, List.forall_mem_cons.mpr ⟨tw_2_174, List.forall_mem_cons.mpr ⟨tw_2_176, List.forall_mem_cons.mpr ⟨tw_2_178, List.forall_mem_cons.mpr ⟨tw_2_180, List.forall_mem_cons.mpr ⟨tw_2_182, List.forall_mem_cons.mpr ⟨tw_2_184, List.forall_mem_cons.mpr ⟨tw_2_186, List.forall_mem_cons.mpr ⟨tw_2_188, List.forall_mem_cons.mpr ⟨tw_2_190, List.forall_mem_cons.mpr ⟨tw_2_192, List.forall_mem_cons.mpr ⟨tw_2_194, List.forall_mem_cons.mpr ⟨tw_2_196, List.forall_mem_cons.mpr ⟨tw_2_198, List.forall_mem_cons.mpr ⟨tw_2_200, List.forall_mem_cons.mpr ⟨tw_2_202, List.forall_mem_cons.mpr ⟨tw_2_204, List.forall_mem_cons.mpr ⟨tw_2_206, List.forall_mem_cons.mpr ⟨tw_2_208, List.forall_mem_cons.mpr ⟨tw_2_210, List.forall_mem_cons.mpr ⟨tw_2_212, List.forall_mem_cons.mpr ⟨tw_2_214, fun _ h => absurd h List.not_mem_nil⟩⟩⟩⟩⟩⟩⟩⟩⟩⟩⟩⟩⟩⟩⟩⟩⟩⟩⟩⟩⟩⟩⟩⟩⟩⟩⟩
