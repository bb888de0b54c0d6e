section
-- ===== PART A: goes FIRST, ahead of the names: the tables' words, and 'selects' of the private methods out of them =====
/-- a private method of a class that the tables say can be made, by its rows of tables_1 -/
def lw_okq (q : MethodName × Nat) : Prop := (q.1.cls ≠ "java/lang/invoke/MethodHandle" ∧ q.1.cls ≠ "java/lang/invoke/VarHandle") ∧ Cond.instantiable q.1.cls q.2 ∈ tables_1 ∧ Cond.privateMethod q.1 ∈ tables_1 ∧ Cond.instanceMethod q.1 ∈ tables_1
theorem lw_p0 : lw_okq (⟨"StreamChain", "nodeAt", "(I)LStreamChain$Node;"⟩, 6) := ⟨⟨by decide +kernel, by decide +kernel⟩, List.mem_of_getElem? (i := 10) (by decide +kernel), List.mem_of_getElem? (i := 166) (by decide +kernel), List.mem_of_getElem? (i := 167) (by decide +kernel)⟩
theorem lw_p1 : lw_okq (⟨"StreamChain$Blocks", "hasOneOf", "(I)Z"⟩, 8) := ⟨⟨by decide +kernel, by decide +kernel⟩, List.mem_of_getElem? (i := 24) (by decide +kernel), List.mem_of_getElem? (i := 170) (by decide +kernel), List.mem_of_getElem? (i := 171) (by decide +kernel)⟩
theorem lw_p2 : lw_okq (⟨"StreamChain$Blocks", "haveRoom", "()Z"⟩, 8) := ⟨⟨by decide +kernel, by decide +kernel⟩, List.mem_of_getElem? (i := 24) (by decide +kernel), List.mem_of_getElem? (i := 186) (by decide +kernel), List.mem_of_getElem? (i := 187) (by decide +kernel)⟩
theorem lw_p3 : lw_okq (⟨"StreamChain", "makeOnTip", "(LStreamChain$Node;)V"⟩, 6) := ⟨⟨by decide +kernel, by decide +kernel⟩, List.mem_of_getElem? (i := 10) (by decide +kernel), List.mem_of_getElem? (i := 190) (by decide +kernel), List.mem_of_getElem? (i := 191) (by decide +kernel)⟩
theorem lw_p4 : lw_okq (⟨"StreamChain$Blocks", "make", "(IIII)I"⟩, 8) := ⟨⟨by decide +kernel, by decide +kernel⟩, List.mem_of_getElem? (i := 24) (by decide +kernel), List.mem_of_getElem? (i := 194) (by decide +kernel), List.mem_of_getElem? (i := 195) (by decide +kernel)⟩
theorem lw_p5 : lw_okq (⟨"StreamChain", "takeProposal", "(LStreamChain$Node;I)V"⟩, 6) := ⟨⟨by decide +kernel, by decide +kernel⟩, List.mem_of_getElem? (i := 10) (by decide +kernel), List.mem_of_getElem? (i := 198) (by decide +kernel), List.mem_of_getElem? (i := 199) (by decide +kernel)⟩
theorem lw_p6 : lw_okq (⟨"StreamChain$Node", "haveProposal", "(I)V"⟩, 16) := ⟨⟨by decide +kernel, by decide +kernel⟩, List.mem_of_getElem? (i := 71) (by decide +kernel), List.mem_of_getElem? (i := 202) (by decide +kernel), List.mem_of_getElem? (i := 203) (by decide +kernel)⟩
theorem lw_p7 : lw_okq (⟨"StreamChain$Node", "judgeFrom", "(I)V"⟩, 16) := ⟨⟨by decide +kernel, by decide +kernel⟩, List.mem_of_getElem? (i := 71) (by decide +kernel), List.mem_of_getElem? (i := 207) (by decide +kernel), List.mem_of_getElem? (i := 208) (by decide +kernel)⟩
theorem lw_p8 : lw_okq (⟨"StreamChain$Node", "raiseTip", "(I)V"⟩, 16) := ⟨⟨by decide +kernel, by decide +kernel⟩, List.mem_of_getElem? (i := 71) (by decide +kernel), List.mem_of_getElem? (i := 220) (by decide +kernel), List.mem_of_getElem? (i := 221) (by decide +kernel)⟩
theorem lw_p9 : lw_okq (⟨"StreamChain$Node", "makeFinalBelow", "(II)V"⟩, 16) := ⟨⟨by decide +kernel, by decide +kernel⟩, List.mem_of_getElem? (i := 71) (by decide +kernel), List.mem_of_getElem? (i := 224) (by decide +kernel), List.mem_of_getElem? (i := 225) (by decide +kernel)⟩
theorem lw_p10 : lw_okq (⟨"StreamChain", "allNodes", "()I"⟩, 6) := ⟨⟨by decide +kernel, by decide +kernel⟩, List.mem_of_getElem? (i := 10) (by decide +kernel), List.mem_of_getElem? (i := 228) (by decide +kernel), List.mem_of_getElem? (i := 229) (by decide +kernel)⟩
theorem lw_p11 : lw_okq (⟨"StreamChain", "sendProposal", "(II)I"⟩, 6) := ⟨⟨by decide +kernel, by decide +kernel⟩, List.mem_of_getElem? (i := 10) (by decide +kernel), List.mem_of_getElem? (i := 232) (by decide +kernel), List.mem_of_getElem? (i := 233) (by decide +kernel)⟩
theorem lw_p12 : lw_okq (⟨"StreamChain$Node", "expectProposal", "(I)Z"⟩, 16) := ⟨⟨by decide +kernel, by decide +kernel⟩, List.mem_of_getElem? (i := 71) (by decide +kernel), List.mem_of_getElem? (i := 237) (by decide +kernel), List.mem_of_getElem? (i := 238) (by decide +kernel)⟩
theorem lw_p13 : lw_okq (⟨"StreamChain", "look", "(LStreamChain$Node;)V"⟩, 6) := ⟨⟨by decide +kernel, by decide +kernel⟩, List.mem_of_getElem? (i := 10) (by decide +kernel), List.mem_of_getElem? (i := 241) (by decide +kernel), List.mem_of_getElem? (i := 242) (by decide +kernel)⟩
theorem lw_p14 : lw_okq (⟨"StreamChain$Node", "choice", "(I)I"⟩, 16) := ⟨⟨by decide +kernel, by decide +kernel⟩, List.mem_of_getElem? (i := 71) (by decide +kernel), List.mem_of_getElem? (i := 245) (by decide +kernel), List.mem_of_getElem? (i := 246) (by decide +kernel)⟩
theorem lw_p15 : lw_okq (⟨"StreamChain$Node", "haveVote", "(II)V"⟩, 16) := ⟨⟨by decide +kernel, by decide +kernel⟩, List.mem_of_getElem? (i := 71) (by decide +kernel), List.mem_of_getElem? (i := 249) (by decide +kernel), List.mem_of_getElem? (i := 250) (by decide +kernel)⟩
def lw_privs_1 : List (MethodName × Nat) := [(⟨"StreamChain", "nodeAt", "(I)LStreamChain$Node;"⟩, 6), (⟨"StreamChain$Blocks", "hasOneOf", "(I)Z"⟩, 8), (⟨"StreamChain$Blocks", "haveRoom", "()Z"⟩, 8), (⟨"StreamChain", "makeOnTip", "(LStreamChain$Node;)V"⟩, 6), (⟨"StreamChain$Blocks", "make", "(IIII)I"⟩, 8), (⟨"StreamChain", "takeProposal", "(LStreamChain$Node;I)V"⟩, 6), (⟨"StreamChain$Node", "haveProposal", "(I)V"⟩, 16), (⟨"StreamChain$Node", "judgeFrom", "(I)V"⟩, 16), (⟨"StreamChain$Node", "raiseTip", "(I)V"⟩, 16), (⟨"StreamChain$Node", "makeFinalBelow", "(II)V"⟩, 16), (⟨"StreamChain", "allNodes", "()I"⟩, 6), (⟨"StreamChain", "sendProposal", "(II)I"⟩, 6), (⟨"StreamChain$Node", "expectProposal", "(I)Z"⟩, 16), (⟨"StreamChain", "look", "(LStreamChain$Node;)V"⟩, 6), (⟨"StreamChain$Node", "choice", "(I)I"⟩, 16), (⟨"StreamChain$Node", "haveVote", "(II)V"⟩, 16)]
theorem lw_r1 : ∀ q ∈ lw_privs_1, lw_okq q := List.forall_mem_cons.mpr ⟨lw_p0, List.forall_mem_cons.mpr ⟨lw_p1, List.forall_mem_cons.mpr ⟨lw_p2, List.forall_mem_cons.mpr ⟨lw_p3, List.forall_mem_cons.mpr ⟨lw_p4, List.forall_mem_cons.mpr ⟨lw_p5, List.forall_mem_cons.mpr ⟨lw_p6, List.forall_mem_cons.mpr ⟨lw_p7, List.forall_mem_cons.mpr ⟨lw_p8, List.forall_mem_cons.mpr ⟨lw_p9, List.forall_mem_cons.mpr ⟨lw_p10, List.forall_mem_cons.mpr ⟨lw_p11, List.forall_mem_cons.mpr ⟨lw_p12, List.forall_mem_cons.mpr ⟨lw_p13, List.forall_mem_cons.mpr ⟨lw_p14, List.forall_mem_cons.mpr ⟨lw_p15, fun _ h => absurd h List.not_mem_nil⟩⟩⟩⟩⟩⟩⟩⟩⟩⟩⟩⟩⟩⟩⟩⟩
theorem lw_p16 : lw_okq (⟨"StreamChain", "sendVote", "(III)I"⟩, 6) := ⟨⟨by decide +kernel, by decide +kernel⟩, List.mem_of_getElem? (i := 10) (by decide +kernel), List.mem_of_getElem? (i := 253) (by decide +kernel), List.mem_of_getElem? (i := 254) (by decide +kernel)⟩
theorem lw_p17 : lw_okq (⟨"StreamChain$Node", "expectVote", "(II)Z"⟩, 16) := ⟨⟨by decide +kernel, by decide +kernel⟩, List.mem_of_getElem? (i := 71) (by decide +kernel), List.mem_of_getElem? (i := 257) (by decide +kernel), List.mem_of_getElem? (i := 258) (by decide +kernel)⟩
theorem lw_p18 : lw_okq (⟨"StreamChain$Blocks", "exist", "(I)Z"⟩, 8) := ⟨⟨by decide +kernel, by decide +kernel⟩, List.mem_of_getElem? (i := 24) (by decide +kernel), List.mem_of_getElem? (i := 265) (by decide +kernel), List.mem_of_getElem? (i := 266) (by decide +kernel)⟩
theorem lw_p19 : lw_okq (⟨"StreamChain", "letProposalCome", "(LStreamChain$Node;I)V"⟩, 6) := ⟨⟨by decide +kernel, by decide +kernel⟩, List.mem_of_getElem? (i := 10) (by decide +kernel), List.mem_of_getElem? (i := 269) (by decide +kernel), List.mem_of_getElem? (i := 270) (by decide +kernel)⟩
theorem lw_p20 : lw_okq (⟨"StreamChain", "letVoteCome", "(LStreamChain$Node;II)V"⟩, 6) := ⟨⟨by decide +kernel, by decide +kernel⟩, List.mem_of_getElem? (i := 10) (by decide +kernel), List.mem_of_getElem? (i := 277) (by decide +kernel), List.mem_of_getElem? (i := 278) (by decide +kernel)⟩
theorem lw_p21 : lw_okq (⟨"StreamChain", "takeVote", "(LStreamChain$Node;II)V"⟩, 6) := ⟨⟨by decide +kernel, by decide +kernel⟩, List.mem_of_getElem? (i := 10) (by decide +kernel), List.mem_of_getElem? (i := 281) (by decide +kernel), List.mem_of_getElem? (i := 282) (by decide +kernel)⟩
theorem lw_p22 : lw_okq (⟨"StreamChain", "letAllCome", "(LStreamChain$Node;)I"⟩, 6) := ⟨⟨by decide +kernel, by decide +kernel⟩, List.mem_of_getElem? (i := 10) (by decide +kernel), List.mem_of_getElem? (i := 289) (by decide +kernel), List.mem_of_getElem? (i := 290) (by decide +kernel)⟩
theorem lw_p23 : lw_okq (⟨"StreamChain", "lettersUnderWay", "()I"⟩, 6) := ⟨⟨by decide +kernel, by decide +kernel⟩, List.mem_of_getElem? (i := 10) (by decide +kernel), List.mem_of_getElem? (i := 297) (by decide +kernel), List.mem_of_getElem? (i := 298) (by decide +kernel)⟩
theorem lw_p24 : lw_okq (⟨"StreamChain", "areNodes", "(I)Z"⟩, 6) := ⟨⟨by decide +kernel, by decide +kernel⟩, List.mem_of_getElem? (i := 10) (by decide +kernel), List.mem_of_getElem? (i := 312) (by decide +kernel), List.mem_of_getElem? (i := 313) (by decide +kernel)⟩
theorem lw_p25 : lw_okq (⟨"StreamChain", "areInLine", "(II)Z"⟩, 6) := ⟨⟨by decide +kernel, by decide +kernel⟩, List.mem_of_getElem? (i := 10) (by decide +kernel), List.mem_of_getElem? (i := 355) (by decide +kernel), List.mem_of_getElem? (i := 356) (by decide +kernel)⟩
theorem lw_p26 : lw_okq (⟨"StreamChain", "falseNodes", "()I"⟩, 6) := ⟨⟨by decide +kernel, by decide +kernel⟩, List.mem_of_getElem? (i := 10) (by decide +kernel), List.mem_of_getElem? (i := 363) (by decide +kernel), List.mem_of_getElem? (i := 364) (by decide +kernel)⟩
theorem lw_p27 : lw_okq (⟨"StreamChainModel", "isNode", "(I)Z"⟩, 27) := ⟨⟨by decide +kernel, by decide +kernel⟩, List.mem_of_getElem? (i := 370) (by decide +kernel), List.mem_of_getElem? (i := 470) (by decide +kernel), List.mem_of_getElem? (i := 471) (by decide +kernel)⟩
theorem lw_p28 : lw_okq (⟨"StreamChainModel", "workOut", "(I)V"⟩, 27) := ⟨⟨by decide +kernel, by decide +kernel⟩, List.mem_of_getElem? (i := 370) (by decide +kernel), List.mem_of_getElem? (i := 487) (by decide +kernel), List.mem_of_getElem? (i := 488) (by decide +kernel)⟩
theorem lw_p29 : lw_okq (⟨"StreamChainModel", "votesOf", "(II)I"⟩, 27) := ⟨⟨by decide +kernel, by decide +kernel⟩, List.mem_of_getElem? (i := 370) (by decide +kernel), List.mem_of_getElem? (i := 494) (by decide +kernel), List.mem_of_getElem? (i := 495) (by decide +kernel)⟩
theorem lw_p30 : lw_okq (⟨"StreamChainModel", "newBlock", "(IIII)I"⟩, 27) := ⟨⟨by decide +kernel, by decide +kernel⟩, List.mem_of_getElem? (i := 370) (by decide +kernel), List.mem_of_getElem? (i := 498) (by decide +kernel), List.mem_of_getElem? (i := 499) (by decide +kernel)⟩
theorem lw_p31 : lw_okq (⟨"StreamChainModel", "gain", "(II)V"⟩, 27) := ⟨⟨by decide +kernel, by decide +kernel⟩, List.mem_of_getElem? (i := 370) (by decide +kernel), List.mem_of_getElem? (i := 502) (by decide +kernel), List.mem_of_getElem? (i := 503) (by decide +kernel)⟩
def lw_privs_2 : List (MethodName × Nat) := [(⟨"StreamChain", "sendVote", "(III)I"⟩, 6), (⟨"StreamChain$Node", "expectVote", "(II)Z"⟩, 16), (⟨"StreamChain$Blocks", "exist", "(I)Z"⟩, 8), (⟨"StreamChain", "letProposalCome", "(LStreamChain$Node;I)V"⟩, 6), (⟨"StreamChain", "letVoteCome", "(LStreamChain$Node;II)V"⟩, 6), (⟨"StreamChain", "takeVote", "(LStreamChain$Node;II)V"⟩, 6), (⟨"StreamChain", "letAllCome", "(LStreamChain$Node;)I"⟩, 6), (⟨"StreamChain", "lettersUnderWay", "()I"⟩, 6), (⟨"StreamChain", "areNodes", "(I)Z"⟩, 6), (⟨"StreamChain", "areInLine", "(II)Z"⟩, 6), (⟨"StreamChain", "falseNodes", "()I"⟩, 6), (⟨"StreamChainModel", "isNode", "(I)Z"⟩, 27), (⟨"StreamChainModel", "workOut", "(I)V"⟩, 27), (⟨"StreamChainModel", "votesOf", "(II)I"⟩, 27), (⟨"StreamChainModel", "newBlock", "(IIII)I"⟩, 27), (⟨"StreamChainModel", "gain", "(II)V"⟩, 27)]
theorem lw_r2 : ∀ q ∈ lw_privs_2, lw_okq q := List.forall_mem_cons.mpr ⟨lw_p16, List.forall_mem_cons.mpr ⟨lw_p17, List.forall_mem_cons.mpr ⟨lw_p18, List.forall_mem_cons.mpr ⟨lw_p19, List.forall_mem_cons.mpr ⟨lw_p20, List.forall_mem_cons.mpr ⟨lw_p21, List.forall_mem_cons.mpr ⟨lw_p22, List.forall_mem_cons.mpr ⟨lw_p23, List.forall_mem_cons.mpr ⟨lw_p24, List.forall_mem_cons.mpr ⟨lw_p25, List.forall_mem_cons.mpr ⟨lw_p26, List.forall_mem_cons.mpr ⟨lw_p27, List.forall_mem_cons.mpr ⟨lw_p28, List.forall_mem_cons.mpr ⟨lw_p29, List.forall_mem_cons.mpr ⟨lw_p30, List.forall_mem_cons.mpr ⟨lw_p31, fun _ h => absurd h List.not_mem_nil⟩⟩⟩⟩⟩⟩⟩⟩⟩⟩⟩⟩⟩⟩⟩⟩
theorem lw_p32 : lw_okq (⟨"StreamChainModel", "look", "(I)V"⟩, 27) := ⟨⟨by decide +kernel, by decide +kernel⟩, List.mem_of_getElem? (i := 370) (by decide +kernel), List.mem_of_getElem? (i := 506) (by decide +kernel), List.mem_of_getElem? (i := 507) (by decide +kernel)⟩
theorem lw_p33 : lw_okq (⟨"StreamChainModel", "isBlock", "(I)Z"⟩, 27) := ⟨⟨by decide +kernel, by decide +kernel⟩, List.mem_of_getElem? (i := 370) (by decide +kernel), List.mem_of_getElem? (i := 514) (by decide +kernel), List.mem_of_getElem? (i := 515) (by decide +kernel)⟩
theorem lw_p34 : lw_okq (⟨"StreamChainModel", "comes", "(II)V"⟩, 27) := ⟨⟨by decide +kernel, by decide +kernel⟩, List.mem_of_getElem? (i := 370) (by decide +kernel), List.mem_of_getElem? (i := 518) (by decide +kernel), List.mem_of_getElem? (i := 519) (by decide +kernel)⟩
theorem lw_p35 : lw_okq (⟨"StreamChainModel", "flowTo", "(I)I"⟩, 27) := ⟨⟨by decide +kernel, by decide +kernel⟩, List.mem_of_getElem? (i := 370) (by decide +kernel), List.mem_of_getElem? (i := 530) (by decide +kernel), List.mem_of_getElem? (i := 531) (by decide +kernel)⟩
theorem lw_p36 : lw_okq (⟨"StreamChainModel", "isTo", "(I)Z"⟩, 27) := ⟨⟨by decide +kernel, by decide +kernel⟩, List.mem_of_getElem? (i := 370) (by decide +kernel), List.mem_of_getElem? (i := 542) (by decide +kernel), List.mem_of_getElem? (i := 543) (by decide +kernel)⟩
theorem lw_p37 : lw_okq (⟨"StreamChainModel", "send", "(II)I"⟩, 27) := ⟨⟨by decide +kernel, by decide +kernel⟩, List.mem_of_getElem? (i := 370) (by decide +kernel), List.mem_of_getElem? (i := 546) (by decide +kernel), List.mem_of_getElem? (i := 547) (by decide +kernel)⟩
theorem lw_p38 : lw_okq (⟨"StreamChainModel", "isInChain", "(II)Z"⟩, 27) := ⟨⟨by decide +kernel, by decide +kernel⟩, List.mem_of_getElem? (i := 370) (by decide +kernel), List.mem_of_getElem? (i := 588) (by decide +kernel), List.mem_of_getElem? (i := 589) (by decide +kernel)⟩
def lw_privs_3 : List (MethodName × Nat) := [(⟨"StreamChainModel", "look", "(I)V"⟩, 27), (⟨"StreamChainModel", "isBlock", "(I)Z"⟩, 27), (⟨"StreamChainModel", "comes", "(II)V"⟩, 27), (⟨"StreamChainModel", "flowTo", "(I)I"⟩, 27), (⟨"StreamChainModel", "isTo", "(I)Z"⟩, 27), (⟨"StreamChainModel", "send", "(II)I"⟩, 27), (⟨"StreamChainModel", "isInChain", "(II)Z"⟩, 27)]
theorem lw_r3 : ∀ q ∈ lw_privs_3, lw_okq q := List.forall_mem_cons.mpr ⟨lw_p32, List.forall_mem_cons.mpr ⟨lw_p33, List.forall_mem_cons.mpr ⟨lw_p34, List.forall_mem_cons.mpr ⟨lw_p35, List.forall_mem_cons.mpr ⟨lw_p36, List.forall_mem_cons.mpr ⟨lw_p37, List.forall_mem_cons.mpr ⟨lw_p38, fun _ h => absurd h List.not_mem_nil⟩⟩⟩⟩⟩⟩⟩
def lw_privs : List (MethodName × Nat) := lw_privs_1 ++ (lw_privs_2 ++ (lw_privs_3))
def lw_tbl : List Cond := k2_sels lw_privs ++ tables_1
theorem lw_privs_ok : ∀ q ∈ lw_privs, lw_okq q := by
  show ∀ q ∈ lw_privs_1 ++ (lw_privs_2 ++ (lw_privs_3)), lw_okq q
  exact List.forall_mem_append.mpr ⟨lw_r1, List.forall_mem_append.mpr ⟨lw_r2, lw_r3⟩⟩
end
section
def RX0 : String := "StreamChain$Blocks"
def TX0 : u_T := fun k => match k with
  | 0 => ("StreamChain$Blocks", "parent", "[I", true)
  | 1 => ("StreamChain$Blocks", "epoch", "[I", true)
  | 2 => ("StreamChain$Blocks", "load", "[I", true)
  | 3 => ("StreamChain$Blocks", "height", "[I", true)
  | 4 => ("StreamChain$Blocks", "maker", "[I", true)
  | 5 => ("StreamChain$Blocks", "chain", "[J", true)
  | 6 => ("StreamChain$Blocks", "chainLoad", "[I", true)
  | _ => ("StreamChain$Blocks", "total", "I", false)
def tyX0 : Nat → FieldType := fun k => match k with
  | 0 => .array .int
  | 1 => .array .int
  | 2 => .array .int
  | 3 => .array .int
  | 4 => .array .int
  | 5 => .array .long
  | 6 => .array .int
  | _ => .int
abbrev wsX00 : List Cond := u_ws RX0 TX0 8
theorem nmX0 : ∀ a, a < 8 → ∀ b, b < 8 → a ≠ b → (TX0 a).2.1 ≠ (TX0 b).2.1 := by decide +kernel
theorem tyX0_ok : ∀ k, k < 8 → parseFieldDescriptor (TX0 k).2.2.1 = some (tyX0 k) := by decide +kernel
abbrev cX0_init : ByteArray := prog_2_method_1_code
def yX0_init : MethodName := ⟨RX0, "<init>", "()V"⟩
abbrev cX0_exist : ByteArray := prog_2_method_2_code
def yX0_exist : MethodName := ⟨RX0, "exist", "(I)Z"⟩
abbrev cX0_haveRoom : ByteArray := prog_2_method_3_code
def yX0_haveRoom : MethodName := ⟨RX0, "haveRoom", "()Z"⟩
abbrev cX0_hasOneOf : ByteArray := prog_2_method_4_code
def yX0_hasOneOf : MethodName := ⟨RX0, "hasOneOf", "(I)Z"⟩
abbrev cX0_make : ByteArray := prog_2_method_5_code
def yX0_make : MethodName := ⟨RX0, "make", "(IIII)I"⟩
def RX1 : String := "StreamChain$Node"
def TX1 : u_T := fun k => match k with
  | 0 => ("StreamChain$Node", "number", "I", true)
  | 1 => ("StreamChain$Node", "size", "I", true)
  | 2 => ("StreamChain$Node", "blocks", "LStreamChain$Blocks;", true)
  | 3 => ("StreamChain$Node", "isFalse", "Z", false)
  | 4 => ("StreamChain$Node", "wishes", "I", false)
  | 5 => ("StreamChain$Node", "proposals", "J", false)
  | 6 => ("StreamChain$Node", "proposalsUnderWay", "J", false)
  | 7 => ("StreamChain$Node", "voters", "[I", true)
  | 8 => ("StreamChain$Node", "votersUnderWay", "[I", true)
  | 9 => ("StreamChain$Node", "firstCome", "[I", true)
  | 10 => ("StreamChain$Node", "votedFor", "[I", true)
  | 11 => ("StreamChain$Node", "known", "J", false)
  | 12 => ("StreamChain$Node", "notarized", "J", false)
  | 13 => ("StreamChain$Node", "finals", "J", false)
  | 14 => ("StreamChain$Node", "tip", "I", false)
  | _ => ("StreamChain$Node", "highestFinal", "I", false)
def tyX1 : Nat → FieldType := fun k => match k with
  | 0 => .int
  | 1 => .int
  | 2 => .object "StreamChain$Blocks"
  | 3 => .boolean
  | 4 => .int
  | 5 => .long
  | 6 => .long
  | 7 => .array .int
  | 8 => .array .int
  | 9 => .array .int
  | 10 => .array .int
  | 11 => .long
  | 12 => .long
  | 13 => .long
  | 14 => .int
  | _ => .int
abbrev wsX10 : List Cond := u_ws RX1 TX1 16
theorem nmX1 : ∀ a, a < 16 → ∀ b, b < 16 → a ≠ b → (TX1 a).2.1 ≠ (TX1 b).2.1 := by decide +kernel
theorem tyX1_ok : ∀ k, k < 16 → parseFieldDescriptor (TX1 k).2.2.1 = some (tyX1 k) := by decide +kernel
abbrev cX1_init : ByteArray := prog_3_method_1_code
def yX1_init : MethodName := ⟨RX1, "<init>", "(IILStreamChain$Blocks;)V"⟩
abbrev cX1_expectProposal : ByteArray := prog_3_method_2_code
def yX1_expectProposal : MethodName := ⟨RX1, "expectProposal", "(I)Z"⟩
abbrev cX1_expectVote : ByteArray := prog_3_method_3_code
def yX1_expectVote : MethodName := ⟨RX1, "expectVote", "(II)Z"⟩
abbrev cX1_haveProposal : ByteArray := prog_3_method_4_code
def yX1_haveProposal : MethodName := ⟨RX1, "haveProposal", "(I)V"⟩
abbrev cX1_haveVote : ByteArray := prog_3_method_5_code
def yX1_haveVote : MethodName := ⟨RX1, "haveVote", "(II)V"⟩
abbrev cX1_judgeFrom : ByteArray := prog_3_method_6_code
def yX1_judgeFrom : MethodName := ⟨RX1, "judgeFrom", "(I)V"⟩
abbrev cX1_raiseTip : ByteArray := prog_3_method_7_code
def yX1_raiseTip : MethodName := ⟨RX1, "raiseTip", "(I)V"⟩
abbrev cX1_makeFinalBelow : ByteArray := prog_3_method_8_code
def yX1_makeFinalBelow : MethodName := ⟨RX1, "makeFinalBelow", "(II)V"⟩
abbrev cX1_choice : ByteArray := prog_3_method_9_code
def yX1_choice : MethodName := ⟨RX1, "choice", "(I)I"⟩
def RX2 : String := "StreamChain"
def TX2 : u_T := fun k => match k with
  | 0 => ("StreamChain", "blocks", "LStreamChain$Blocks;", true)
  | 1 => ("StreamChain", "nodes", "[LStreamChain$Node;", true)
  | 2 => ("StreamChain", "leaders", "[I", true)
  | 3 => ("StreamChain", "present", "I", false)
  | 4 => ("StreamChain", "votesGiven", "I", false)
  | _ => ("StreamChain", "lettersCome", "I", false)
def tyX2 : Nat → FieldType := fun k => match k with
  | 0 => .object "StreamChain$Blocks"
  | 1 => .array (.object "StreamChain$Node")
  | 2 => .array .int
  | 3 => .int
  | 4 => .int
  | _ => .int
abbrev wsX20 : List Cond := u_ws RX2 TX2 6
theorem nmX2 : ∀ a, a < 6 → ∀ b, b < 6 → a ≠ b → (TX2 a).2.1 ≠ (TX2 b).2.1 := by decide +kernel
theorem tyX2_ok : ∀ k, k < 6 → parseFieldDescriptor (TX2 k).2.2.1 = some (tyX2 k) := by decide +kernel
abbrev cX2_init : ByteArray := prog_1_method_1_code
def yX2_init : MethodName := ⟨RX2, "<init>", "(I)V"⟩
abbrev cX2_lead : ByteArray := prog_1_method_2_code
def yX2_lead : MethodName := ⟨RX2, "lead", "(II)I"⟩
abbrev cX2_fall : ByteArray := prog_1_method_3_code
def yX2_fall : MethodName := ⟨RX2, "fall", "(I)I"⟩
abbrev cX2_wish : ByteArray := prog_1_method_4_code
def yX2_wish : MethodName := ⟨RX2, "wish", "(II)I"⟩
abbrev cX2_epoch : ByteArray := prog_1_method_5_code
def yX2_epoch : MethodName := ⟨RX2, "epoch", "()I"⟩
abbrev cX2_bring : ByteArray := prog_1_method_6_code
def yX2_bring : MethodName := ⟨RX2, "bring", "(II)I"⟩
abbrev cX2_bringVote : ByteArray := prog_1_method_7_code
def yX2_bringVote : MethodName := ⟨RX2, "bringVote", "(III)I"⟩
abbrev cX2_flow : ByteArray := prog_1_method_8_code
def yX2_flow : MethodName := ⟨RX2, "flow", "(I)I"⟩
abbrev cX2_settle : ByteArray := prog_1_method_9_code
def yX2_settle : MethodName := ⟨RX2, "settle", "()I"⟩
abbrev cX2_propose : ByteArray := prog_1_method_10_code
def yX2_propose : MethodName := ⟨RX2, "propose", "(IIIII)I"⟩
abbrev cX2_lie : ByteArray := prog_1_method_11_code
def yX2_lie : MethodName := ⟨RX2, "lie", "(III)I"⟩
abbrev cX2_pass : ByteArray := prog_1_method_12_code
def yX2_pass : MethodName := ⟨RX2, "pass", "(III)I"⟩
abbrev cX2_about : ByteArray := prog_1_method_13_code
def yX2_about : MethodName := ⟨RX2, "about", "(II)I"⟩
abbrev cX2_seen : ByteArray := prog_1_method_14_code
def yX2_seen : MethodName := ⟨RX2, "seen", "(II)I"⟩
abbrev cX2_votes : ByteArray := prog_1_method_15_code
def yX2_votes : MethodName := ⟨RX2, "votes", "(II)I"⟩
abbrev cX2_voted : ByteArray := prog_1_method_16_code
def yX2_voted : MethodName := ⟨RX2, "voted", "(II)I"⟩
abbrev cX2_reach : ByteArray := prog_1_method_17_code
def yX2_reach : MethodName := ⟨RX2, "reach", "(II)I"⟩
abbrev cX2_ledger : ByteArray := prog_1_method_18_code
def yX2_ledger : MethodName := ⟨RX2, "ledger", "(II)I"⟩
abbrev cX2_agree : ByteArray := prog_1_method_19_code
def yX2_agree : MethodName := ⟨RX2, "agree", "()I"⟩
abbrev cX2_count : ByteArray := prog_1_method_20_code
def yX2_count : MethodName := ⟨RX2, "count", "(I)I"⟩
abbrev cX2_nodeAt : ByteArray := prog_1_method_21_code
def yX2_nodeAt : MethodName := ⟨RX2, "nodeAt", "(I)LStreamChain$Node;"⟩
abbrev cX2_areNodes : ByteArray := prog_1_method_22_code
def yX2_areNodes : MethodName := ⟨RX2, "areNodes", "(I)Z"⟩
abbrev cX2_isEpoch : ByteArray := prog_1_method_23_code
def yX2_isEpoch : MethodName := ⟨RX2, "isEpoch", "(I)Z"⟩
abbrev cX2_holds : ByteArray := prog_1_method_24_code
def yX2_holds : MethodName := ⟨RX2, "holds", "(JI)Z"⟩
abbrev cX2_wishAt : ByteArray := prog_1_method_25_code
def yX2_wishAt : MethodName := ⟨RX2, "wishAt", "(II)I"⟩
abbrev cX2_letAllCome : ByteArray := prog_1_method_26_code
def yX2_letAllCome : MethodName := ⟨RX2, "letAllCome", "(LStreamChain$Node;)I"⟩
abbrev cX2_letProposalCome : ByteArray := prog_1_method_27_code
def yX2_letProposalCome : MethodName := ⟨RX2, "letProposalCome", "(LStreamChain$Node;I)V"⟩
abbrev cX2_letVoteCome : ByteArray := prog_1_method_28_code
def yX2_letVoteCome : MethodName := ⟨RX2, "letVoteCome", "(LStreamChain$Node;II)V"⟩
abbrev cX2_takeProposal : ByteArray := prog_1_method_29_code
def yX2_takeProposal : MethodName := ⟨RX2, "takeProposal", "(LStreamChain$Node;I)V"⟩
abbrev cX2_takeVote : ByteArray := prog_1_method_30_code
def yX2_takeVote : MethodName := ⟨RX2, "takeVote", "(LStreamChain$Node;II)V"⟩
abbrev cX2_sendProposal : ByteArray := prog_1_method_31_code
def yX2_sendProposal : MethodName := ⟨RX2, "sendProposal", "(II)I"⟩
abbrev cX2_sendVote : ByteArray := prog_1_method_32_code
def yX2_sendVote : MethodName := ⟨RX2, "sendVote", "(III)I"⟩
abbrev cX2_allNodes : ByteArray := prog_1_method_33_code
def yX2_allNodes : MethodName := ⟨RX2, "allNodes", "()I"⟩
abbrev cX2_makeOnTip : ByteArray := prog_1_method_34_code
def yX2_makeOnTip : MethodName := ⟨RX2, "makeOnTip", "(LStreamChain$Node;)V"⟩
abbrev cX2_look : ByteArray := prog_1_method_35_code
def yX2_look : MethodName := ⟨RX2, "look", "(LStreamChain$Node;)V"⟩
abbrev cX2_falseNodes : ByteArray := prog_1_method_36_code
def yX2_falseNodes : MethodName := ⟨RX2, "falseNodes", "()I"⟩
abbrev cX2_lettersUnderWay : ByteArray := prog_1_method_37_code
def yX2_lettersUnderWay : MethodName := ⟨RX2, "lettersUnderWay", "()I"⟩
abbrev cX2_areInLine : ByteArray := prog_1_method_38_code
def yX2_areInLine : MethodName := ⟨RX2, "areInLine", "(II)Z"⟩
def RX3 : String := "StreamChainModel"
def TX3 : u_T := fun k => match k with
  | 0 => ("StreamChainModel", "thrown", "I", false)
  | 1 => ("StreamChainModel", "n", "I", true)
  | 2 => ("StreamChainModel", "isFalse", "[Z", true)
  | 3 => ("StreamChainModel", "wishes", "[I", true)
  | 4 => ("StreamChainModel", "leader", "[I", true)
  | 5 => ("StreamChainModel", "present", "I", false)
  | 6 => ("StreamChainModel", "blocks", "I", false)
  | 7 => ("StreamChainModel", "parent", "[I", true)
  | 8 => ("StreamChainModel", "epochOf", "[I", true)
  | 9 => ("StreamChainModel", "load", "[I", true)
  | 10 => ("StreamChainModel", "height", "[I", true)
  | 11 => ("StreamChainModel", "maker", "[I", true)
  | 12 => ("StreamChainModel", "has", "[Z", true)
  | 13 => ("StreamChainModel", "isWay", "[Z", true)
  | 14 => ("StreamChainModel", "cameAt", "[I", true)
  | 15 => ("StreamChainModel", "came", "I", false)
  | 16 => ("StreamChainModel", "arrived", "I", false)
  | 17 => ("StreamChainModel", "vote", "[I", true)
  | 18 => ("StreamChainModel", "given", "I", false)
  | 19 => ("StreamChainModel", "isKnown", "[Z", true)
  | 20 => ("StreamChainModel", "isNotarized", "[Z", true)
  | 21 => ("StreamChainModel", "isFinal", "[Z", true)
  | 22 => ("StreamChainModel", "reach", "I", false)
  | 23 => ("StreamChainModel", "tip", "I", false)
  | 24 => ("StreamChainModel", "highest", "I", false)
  | 25 => ("StreamChainModel", "isToCome", "[Z", true)
  | _ => ("StreamChainModel", "chain", "[I", true)
def tyX3 : Nat → FieldType := fun k => match k with
  | 0 => .int
  | 1 => .int
  | 2 => .array .boolean
  | 3 => .array .int
  | 4 => .array .int
  | 5 => .int
  | 6 => .int
  | 7 => .array .int
  | 8 => .array .int
  | 9 => .array .int
  | 10 => .array .int
  | 11 => .array .int
  | 12 => .array .boolean
  | 13 => .array .boolean
  | 14 => .array .int
  | 15 => .int
  | 16 => .int
  | 17 => .array .int
  | 18 => .int
  | 19 => .array .boolean
  | 20 => .array .boolean
  | 21 => .array .boolean
  | 22 => .int
  | 23 => .int
  | 24 => .int
  | 25 => .array .boolean
  | _ => .array .int
abbrev wsX30 : List Cond := u_ws RX3 TX3 27
theorem nmX3 : ∀ a, a < 27 → ∀ b, b < 27 → a ≠ b → (TX3 a).2.1 ≠ (TX3 b).2.1 := by decide +kernel
theorem tyX3_ok : ∀ k, k < 27 → parseFieldDescriptor (TX3 k).2.2.1 = some (tyX3 k) := by decide +kernel
abbrev cX3_in : ByteArray := prog_5_method_2_code
def yX3_in : MethodName := ⟨RX3, "in", "(JJJ)Z"⟩
abbrev cX3_init : ByteArray := prog_5_method_3_code
def yX3_init : MethodName := ⟨RX3, "<init>", "(I)V"⟩
abbrev cX3_isNode : ByteArray := prog_5_method_4_code
def yX3_isNode : MethodName := ⟨RX3, "isNode", "(I)Z"⟩
abbrev cX3_isBlock : ByteArray := prog_5_method_5_code
def yX3_isBlock : MethodName := ⟨RX3, "isBlock", "(I)Z"⟩
abbrev cX3_isEpoch : ByteArray := prog_5_method_6_code
def yX3_isEpoch : MethodName := ⟨RX3, "isEpoch", "(I)Z"⟩
abbrev cX3_letter : ByteArray := prog_5_method_7_code
def yX3_letter : MethodName := ⟨RX3, "letter", "(II)I"⟩
abbrev cX3_lead : ByteArray := prog_5_method_8_code
def yX3_lead : MethodName := ⟨RX3, "lead", "(II)I"⟩
abbrev cX3_fall : ByteArray := prog_5_method_9_code
def yX3_fall : MethodName := ⟨RX3, "fall", "(I)I"⟩
abbrev cX3_wish : ByteArray := prog_5_method_10_code
def yX3_wish : MethodName := ⟨RX3, "wish", "(II)I"⟩
abbrev cX3_votesOf : ByteArray := prog_5_method_11_code
def yX3_votesOf : MethodName := ⟨RX3, "votesOf", "(II)I"⟩
abbrev cX3_workOut : ByteArray := prog_5_method_12_code
def yX3_workOut : MethodName := ⟨RX3, "workOut", "(I)V"⟩
abbrev cX3_gain : ByteArray := prog_5_method_13_code
def yX3_gain : MethodName := ⟨RX3, "gain", "(II)V"⟩
abbrev cX3_look : ByteArray := prog_5_method_14_code
def yX3_look : MethodName := ⟨RX3, "look", "(I)V"⟩
abbrev cX3_newBlock : ByteArray := prog_5_method_15_code
def yX3_newBlock : MethodName := ⟨RX3, "newBlock", "(IIII)I"⟩
abbrev cX3_epoch : ByteArray := prog_5_method_16_code
def yX3_epoch : MethodName := ⟨RX3, "epoch", "()I"⟩
abbrev cX3_comes : ByteArray := prog_5_method_17_code
def yX3_comes : MethodName := ⟨RX3, "comes", "(II)V"⟩
abbrev cX3_bring : ByteArray := prog_5_method_18_code
def yX3_bring : MethodName := ⟨RX3, "bring", "(II)I"⟩
abbrev cX3_bringVote : ByteArray := prog_5_method_19_code
def yX3_bringVote : MethodName := ⟨RX3, "bringVote", "(III)I"⟩
abbrev cX3_flowTo : ByteArray := prog_5_method_20_code
def yX3_flowTo : MethodName := ⟨RX3, "flowTo", "(I)I"⟩
abbrev cX3_flow : ByteArray := prog_5_method_21_code
def yX3_flow : MethodName := ⟨RX3, "flow", "(I)I"⟩
abbrev cX3_settle : ByteArray := prog_5_method_22_code
def yX3_settle : MethodName := ⟨RX3, "settle", "()I"⟩
abbrev cX3_isTo : ByteArray := prog_5_method_23_code
def yX3_isTo : MethodName := ⟨RX3, "isTo", "(I)Z"⟩
abbrev cX3_send : ByteArray := prog_5_method_24_code
def yX3_send : MethodName := ⟨RX3, "send", "(II)I"⟩
abbrev cX3_propose : ByteArray := prog_5_method_25_code
def yX3_propose : MethodName := ⟨RX3, "propose", "(IIIII)I"⟩
abbrev cX3_lie : ByteArray := prog_5_method_26_code
def yX3_lie : MethodName := ⟨RX3, "lie", "(III)I"⟩
abbrev cX3_pass : ByteArray := prog_5_method_27_code
def yX3_pass : MethodName := ⟨RX3, "pass", "(III)I"⟩
abbrev cX3_about : ByteArray := prog_5_method_28_code
def yX3_about : MethodName := ⟨RX3, "about", "(II)I"⟩
abbrev cX3_seen : ByteArray := prog_5_method_29_code
def yX3_seen : MethodName := ⟨RX3, "seen", "(II)I"⟩
abbrev cX3_votes : ByteArray := prog_5_method_30_code
def yX3_votes : MethodName := ⟨RX3, "votes", "(II)I"⟩
abbrev cX3_voted : ByteArray := prog_5_method_31_code
def yX3_voted : MethodName := ⟨RX3, "voted", "(II)I"⟩
abbrev cX3_reach : ByteArray := prog_5_method_32_code
def yX3_reach : MethodName := ⟨RX3, "reach", "(II)I"⟩
abbrev cX3_ledger : ByteArray := prog_5_method_33_code
def yX3_ledger : MethodName := ⟨RX3, "ledger", "(II)I"⟩
abbrev cX3_isInChain : ByteArray := prog_5_method_34_code
def yX3_isInChain : MethodName := ⟨RX3, "isInChain", "(II)Z"⟩
abbrev cX3_agree : ByteArray := prog_5_method_35_code
def yX3_agree : MethodName := ⟨RX3, "agree", "()I"⟩
abbrev cX3_count : ByteArray := prog_5_method_36_code
def yX3_count : MethodName := ⟨RX3, "count", "(I)I"⟩
def RJ6 : String := "java/lang/Integer"
def TJ6 : u_T := fun k => match k with
  | _ => ("", "", "", false)
def tyJ6 : Nat → FieldType := fun k => match k with
  | _ => .int
abbrev wsJ60 : List Cond := u_ws RJ6 TJ6 0
theorem nmJ6 : ∀ a, a < 0 → ∀ b, b < 0 → a ≠ b → (TJ6 a).2.1 ≠ (TJ6 b).2.1 := by decide +kernel
theorem tyJ6_ok : ∀ k, k < 0 → parseFieldDescriptor (TJ6 k).2.2.1 = some (tyJ6 k) := by decide +kernel
abbrev cJ6_bitCount_0f7a4 : ByteArray := prog_6_method_49_code
def yJ6_bitCount_0f7a4 : MethodName := ⟨RJ6, "bitCount", "(I)I"⟩
def RJ13 : String := "java/lang/Long"
def TJ13 : u_T := fun k => match k with
  | _ => ("", "", "", false)
def tyJ13 : Nat → FieldType := fun k => match k with
  | _ => .int
abbrev wsJ130 : List Cond := u_ws RJ13 TJ13 0
theorem nmJ13 : ∀ a, a < 0 → ∀ b, b < 0 → a ≠ b → (TJ13 a).2.1 ≠ (TJ13 b).2.1 := by decide +kernel
theorem tyJ13_ok : ∀ k, k < 0 → parseFieldDescriptor (TJ13 k).2.2.1 = some (tyJ13 k) := by decide +kernel
abbrev cJ13_bitCount_95d88 : ByteArray := prog_7_method_50_code
def yJ13_bitCount_95d88 : MethodName := ⟨RJ13, "bitCount", "(J)I"⟩
def RJ9 : String := "java/lang/Math"
def TJ9 : u_T := fun k => match k with
  | _ => ("", "", "", false)
def tyJ9 : Nat → FieldType := fun k => match k with
  | _ => .int
abbrev wsJ90 : List Cond := u_ws RJ9 TJ9 0
theorem nmJ9 : ∀ a, a < 0 → ∀ b, b < 0 → a ≠ b → (TJ9 a).2.1 ≠ (TJ9 b).2.1 := by decide +kernel
theorem tyJ9_ok : ∀ k, k < 0 → parseFieldDescriptor (TJ9 k).2.2.1 = some (tyJ9 k) := by decide +kernel
abbrev cJ9_max_7cf53 : ByteArray := prog_8_method_65_code
def yJ9_max_7cf53 : MethodName := ⟨RJ9, "max", "(II)I"⟩
abbrev cJ9_min_7cf53 : ByteArray := prog_8_method_69_code
def yJ9_min_7cf53 : MethodName := ⟨RJ9, "min", "(II)I"⟩
def RJ7 : String := "java/util/Arrays"
def TJ7 : u_T := fun k => match k with
  | _ => ("", "", "", false)
def tyJ7 : Nat → FieldType := fun k => match k with
  | _ => .int
abbrev wsJ70 : List Cond := u_ws RJ7 TJ7 0
theorem nmJ7 : ∀ a, a < 0 → ∀ b, b < 0 → a ≠ b → (TJ7 a).2.1 ≠ (TJ7 b).2.1 := by decide +kernel
theorem tyJ7_ok : ∀ k, k < 0 → parseFieldDescriptor (TJ7 k).2.2.1 = some (tyJ7 k) := by decide +kernel
abbrev cJ7_fill_53178 : ByteArray := prog_9_method_103_code
def yJ7_fill_53178 : MethodName := ⟨RJ7, "fill", "([II)V"⟩
def RL : String := "StreamChainLaw"
abbrev cL_cell : ByteArray := method_2_code
def yL_cell : MethodName := ⟨RL, "cell", "([II)I"⟩
abbrev cL_law : ByteArray := code
def yL_law : MethodName := ⟨RL, "law", "([I)Z"⟩
abbrev vwCl : List vw_C := [(RX0, TX0, 8), (RX1, TX1, 16), (RX2, TX2, 6), (RX3, TX3, 27)]
end
section
theorem dX0_init_0 : decode cX0_init 0 = .ok (.aload_n 0, 1) := by decide +kernel
theorem dX0_init_1 : decode cX0_init 1 = .ok (.invokespecial 3, 3) := by decide +kernel
theorem dX0_init_4 : decode cX0_init 4 = .ok (.aload_n 0, 1) := by decide +kernel
theorem dX0_init_5 : decode cX0_init 5 = .ok (.bipush 61, 2) := by decide +kernel
theorem dX0_init_7 : decode cX0_init 7 = .ok (.newarray .int, 2) := by decide +kernel
theorem dX0_init_9 : decode cX0_init 9 = .ok (.putfield 9, 3) := by decide +kernel
theorem dX0_init_12 : decode cX0_init 12 = .ok (.aload_n 0, 1) := by decide +kernel
theorem dX0_init_13 : decode cX0_init 13 = .ok (.bipush 61, 2) := by decide +kernel
theorem dX0_init_15 : decode cX0_init 15 = .ok (.newarray .int, 2) := by decide +kernel
theorem dX0_init_17 : decode cX0_init 17 = .ok (.putfield 15, 3) := by decide +kernel
theorem dX0_init_20 : decode cX0_init 20 = .ok (.aload_n 0, 1) := by decide +kernel
theorem dX0_init_21 : decode cX0_init 21 = .ok (.bipush 61, 2) := by decide +kernel
theorem dX0_init_23 : decode cX0_init 23 = .ok (.newarray .int, 2) := by decide +kernel
theorem dX0_init_25 : decode cX0_init 25 = .ok (.putfield 18, 3) := by decide +kernel
theorem dX0_init_28 : decode cX0_init 28 = .ok (.aload_n 0, 1) := by decide +kernel
theorem dX0_init_29 : decode cX0_init 29 = .ok (.bipush 61, 2) := by decide +kernel
theorem dX0_init_31 : decode cX0_init 31 = .ok (.newarray .int, 2) := by decide +kernel
theorem dX0_init_33 : decode cX0_init 33 = .ok (.putfield 21, 3) := by decide +kernel
theorem dX0_init_36 : decode cX0_init 36 = .ok (.aload_n 0, 1) := by decide +kernel
theorem dX0_init_37 : decode cX0_init 37 = .ok (.bipush 61, 2) := by decide +kernel
theorem dX0_init_39 : decode cX0_init 39 = .ok (.newarray .int, 2) := by decide +kernel
theorem dX0_init_41 : decode cX0_init 41 = .ok (.putfield 24, 3) := by decide +kernel
theorem dX0_init_44 : decode cX0_init 44 = .ok (.aload_n 0, 1) := by decide +kernel
theorem dX0_init_45 : decode cX0_init 45 = .ok (.bipush 61, 2) := by decide +kernel
theorem dX0_init_47 : decode cX0_init 47 = .ok (.newarray .long, 2) := by decide +kernel
theorem dX0_init_49 : decode cX0_init 49 = .ok (.putfield 27, 3) := by decide +kernel
theorem dX0_init_52 : decode cX0_init 52 = .ok (.aload_n 0, 1) := by decide +kernel
theorem dX0_init_53 : decode cX0_init 53 = .ok (.bipush 61, 2) := by decide +kernel
theorem dX0_init_55 : decode cX0_init 55 = .ok (.newarray .int, 2) := by decide +kernel
theorem dX0_init_57 : decode cX0_init 57 = .ok (.putfield 31, 3) := by decide +kernel
theorem dX0_init_60 : decode cX0_init 60 = .ok (.aload_n 0, 1) := by decide +kernel
theorem dX0_init_61 : decode cX0_init 61 = .ok (.iconst 1, 1) := by decide +kernel
theorem dX0_init_62 : decode cX0_init 62 = .ok (.putfield 34, 3) := by decide +kernel
theorem dX0_init_65 : decode cX0_init 65 = .ok (.aload_n 0, 1) := by decide +kernel
theorem dX0_init_66 : decode cX0_init 66 = .ok (.getfield 9, 3) := by decide +kernel
theorem dX0_init_69 : decode cX0_init 69 = .ok (.iconst 0, 1) := by decide +kernel
theorem dX0_init_70 : decode cX0_init 70 = .ok (.iconst (-1), 1) := by decide +kernel
theorem dX0_init_71 : decode cX0_init 71 = .ok (.iastore, 1) := by decide +kernel
theorem dX0_init_72 : decode cX0_init 72 = .ok (.aload_n 0, 1) := by decide +kernel
theorem dX0_init_73 : decode cX0_init 73 = .ok (.getfield 24, 3) := by decide +kernel
theorem dX0_init_76 : decode cX0_init 76 = .ok (.iconst 0, 1) := by decide +kernel
theorem dX0_init_77 : decode cX0_init 77 = .ok (.iconst (-1), 1) := by decide +kernel
theorem dX0_init_78 : decode cX0_init 78 = .ok (.iastore, 1) := by decide +kernel
theorem dX0_init_79 : decode cX0_init 79 = .ok (.aload_n 0, 1) := by decide +kernel
theorem dX0_init_80 : decode cX0_init 80 = .ok (.getfield 27, 3) := by decide +kernel
theorem dX0_init_83 : decode cX0_init 83 = .ok (.iconst 0, 1) := by decide +kernel
theorem dX0_init_84 : decode cX0_init 84 = .ok (.lconst 1, 1) := by decide +kernel
theorem dX0_init_85 : decode cX0_init 85 = .ok (.lastore, 1) := by decide +kernel
theorem dX0_init_86 : decode cX0_init 86 = .ok (.return_, 1) := by decide +kernel
theorem dX0_exist_0 : decode cX0_exist 0 = .ok (.iload_n 1, 1) := by decide +kernel
theorem dX0_exist_1 : decode cX0_exist 1 = .ok (.ifCond .lt 15, 3) := by decide +kernel
theorem dX0_exist_4 : decode cX0_exist 4 = .ok (.iload_n 1, 1) := by decide +kernel
theorem dX0_exist_5 : decode cX0_exist 5 = .ok (.aload_n 0, 1) := by decide +kernel
theorem dX0_exist_6 : decode cX0_exist 6 = .ok (.getfield 34, 3) := by decide +kernel
theorem dX0_exist_9 : decode cX0_exist 9 = .ok (.if_icmp .ge 7, 3) := by decide +kernel
theorem dX0_exist_12 : decode cX0_exist 12 = .ok (.iconst 1, 1) := by decide +kernel
theorem dX0_exist_13 : decode cX0_exist 13 = .ok (.goto 4, 3) := by decide +kernel
theorem dX0_exist_16 : decode cX0_exist 16 = .ok (.iconst 0, 1) := by decide +kernel
theorem dX0_exist_17 : decode cX0_exist 17 = .ok (.ireturn, 1) := by decide +kernel
theorem dX0_haveRoom_0 : decode cX0_haveRoom 0 = .ok (.aload_n 0, 1) := by decide +kernel
theorem dX0_haveRoom_1 : decode cX0_haveRoom 1 = .ok (.getfield 34, 3) := by decide +kernel
theorem dX0_haveRoom_4 : decode cX0_haveRoom 4 = .ok (.bipush 60, 2) := by decide +kernel
theorem dX0_haveRoom_6 : decode cX0_haveRoom 6 = .ok (.if_icmp .gt 7, 3) := by decide +kernel
theorem dX0_haveRoom_9 : decode cX0_haveRoom 9 = .ok (.iconst 1, 1) := by decide +kernel
theorem dX0_haveRoom_10 : decode cX0_haveRoom 10 = .ok (.goto 4, 3) := by decide +kernel
theorem dX0_haveRoom_13 : decode cX0_haveRoom 13 = .ok (.iconst 0, 1) := by decide +kernel
theorem dX0_haveRoom_14 : decode cX0_haveRoom 14 = .ok (.ireturn, 1) := by decide +kernel
theorem dX0_hasOneOf_0 : decode cX0_hasOneOf 0 = .ok (.iconst 0, 1) := by decide +kernel
theorem dX0_hasOneOf_1 : decode cX0_hasOneOf 1 = .ok (.istore_n 2, 1) := by decide +kernel
theorem dX0_hasOneOf_2 : decode cX0_hasOneOf 2 = .ok (.iload_n 2, 1) := by decide +kernel
theorem dX0_hasOneOf_3 : decode cX0_hasOneOf 3 = .ok (.aload_n 0, 1) := by decide +kernel
theorem dX0_hasOneOf_4 : decode cX0_hasOneOf 4 = .ok (.getfield 34, 3) := by decide +kernel
theorem dX0_hasOneOf_7 : decode cX0_hasOneOf 7 = .ok (.if_icmp .ge 21, 3) := by decide +kernel
theorem dX0_hasOneOf_10 : decode cX0_hasOneOf 10 = .ok (.aload_n 0, 1) := by decide +kernel
theorem dX0_hasOneOf_11 : decode cX0_hasOneOf 11 = .ok (.getfield 15, 3) := by decide +kernel
theorem dX0_hasOneOf_14 : decode cX0_hasOneOf 14 = .ok (.iload_n 2, 1) := by decide +kernel
theorem dX0_hasOneOf_15 : decode cX0_hasOneOf 15 = .ok (.iaload, 1) := by decide +kernel
theorem dX0_hasOneOf_16 : decode cX0_hasOneOf 16 = .ok (.iload_n 1, 1) := by decide +kernel
theorem dX0_hasOneOf_17 : decode cX0_hasOneOf 17 = .ok (.if_icmp .ne 5, 3) := by decide +kernel
theorem dX0_hasOneOf_20 : decode cX0_hasOneOf 20 = .ok (.iconst 1, 1) := by decide +kernel
theorem dX0_hasOneOf_21 : decode cX0_hasOneOf 21 = .ok (.ireturn, 1) := by decide +kernel
theorem dX0_hasOneOf_22 : decode cX0_hasOneOf 22 = .ok (.iinc 2 1, 3) := by decide +kernel
theorem dX0_hasOneOf_25 : decode cX0_hasOneOf 25 = .ok (.goto (-23), 3) := by decide +kernel
theorem dX0_hasOneOf_28 : decode cX0_hasOneOf 28 = .ok (.iconst 0, 1) := by decide +kernel
theorem dX0_hasOneOf_29 : decode cX0_hasOneOf 29 = .ok (.ireturn, 1) := by decide +kernel
theorem dX0_make_0 : decode cX0_make 0 = .ok (.aload_n 0, 1) := by decide +kernel
theorem dX0_make_1 : decode cX0_make 1 = .ok (.getfield 34, 3) := by decide +kernel
theorem dX0_make_4 : decode cX0_make 4 = .ok (.istore 5, 2) := by decide +kernel
theorem dX0_make_6 : decode cX0_make 6 = .ok (.aload_n 0, 1) := by decide +kernel
theorem dX0_make_7 : decode cX0_make 7 = .ok (.dup, 1) := by decide +kernel
theorem dX0_make_8 : decode cX0_make 8 = .ok (.getfield 34, 3) := by decide +kernel
theorem dX0_make_11 : decode cX0_make 11 = .ok (.iconst 1, 1) := by decide +kernel
theorem dX0_make_12 : decode cX0_make 12 = .ok (.iadd, 1) := by decide +kernel
theorem dX0_make_13 : decode cX0_make 13 = .ok (.putfield 34, 3) := by decide +kernel
theorem dX0_make_16 : decode cX0_make 16 = .ok (.aload_n 0, 1) := by decide +kernel
theorem dX0_make_17 : decode cX0_make 17 = .ok (.getfield 9, 3) := by decide +kernel
theorem dX0_make_20 : decode cX0_make 20 = .ok (.iload 5, 2) := by decide +kernel
theorem dX0_make_22 : decode cX0_make 22 = .ok (.iload_n 1, 1) := by decide +kernel
theorem dX0_make_23 : decode cX0_make 23 = .ok (.iastore, 1) := by decide +kernel
theorem dX0_make_24 : decode cX0_make 24 = .ok (.aload_n 0, 1) := by decide +kernel
theorem dX0_make_25 : decode cX0_make 25 = .ok (.getfield 15, 3) := by decide +kernel
theorem dX0_make_28 : decode cX0_make 28 = .ok (.iload 5, 2) := by decide +kernel
theorem dX0_make_30 : decode cX0_make 30 = .ok (.iload_n 2, 1) := by decide +kernel
theorem dX0_make_31 : decode cX0_make 31 = .ok (.iastore, 1) := by decide +kernel
theorem dX0_make_32 : decode cX0_make 32 = .ok (.aload_n 0, 1) := by decide +kernel
theorem dX0_make_33 : decode cX0_make 33 = .ok (.getfield 18, 3) := by decide +kernel
theorem dX0_make_36 : decode cX0_make 36 = .ok (.iload 5, 2) := by decide +kernel
theorem dX0_make_38 : decode cX0_make 38 = .ok (.iload_n 3, 1) := by decide +kernel
theorem dX0_make_39 : decode cX0_make 39 = .ok (.iastore, 1) := by decide +kernel
theorem dX0_make_40 : decode cX0_make 40 = .ok (.aload_n 0, 1) := by decide +kernel
theorem dX0_make_41 : decode cX0_make 41 = .ok (.getfield 21, 3) := by decide +kernel
theorem dX0_make_44 : decode cX0_make 44 = .ok (.iload 5, 2) := by decide +kernel
theorem dX0_make_46 : decode cX0_make 46 = .ok (.aload_n 0, 1) := by decide +kernel
theorem dX0_make_47 : decode cX0_make 47 = .ok (.getfield 21, 3) := by decide +kernel
theorem dX0_make_50 : decode cX0_make 50 = .ok (.iload_n 1, 1) := by decide +kernel
theorem dX0_make_51 : decode cX0_make 51 = .ok (.iaload, 1) := by decide +kernel
theorem dX0_make_52 : decode cX0_make 52 = .ok (.iconst 1, 1) := by decide +kernel
theorem dX0_make_53 : decode cX0_make 53 = .ok (.iadd, 1) := by decide +kernel
theorem dX0_make_54 : decode cX0_make 54 = .ok (.iastore, 1) := by decide +kernel
theorem dX0_make_55 : decode cX0_make 55 = .ok (.aload_n 0, 1) := by decide +kernel
theorem dX0_make_56 : decode cX0_make 56 = .ok (.getfield 24, 3) := by decide +kernel
theorem dX0_make_59 : decode cX0_make 59 = .ok (.iload 5, 2) := by decide +kernel
theorem dX0_make_61 : decode cX0_make 61 = .ok (.iload 4, 2) := by decide +kernel
theorem dX0_make_63 : decode cX0_make 63 = .ok (.iastore, 1) := by decide +kernel
theorem dX0_make_64 : decode cX0_make 64 = .ok (.aload_n 0, 1) := by decide +kernel
theorem dX0_make_65 : decode cX0_make 65 = .ok (.getfield 27, 3) := by decide +kernel
theorem dX0_make_68 : decode cX0_make 68 = .ok (.iload 5, 2) := by decide +kernel
theorem dX0_make_70 : decode cX0_make 70 = .ok (.aload_n 0, 1) := by decide +kernel
theorem dX0_make_71 : decode cX0_make 71 = .ok (.getfield 27, 3) := by decide +kernel
theorem dX0_make_74 : decode cX0_make 74 = .ok (.iload_n 1, 1) := by decide +kernel
theorem dX0_make_75 : decode cX0_make 75 = .ok (.laload, 1) := by decide +kernel
theorem dX0_make_76 : decode cX0_make 76 = .ok (.lconst 1, 1) := by decide +kernel
theorem dX0_make_77 : decode cX0_make 77 = .ok (.iload 5, 2) := by decide +kernel
theorem dX0_make_79 : decode cX0_make 79 = .ok (.lshl, 1) := by decide +kernel
theorem dX0_make_80 : decode cX0_make 80 = .ok (.lor, 1) := by decide +kernel
theorem dX0_make_81 : decode cX0_make 81 = .ok (.lastore, 1) := by decide +kernel
theorem dX0_make_82 : decode cX0_make 82 = .ok (.aload_n 0, 1) := by decide +kernel
theorem dX0_make_83 : decode cX0_make 83 = .ok (.getfield 31, 3) := by decide +kernel
theorem dX0_make_86 : decode cX0_make 86 = .ok (.iload 5, 2) := by decide +kernel
theorem dX0_make_88 : decode cX0_make 88 = .ok (.aload_n 0, 1) := by decide +kernel
theorem dX0_make_89 : decode cX0_make 89 = .ok (.getfield 31, 3) := by decide +kernel
theorem dX0_make_92 : decode cX0_make 92 = .ok (.iload_n 1, 1) := by decide +kernel
theorem dX0_make_93 : decode cX0_make 93 = .ok (.iaload, 1) := by decide +kernel
theorem dX0_make_94 : decode cX0_make 94 = .ok (.iload_n 3, 1) := by decide +kernel
theorem dX0_make_95 : decode cX0_make 95 = .ok (.ior, 1) := by decide +kernel
theorem dX0_make_96 : decode cX0_make 96 = .ok (.iastore, 1) := by decide +kernel
theorem dX0_make_97 : decode cX0_make 97 = .ok (.iload 5, 2) := by decide +kernel
theorem dX0_make_99 : decode cX0_make 99 = .ok (.ireturn, 1) := by decide +kernel
end
section
theorem dX1_init_0 : decode cX1_init 0 = .ok (.aload_n 0, 1) := by decide +kernel
theorem dX1_init_1 : decode cX1_init 1 = .ok (.invokespecial 3, 3) := by decide +kernel
theorem dX1_init_4 : decode cX1_init 4 = .ok (.aload_n 0, 1) := by decide +kernel
theorem dX1_init_5 : decode cX1_init 5 = .ok (.bipush 61, 2) := by decide +kernel
theorem dX1_init_7 : decode cX1_init 7 = .ok (.newarray .int, 2) := by decide +kernel
theorem dX1_init_9 : decode cX1_init 9 = .ok (.putfield 9, 3) := by decide +kernel
theorem dX1_init_12 : decode cX1_init 12 = .ok (.aload_n 0, 1) := by decide +kernel
theorem dX1_init_13 : decode cX1_init 13 = .ok (.bipush 61, 2) := by decide +kernel
theorem dX1_init_15 : decode cX1_init 15 = .ok (.newarray .int, 2) := by decide +kernel
theorem dX1_init_17 : decode cX1_init 17 = .ok (.putfield 15, 3) := by decide +kernel
theorem dX1_init_20 : decode cX1_init 20 = .ok (.aload_n 0, 1) := by decide +kernel
theorem dX1_init_21 : decode cX1_init 21 = .ok (.bipush 41, 2) := by decide +kernel
theorem dX1_init_23 : decode cX1_init 23 = .ok (.newarray .int, 2) := by decide +kernel
theorem dX1_init_25 : decode cX1_init 25 = .ok (.putfield 18, 3) := by decide +kernel
theorem dX1_init_28 : decode cX1_init 28 = .ok (.aload_n 0, 1) := by decide +kernel
theorem dX1_init_29 : decode cX1_init 29 = .ok (.bipush 41, 2) := by decide +kernel
theorem dX1_init_31 : decode cX1_init 31 = .ok (.newarray .int, 2) := by decide +kernel
theorem dX1_init_33 : decode cX1_init 33 = .ok (.putfield 21, 3) := by decide +kernel
theorem dX1_init_36 : decode cX1_init 36 = .ok (.aload_n 0, 1) := by decide +kernel
theorem dX1_init_37 : decode cX1_init 37 = .ok (.lconst 1, 1) := by decide +kernel
theorem dX1_init_38 : decode cX1_init 38 = .ok (.putfield 24, 3) := by decide +kernel
theorem dX1_init_41 : decode cX1_init 41 = .ok (.aload_n 0, 1) := by decide +kernel
theorem dX1_init_42 : decode cX1_init 42 = .ok (.lconst 1, 1) := by decide +kernel
theorem dX1_init_43 : decode cX1_init 43 = .ok (.putfield 28, 3) := by decide +kernel
theorem dX1_init_46 : decode cX1_init 46 = .ok (.aload_n 0, 1) := by decide +kernel
theorem dX1_init_47 : decode cX1_init 47 = .ok (.lconst 1, 1) := by decide +kernel
theorem dX1_init_48 : decode cX1_init 48 = .ok (.putfield 31, 3) := by decide +kernel
theorem dX1_init_51 : decode cX1_init 51 = .ok (.aload_n 0, 1) := by decide +kernel
theorem dX1_init_52 : decode cX1_init 52 = .ok (.iconst 0, 1) := by decide +kernel
theorem dX1_init_53 : decode cX1_init 53 = .ok (.putfield 34, 3) := by decide +kernel
theorem dX1_init_56 : decode cX1_init 56 = .ok (.aload_n 0, 1) := by decide +kernel
theorem dX1_init_57 : decode cX1_init 57 = .ok (.iconst 0, 1) := by decide +kernel
theorem dX1_init_58 : decode cX1_init 58 = .ok (.putfield 38, 3) := by decide +kernel
theorem dX1_init_61 : decode cX1_init 61 = .ok (.aload_n 0, 1) := by decide +kernel
theorem dX1_init_62 : decode cX1_init 62 = .ok (.iload_n 1, 1) := by decide +kernel
theorem dX1_init_63 : decode cX1_init 63 = .ok (.putfield 41, 3) := by decide +kernel
theorem dX1_init_66 : decode cX1_init 66 = .ok (.aload_n 0, 1) := by decide +kernel
theorem dX1_init_67 : decode cX1_init 67 = .ok (.iload_n 2, 1) := by decide +kernel
theorem dX1_init_68 : decode cX1_init 68 = .ok (.putfield 44, 3) := by decide +kernel
theorem dX1_init_71 : decode cX1_init 71 = .ok (.aload_n 0, 1) := by decide +kernel
theorem dX1_init_72 : decode cX1_init 72 = .ok (.aload_n 3, 1) := by decide +kernel
theorem dX1_init_73 : decode cX1_init 73 = .ok (.putfield 47, 3) := by decide +kernel
theorem dX1_init_76 : decode cX1_init 76 = .ok (.aload_n 0, 1) := by decide +kernel
theorem dX1_init_77 : decode cX1_init 77 = .ok (.getfield 18, 3) := by decide +kernel
theorem dX1_init_80 : decode cX1_init 80 = .ok (.iconst (-1), 1) := by decide +kernel
theorem dX1_init_81 : decode cX1_init 81 = .ok (.invokestatic 51, 3) := by decide +kernel
theorem dX1_init_84 : decode cX1_init 84 = .ok (.aload_n 0, 1) := by decide +kernel
theorem dX1_init_85 : decode cX1_init 85 = .ok (.getfield 21, 3) := by decide +kernel
theorem dX1_init_88 : decode cX1_init 88 = .ok (.iconst (-1), 1) := by decide +kernel
theorem dX1_init_89 : decode cX1_init 89 = .ok (.invokestatic 51, 3) := by decide +kernel
theorem dX1_init_92 : decode cX1_init 92 = .ok (.return_, 1) := by decide +kernel
theorem dX1_expectProposal_0 : decode cX1_expectProposal 0 = .ok (.aload_n 0, 1) := by decide +kernel
theorem dX1_expectProposal_1 : decode cX1_expectProposal 1 = .ok (.getfield 57, 3) := by decide +kernel
theorem dX1_expectProposal_4 : decode cX1_expectProposal 4 = .ok (.aload_n 0, 1) := by decide +kernel
theorem dX1_expectProposal_5 : decode cX1_expectProposal 5 = .ok (.getfield 60, 3) := by decide +kernel
theorem dX1_expectProposal_8 : decode cX1_expectProposal 8 = .ok (.lor, 1) := by decide +kernel
theorem dX1_expectProposal_9 : decode cX1_expectProposal 9 = .ok (.iload_n 1, 1) := by decide +kernel
theorem dX1_expectProposal_10 : decode cX1_expectProposal 10 = .ok (.invokestatic 63, 3) := by decide +kernel
theorem dX1_expectProposal_13 : decode cX1_expectProposal 13 = .ok (.ifCond .ne 7, 3) := by decide +kernel
theorem dX1_expectProposal_16 : decode cX1_expectProposal 16 = .ok (.iconst 1, 1) := by decide +kernel
theorem dX1_expectProposal_17 : decode cX1_expectProposal 17 = .ok (.goto 4, 3) := by decide +kernel
theorem dX1_expectProposal_20 : decode cX1_expectProposal 20 = .ok (.iconst 0, 1) := by decide +kernel
theorem dX1_expectProposal_21 : decode cX1_expectProposal 21 = .ok (.istore_n 2, 1) := by decide +kernel
theorem dX1_expectProposal_22 : decode cX1_expectProposal 22 = .ok (.iload_n 2, 1) := by decide +kernel
theorem dX1_expectProposal_23 : decode cX1_expectProposal 23 = .ok (.ifCond .eq 15, 3) := by decide +kernel
theorem dX1_expectProposal_26 : decode cX1_expectProposal 26 = .ok (.aload_n 0, 1) := by decide +kernel
theorem dX1_expectProposal_27 : decode cX1_expectProposal 27 = .ok (.dup, 1) := by decide +kernel
theorem dX1_expectProposal_28 : decode cX1_expectProposal 28 = .ok (.getfield 60, 3) := by decide +kernel
theorem dX1_expectProposal_31 : decode cX1_expectProposal 31 = .ok (.lconst 1, 1) := by decide +kernel
theorem dX1_expectProposal_32 : decode cX1_expectProposal 32 = .ok (.iload_n 1, 1) := by decide +kernel
theorem dX1_expectProposal_33 : decode cX1_expectProposal 33 = .ok (.lshl, 1) := by decide +kernel
theorem dX1_expectProposal_34 : decode cX1_expectProposal 34 = .ok (.lor, 1) := by decide +kernel
theorem dX1_expectProposal_35 : decode cX1_expectProposal 35 = .ok (.putfield 60, 3) := by decide +kernel
theorem dX1_expectProposal_38 : decode cX1_expectProposal 38 = .ok (.iload_n 2, 1) := by decide +kernel
theorem dX1_expectProposal_39 : decode cX1_expectProposal 39 = .ok (.ireturn, 1) := by decide +kernel
theorem dX1_expectVote_0 : decode cX1_expectVote 0 = .ok (.aload_n 0, 1) := by decide +kernel
theorem dX1_expectVote_1 : decode cX1_expectVote 1 = .ok (.getfield 9, 3) := by decide +kernel
theorem dX1_expectVote_4 : decode cX1_expectVote 4 = .ok (.iload_n 2, 1) := by decide +kernel
theorem dX1_expectVote_5 : decode cX1_expectVote 5 = .ok (.iaload, 1) := by decide +kernel
theorem dX1_expectVote_6 : decode cX1_expectVote 6 = .ok (.aload_n 0, 1) := by decide +kernel
theorem dX1_expectVote_7 : decode cX1_expectVote 7 = .ok (.getfield 15, 3) := by decide +kernel
theorem dX1_expectVote_10 : decode cX1_expectVote 10 = .ok (.iload_n 2, 1) := by decide +kernel
theorem dX1_expectVote_11 : decode cX1_expectVote 11 = .ok (.iaload, 1) := by decide +kernel
theorem dX1_expectVote_12 : decode cX1_expectVote 12 = .ok (.ior, 1) := by decide +kernel
theorem dX1_expectVote_13 : decode cX1_expectVote 13 = .ok (.i2l, 1) := by decide +kernel
theorem dX1_expectVote_14 : decode cX1_expectVote 14 = .ok (.iload_n 1, 1) := by decide +kernel
theorem dX1_expectVote_15 : decode cX1_expectVote 15 = .ok (.invokestatic 63, 3) := by decide +kernel
theorem dX1_expectVote_18 : decode cX1_expectVote 18 = .ok (.ifCond .ne 7, 3) := by decide +kernel
theorem dX1_expectVote_21 : decode cX1_expectVote 21 = .ok (.iconst 1, 1) := by decide +kernel
theorem dX1_expectVote_22 : decode cX1_expectVote 22 = .ok (.goto 4, 3) := by decide +kernel
theorem dX1_expectVote_25 : decode cX1_expectVote 25 = .ok (.iconst 0, 1) := by decide +kernel
theorem dX1_expectVote_26 : decode cX1_expectVote 26 = .ok (.istore_n 3, 1) := by decide +kernel
theorem dX1_expectVote_27 : decode cX1_expectVote 27 = .ok (.iload_n 3, 1) := by decide +kernel
theorem dX1_expectVote_28 : decode cX1_expectVote 28 = .ok (.ifCond .eq 15, 3) := by decide +kernel
theorem dX1_expectVote_31 : decode cX1_expectVote 31 = .ok (.aload_n 0, 1) := by decide +kernel
theorem dX1_expectVote_32 : decode cX1_expectVote 32 = .ok (.getfield 15, 3) := by decide +kernel
theorem dX1_expectVote_35 : decode cX1_expectVote 35 = .ok (.iload_n 2, 1) := by decide +kernel
theorem dX1_expectVote_36 : decode cX1_expectVote 36 = .ok (.dup2, 1) := by decide +kernel
theorem dX1_expectVote_37 : decode cX1_expectVote 37 = .ok (.iaload, 1) := by decide +kernel
theorem dX1_expectVote_38 : decode cX1_expectVote 38 = .ok (.iconst 1, 1) := by decide +kernel
theorem dX1_expectVote_39 : decode cX1_expectVote 39 = .ok (.iload_n 1, 1) := by decide +kernel
theorem dX1_expectVote_40 : decode cX1_expectVote 40 = .ok (.ishl, 1) := by decide +kernel
theorem dX1_expectVote_41 : decode cX1_expectVote 41 = .ok (.ior, 1) := by decide +kernel
theorem dX1_expectVote_42 : decode cX1_expectVote 42 = .ok (.iastore, 1) := by decide +kernel
theorem dX1_expectVote_43 : decode cX1_expectVote 43 = .ok (.iload_n 3, 1) := by decide +kernel
theorem dX1_expectVote_44 : decode cX1_expectVote 44 = .ok (.ireturn, 1) := by decide +kernel
theorem dX1_haveProposal_0 : decode cX1_haveProposal 0 = .ok (.aload_n 0, 1) := by decide +kernel
theorem dX1_haveProposal_1 : decode cX1_haveProposal 1 = .ok (.dup, 1) := by decide +kernel
theorem dX1_haveProposal_2 : decode cX1_haveProposal 2 = .ok (.getfield 57, 3) := by decide +kernel
theorem dX1_haveProposal_5 : decode cX1_haveProposal 5 = .ok (.lconst 1, 1) := by decide +kernel
theorem dX1_haveProposal_6 : decode cX1_haveProposal 6 = .ok (.iload_n 1, 1) := by decide +kernel
theorem dX1_haveProposal_7 : decode cX1_haveProposal 7 = .ok (.lshl, 1) := by decide +kernel
theorem dX1_haveProposal_8 : decode cX1_haveProposal 8 = .ok (.lor, 1) := by decide +kernel
theorem dX1_haveProposal_9 : decode cX1_haveProposal 9 = .ok (.putfield 57, 3) := by decide +kernel
theorem dX1_haveProposal_12 : decode cX1_haveProposal 12 = .ok (.aload_n 0, 1) := by decide +kernel
theorem dX1_haveProposal_13 : decode cX1_haveProposal 13 = .ok (.dup, 1) := by decide +kernel
theorem dX1_haveProposal_14 : decode cX1_haveProposal 14 = .ok (.getfield 60, 3) := by decide +kernel
theorem dX1_haveProposal_17 : decode cX1_haveProposal 17 = .ok (.lconst 1, 1) := by decide +kernel
theorem dX1_haveProposal_18 : decode cX1_haveProposal 18 = .ok (.iload_n 1, 1) := by decide +kernel
theorem dX1_haveProposal_19 : decode cX1_haveProposal 19 = .ok (.lshl, 1) := by decide +kernel
theorem dX1_haveProposal_20 : decode cX1_haveProposal 20 = .ok (.ldc2_w 67, 3) := by decide +kernel
theorem dX1_haveProposal_23 : decode cX1_haveProposal 23 = .ok (.lxor, 1) := by decide +kernel
theorem dX1_haveProposal_24 : decode cX1_haveProposal 24 = .ok (.land, 1) := by decide +kernel
theorem dX1_haveProposal_25 : decode cX1_haveProposal 25 = .ok (.putfield 60, 3) := by decide +kernel
theorem dX1_haveProposal_28 : decode cX1_haveProposal 28 = .ok (.aload_n 0, 1) := by decide +kernel
theorem dX1_haveProposal_29 : decode cX1_haveProposal 29 = .ok (.getfield 47, 3) := by decide +kernel
theorem dX1_haveProposal_32 : decode cX1_haveProposal 32 = .ok (.getfield 69, 3) := by decide +kernel
theorem dX1_haveProposal_35 : decode cX1_haveProposal 35 = .ok (.iload_n 1, 1) := by decide +kernel
theorem dX1_haveProposal_36 : decode cX1_haveProposal 36 = .ok (.iaload, 1) := by decide +kernel
theorem dX1_haveProposal_37 : decode cX1_haveProposal 37 = .ok (.istore_n 2, 1) := by decide +kernel
theorem dX1_haveProposal_38 : decode cX1_haveProposal 38 = .ok (.aload_n 0, 1) := by decide +kernel
theorem dX1_haveProposal_39 : decode cX1_haveProposal 39 = .ok (.getfield 18, 3) := by decide +kernel
theorem dX1_haveProposal_42 : decode cX1_haveProposal 42 = .ok (.iload_n 2, 1) := by decide +kernel
theorem dX1_haveProposal_43 : decode cX1_haveProposal 43 = .ok (.iaload, 1) := by decide +kernel
theorem dX1_haveProposal_44 : decode cX1_haveProposal 44 = .ok (.iconst (-1), 1) := by decide +kernel
theorem dX1_haveProposal_45 : decode cX1_haveProposal 45 = .ok (.if_icmp .ne 10, 3) := by decide +kernel
theorem dX1_haveProposal_48 : decode cX1_haveProposal 48 = .ok (.aload_n 0, 1) := by decide +kernel
theorem dX1_haveProposal_49 : decode cX1_haveProposal 49 = .ok (.getfield 18, 3) := by decide +kernel
theorem dX1_haveProposal_52 : decode cX1_haveProposal 52 = .ok (.iload_n 2, 1) := by decide +kernel
theorem dX1_haveProposal_53 : decode cX1_haveProposal 53 = .ok (.iload_n 1, 1) := by decide +kernel
theorem dX1_haveProposal_54 : decode cX1_haveProposal 54 = .ok (.iastore, 1) := by decide +kernel
theorem dX1_haveProposal_55 : decode cX1_haveProposal 55 = .ok (.aload_n 0, 1) := by decide +kernel
theorem dX1_haveProposal_56 : decode cX1_haveProposal 56 = .ok (.iload_n 1, 1) := by decide +kernel
theorem dX1_haveProposal_57 : decode cX1_haveProposal 57 = .ok (.invokevirtual 74, 3) := by decide +kernel
theorem dX1_haveProposal_60 : decode cX1_haveProposal 60 = .ok (.return_, 1) := by decide +kernel
theorem dX1_haveVote_0 : decode cX1_haveVote 0 = .ok (.aload_n 0, 1) := by decide +kernel
theorem dX1_haveVote_1 : decode cX1_haveVote 1 = .ok (.getfield 9, 3) := by decide +kernel
theorem dX1_haveVote_4 : decode cX1_haveVote 4 = .ok (.iload_n 2, 1) := by decide +kernel
theorem dX1_haveVote_5 : decode cX1_haveVote 5 = .ok (.dup2, 1) := by decide +kernel
theorem dX1_haveVote_6 : decode cX1_haveVote 6 = .ok (.iaload, 1) := by decide +kernel
theorem dX1_haveVote_7 : decode cX1_haveVote 7 = .ok (.iconst 1, 1) := by decide +kernel
theorem dX1_haveVote_8 : decode cX1_haveVote 8 = .ok (.iload_n 1, 1) := by decide +kernel
theorem dX1_haveVote_9 : decode cX1_haveVote 9 = .ok (.ishl, 1) := by decide +kernel
theorem dX1_haveVote_10 : decode cX1_haveVote 10 = .ok (.ior, 1) := by decide +kernel
theorem dX1_haveVote_11 : decode cX1_haveVote 11 = .ok (.iastore, 1) := by decide +kernel
theorem dX1_haveVote_12 : decode cX1_haveVote 12 = .ok (.aload_n 0, 1) := by decide +kernel
theorem dX1_haveVote_13 : decode cX1_haveVote 13 = .ok (.getfield 15, 3) := by decide +kernel
theorem dX1_haveVote_16 : decode cX1_haveVote 16 = .ok (.iload_n 2, 1) := by decide +kernel
theorem dX1_haveVote_17 : decode cX1_haveVote 17 = .ok (.dup2, 1) := by decide +kernel
theorem dX1_haveVote_18 : decode cX1_haveVote 18 = .ok (.iaload, 1) := by decide +kernel
theorem dX1_haveVote_19 : decode cX1_haveVote 19 = .ok (.iconst 1, 1) := by decide +kernel
theorem dX1_haveVote_20 : decode cX1_haveVote 20 = .ok (.iload_n 1, 1) := by decide +kernel
theorem dX1_haveVote_21 : decode cX1_haveVote 21 = .ok (.ishl, 1) := by decide +kernel
theorem dX1_haveVote_22 : decode cX1_haveVote 22 = .ok (.iconst (-1), 1) := by decide +kernel
theorem dX1_haveVote_23 : decode cX1_haveVote 23 = .ok (.ixor, 1) := by decide +kernel
theorem dX1_haveVote_24 : decode cX1_haveVote 24 = .ok (.iand, 1) := by decide +kernel
theorem dX1_haveVote_25 : decode cX1_haveVote 25 = .ok (.iastore, 1) := by decide +kernel
theorem dX1_haveVote_26 : decode cX1_haveVote 26 = .ok (.aload_n 0, 1) := by decide +kernel
theorem dX1_haveVote_27 : decode cX1_haveVote 27 = .ok (.iload_n 2, 1) := by decide +kernel
theorem dX1_haveVote_28 : decode cX1_haveVote 28 = .ok (.invokevirtual 74, 3) := by decide +kernel
theorem dX1_haveVote_31 : decode cX1_haveVote 31 = .ok (.return_, 1) := by decide +kernel
theorem dX1_judgeFrom_0 : decode cX1_judgeFrom 0 = .ok (.iload_n 1, 1) := by decide +kernel
theorem dX1_judgeFrom_1 : decode cX1_judgeFrom 1 = .ok (.istore_n 2, 1) := by decide +kernel
theorem dX1_judgeFrom_2 : decode cX1_judgeFrom 2 = .ok (.iload_n 2, 1) := by decide +kernel
theorem dX1_judgeFrom_3 : decode cX1_judgeFrom 3 = .ok (.aload_n 0, 1) := by decide +kernel
theorem dX1_judgeFrom_4 : decode cX1_judgeFrom 4 = .ok (.getfield 47, 3) := by decide +kernel
theorem dX1_judgeFrom_7 : decode cX1_judgeFrom 7 = .ok (.getfield 78, 3) := by decide +kernel
theorem dX1_judgeFrom_10 : decode cX1_judgeFrom 10 = .ok (.if_icmp .ge 149, 3) := by decide +kernel
theorem dX1_judgeFrom_13 : decode cX1_judgeFrom 13 = .ok (.aload_n 0, 1) := by decide +kernel
theorem dX1_judgeFrom_14 : decode cX1_judgeFrom 14 = .ok (.getfield 47, 3) := by decide +kernel
theorem dX1_judgeFrom_17 : decode cX1_judgeFrom 17 = .ok (.getfield 81, 3) := by decide +kernel
theorem dX1_judgeFrom_20 : decode cX1_judgeFrom 20 = .ok (.iload_n 2, 1) := by decide +kernel
theorem dX1_judgeFrom_21 : decode cX1_judgeFrom 21 = .ok (.iaload, 1) := by decide +kernel
theorem dX1_judgeFrom_22 : decode cX1_judgeFrom 22 = .ok (.istore_n 3, 1) := by decide +kernel
theorem dX1_judgeFrom_23 : decode cX1_judgeFrom 23 = .ok (.iload_n 3, 1) := by decide +kernel
theorem dX1_judgeFrom_24 : decode cX1_judgeFrom 24 = .ok (.iconst (-1), 1) := by decide +kernel
theorem dX1_judgeFrom_25 : decode cX1_judgeFrom 25 = .ok (.if_icmp .ne 6, 3) := by decide +kernel
theorem dX1_judgeFrom_28 : decode cX1_judgeFrom 28 = .ok (.goto 125, 3) := by decide +kernel
theorem dX1_judgeFrom_31 : decode cX1_judgeFrom 31 = .ok (.aload_n 0, 1) := by decide +kernel
theorem dX1_judgeFrom_32 : decode cX1_judgeFrom 32 = .ok (.getfield 57, 3) := by decide +kernel
theorem dX1_judgeFrom_35 : decode cX1_judgeFrom 35 = .ok (.iload_n 2, 1) := by decide +kernel
theorem dX1_judgeFrom_36 : decode cX1_judgeFrom 36 = .ok (.invokestatic 63, 3) := by decide +kernel
theorem dX1_judgeFrom_39 : decode cX1_judgeFrom 39 = .ok (.ifCond .eq 26, 3) := by decide +kernel
theorem dX1_judgeFrom_42 : decode cX1_judgeFrom 42 = .ok (.aload_n 0, 1) := by decide +kernel
theorem dX1_judgeFrom_43 : decode cX1_judgeFrom 43 = .ok (.getfield 24, 3) := by decide +kernel
theorem dX1_judgeFrom_46 : decode cX1_judgeFrom 46 = .ok (.iload_n 3, 1) := by decide +kernel
theorem dX1_judgeFrom_47 : decode cX1_judgeFrom 47 = .ok (.invokestatic 63, 3) := by decide +kernel
theorem dX1_judgeFrom_50 : decode cX1_judgeFrom 50 = .ok (.ifCond .eq 15, 3) := by decide +kernel
theorem dX1_judgeFrom_53 : decode cX1_judgeFrom 53 = .ok (.aload_n 0, 1) := by decide +kernel
theorem dX1_judgeFrom_54 : decode cX1_judgeFrom 54 = .ok (.dup, 1) := by decide +kernel
theorem dX1_judgeFrom_55 : decode cX1_judgeFrom 55 = .ok (.getfield 24, 3) := by decide +kernel
theorem dX1_judgeFrom_58 : decode cX1_judgeFrom 58 = .ok (.lconst 1, 1) := by decide +kernel
theorem dX1_judgeFrom_59 : decode cX1_judgeFrom 59 = .ok (.iload_n 2, 1) := by decide +kernel
theorem dX1_judgeFrom_60 : decode cX1_judgeFrom 60 = .ok (.lshl, 1) := by decide +kernel
theorem dX1_judgeFrom_61 : decode cX1_judgeFrom 61 = .ok (.lor, 1) := by decide +kernel
theorem dX1_judgeFrom_62 : decode cX1_judgeFrom 62 = .ok (.putfield 24, 3) := by decide +kernel
theorem dX1_judgeFrom_65 : decode cX1_judgeFrom 65 = .ok (.iconst 3, 1) := by decide +kernel
theorem dX1_judgeFrom_66 : decode cX1_judgeFrom 66 = .ok (.aload_n 0, 1) := by decide +kernel
theorem dX1_judgeFrom_67 : decode cX1_judgeFrom 67 = .ok (.getfield 9, 3) := by decide +kernel
theorem dX1_judgeFrom_70 : decode cX1_judgeFrom 70 = .ok (.iload_n 2, 1) := by decide +kernel
theorem dX1_judgeFrom_71 : decode cX1_judgeFrom 71 = .ok (.iaload, 1) := by decide +kernel
theorem dX1_judgeFrom_72 : decode cX1_judgeFrom 72 = .ok (.invokestatic 84, 3) := by decide +kernel
theorem dX1_judgeFrom_75 : decode cX1_judgeFrom 75 = .ok (.imul, 1) := by decide +kernel
theorem dX1_judgeFrom_76 : decode cX1_judgeFrom 76 = .ok (.iconst 2, 1) := by decide +kernel
theorem dX1_judgeFrom_77 : decode cX1_judgeFrom 77 = .ok (.aload_n 0, 1) := by decide +kernel
theorem dX1_judgeFrom_78 : decode cX1_judgeFrom 78 = .ok (.getfield 44, 3) := by decide +kernel
theorem dX1_judgeFrom_81 : decode cX1_judgeFrom 81 = .ok (.imul, 1) := by decide +kernel
theorem dX1_judgeFrom_82 : decode cX1_judgeFrom 82 = .ok (.if_icmp .lt 7, 3) := by decide +kernel
theorem dX1_judgeFrom_85 : decode cX1_judgeFrom 85 = .ok (.iconst 1, 1) := by decide +kernel
theorem dX1_judgeFrom_86 : decode cX1_judgeFrom 86 = .ok (.goto 4, 3) := by decide +kernel
theorem dX1_judgeFrom_89 : decode cX1_judgeFrom 89 = .ok (.iconst 0, 1) := by decide +kernel
theorem dX1_judgeFrom_90 : decode cX1_judgeFrom 90 = .ok (.istore 4, 2) := by decide +kernel
theorem dX1_judgeFrom_92 : decode cX1_judgeFrom 92 = .ok (.iload 4, 2) := by decide +kernel
theorem dX1_judgeFrom_94 : decode cX1_judgeFrom 94 = .ok (.ifCond .eq 59, 3) := by decide +kernel
theorem dX1_judgeFrom_97 : decode cX1_judgeFrom 97 = .ok (.aload_n 0, 1) := by decide +kernel
theorem dX1_judgeFrom_98 : decode cX1_judgeFrom 98 = .ok (.getfield 28, 3) := by decide +kernel
theorem dX1_judgeFrom_101 : decode cX1_judgeFrom 101 = .ok (.iload_n 2, 1) := by decide +kernel
theorem dX1_judgeFrom_102 : decode cX1_judgeFrom 102 = .ok (.invokestatic 63, 3) := by decide +kernel
theorem dX1_judgeFrom_105 : decode cX1_judgeFrom 105 = .ok (.ifCond .ne 48, 3) := by decide +kernel
theorem dX1_judgeFrom_108 : decode cX1_judgeFrom 108 = .ok (.aload_n 0, 1) := by decide +kernel
theorem dX1_judgeFrom_109 : decode cX1_judgeFrom 109 = .ok (.getfield 24, 3) := by decide +kernel
theorem dX1_judgeFrom_112 : decode cX1_judgeFrom 112 = .ok (.iload_n 2, 1) := by decide +kernel
theorem dX1_judgeFrom_113 : decode cX1_judgeFrom 113 = .ok (.invokestatic 63, 3) := by decide +kernel
theorem dX1_judgeFrom_116 : decode cX1_judgeFrom 116 = .ok (.ifCond .eq 37, 3) := by decide +kernel
theorem dX1_judgeFrom_119 : decode cX1_judgeFrom 119 = .ok (.aload_n 0, 1) := by decide +kernel
theorem dX1_judgeFrom_120 : decode cX1_judgeFrom 120 = .ok (.getfield 28, 3) := by decide +kernel
theorem dX1_judgeFrom_123 : decode cX1_judgeFrom 123 = .ok (.iload_n 3, 1) := by decide +kernel
theorem dX1_judgeFrom_124 : decode cX1_judgeFrom 124 = .ok (.invokestatic 63, 3) := by decide +kernel
theorem dX1_judgeFrom_127 : decode cX1_judgeFrom 127 = .ok (.ifCond .eq 26, 3) := by decide +kernel
theorem dX1_judgeFrom_130 : decode cX1_judgeFrom 130 = .ok (.aload_n 0, 1) := by decide +kernel
theorem dX1_judgeFrom_131 : decode cX1_judgeFrom 131 = .ok (.dup, 1) := by decide +kernel
theorem dX1_judgeFrom_132 : decode cX1_judgeFrom 132 = .ok (.getfield 28, 3) := by decide +kernel
theorem dX1_judgeFrom_135 : decode cX1_judgeFrom 135 = .ok (.lconst 1, 1) := by decide +kernel
theorem dX1_judgeFrom_136 : decode cX1_judgeFrom 136 = .ok (.iload_n 2, 1) := by decide +kernel
theorem dX1_judgeFrom_137 : decode cX1_judgeFrom 137 = .ok (.lshl, 1) := by decide +kernel
theorem dX1_judgeFrom_138 : decode cX1_judgeFrom 138 = .ok (.lor, 1) := by decide +kernel
theorem dX1_judgeFrom_139 : decode cX1_judgeFrom 139 = .ok (.putfield 28, 3) := by decide +kernel
theorem dX1_judgeFrom_142 : decode cX1_judgeFrom 142 = .ok (.aload_n 0, 1) := by decide +kernel
theorem dX1_judgeFrom_143 : decode cX1_judgeFrom 143 = .ok (.iload_n 2, 1) := by decide +kernel
theorem dX1_judgeFrom_144 : decode cX1_judgeFrom 144 = .ok (.invokevirtual 90, 3) := by decide +kernel
theorem dX1_judgeFrom_147 : decode cX1_judgeFrom 147 = .ok (.aload_n 0, 1) := by decide +kernel
theorem dX1_judgeFrom_148 : decode cX1_judgeFrom 148 = .ok (.iload_n 2, 1) := by decide +kernel
theorem dX1_judgeFrom_149 : decode cX1_judgeFrom 149 = .ok (.iload_n 3, 1) := by decide +kernel
theorem dX1_judgeFrom_150 : decode cX1_judgeFrom 150 = .ok (.invokevirtual 93, 3) := by decide +kernel
theorem dX1_judgeFrom_153 : decode cX1_judgeFrom 153 = .ok (.iinc 2 1, 3) := by decide +kernel
theorem dX1_judgeFrom_156 : decode cX1_judgeFrom 156 = .ok (.goto (-154), 3) := by decide +kernel
theorem dX1_judgeFrom_159 : decode cX1_judgeFrom 159 = .ok (.return_, 1) := by decide +kernel
theorem dX1_raiseTip_0 : decode cX1_raiseTip 0 = .ok (.aload_n 0, 1) := by decide +kernel
theorem dX1_raiseTip_1 : decode cX1_raiseTip 1 = .ok (.getfield 47, 3) := by decide +kernel
theorem dX1_raiseTip_4 : decode cX1_raiseTip 4 = .ok (.getfield 97, 3) := by decide +kernel
theorem dX1_raiseTip_7 : decode cX1_raiseTip 7 = .ok (.iload_n 1, 1) := by decide +kernel
theorem dX1_raiseTip_8 : decode cX1_raiseTip 8 = .ok (.iaload, 1) := by decide +kernel
theorem dX1_raiseTip_9 : decode cX1_raiseTip 9 = .ok (.aload_n 0, 1) := by decide +kernel
theorem dX1_raiseTip_10 : decode cX1_raiseTip 10 = .ok (.getfield 47, 3) := by decide +kernel
theorem dX1_raiseTip_13 : decode cX1_raiseTip 13 = .ok (.getfield 97, 3) := by decide +kernel
theorem dX1_raiseTip_16 : decode cX1_raiseTip 16 = .ok (.aload_n 0, 1) := by decide +kernel
theorem dX1_raiseTip_17 : decode cX1_raiseTip 17 = .ok (.getfield 34, 3) := by decide +kernel
theorem dX1_raiseTip_20 : decode cX1_raiseTip 20 = .ok (.iaload, 1) := by decide +kernel
theorem dX1_raiseTip_21 : decode cX1_raiseTip 21 = .ok (.isub, 1) := by decide +kernel
theorem dX1_raiseTip_22 : decode cX1_raiseTip 22 = .ok (.istore_n 2, 1) := by decide +kernel
theorem dX1_raiseTip_23 : decode cX1_raiseTip 23 = .ok (.aload_n 0, 1) := by decide +kernel
theorem dX1_raiseTip_24 : decode cX1_raiseTip 24 = .ok (.getfield 47, 3) := by decide +kernel
theorem dX1_raiseTip_27 : decode cX1_raiseTip 27 = .ok (.getfield 69, 3) := by decide +kernel
theorem dX1_raiseTip_30 : decode cX1_raiseTip 30 = .ok (.iload_n 1, 1) := by decide +kernel
theorem dX1_raiseTip_31 : decode cX1_raiseTip 31 = .ok (.iaload, 1) := by decide +kernel
theorem dX1_raiseTip_32 : decode cX1_raiseTip 32 = .ok (.aload_n 0, 1) := by decide +kernel
theorem dX1_raiseTip_33 : decode cX1_raiseTip 33 = .ok (.getfield 47, 3) := by decide +kernel
theorem dX1_raiseTip_36 : decode cX1_raiseTip 36 = .ok (.getfield 69, 3) := by decide +kernel
theorem dX1_raiseTip_39 : decode cX1_raiseTip 39 = .ok (.aload_n 0, 1) := by decide +kernel
theorem dX1_raiseTip_40 : decode cX1_raiseTip 40 = .ok (.getfield 34, 3) := by decide +kernel
theorem dX1_raiseTip_43 : decode cX1_raiseTip 43 = .ok (.iaload, 1) := by decide +kernel
theorem dX1_raiseTip_44 : decode cX1_raiseTip 44 = .ok (.isub, 1) := by decide +kernel
theorem dX1_raiseTip_45 : decode cX1_raiseTip 45 = .ok (.istore_n 3, 1) := by decide +kernel
theorem dX1_raiseTip_46 : decode cX1_raiseTip 46 = .ok (.iload_n 2, 1) := by decide +kernel
theorem dX1_raiseTip_47 : decode cX1_raiseTip 47 = .ok (.ifCond .gt 23, 3) := by decide +kernel
theorem dX1_raiseTip_50 : decode cX1_raiseTip 50 = .ok (.iload_n 2, 1) := by decide +kernel
theorem dX1_raiseTip_51 : decode cX1_raiseTip 51 = .ok (.ifCond .ne 24, 3) := by decide +kernel
theorem dX1_raiseTip_54 : decode cX1_raiseTip 54 = .ok (.iload_n 3, 1) := by decide +kernel
theorem dX1_raiseTip_55 : decode cX1_raiseTip 55 = .ok (.ifCond .gt 15, 3) := by decide +kernel
theorem dX1_raiseTip_58 : decode cX1_raiseTip 58 = .ok (.iload_n 3, 1) := by decide +kernel
theorem dX1_raiseTip_59 : decode cX1_raiseTip 59 = .ok (.ifCond .ne 16, 3) := by decide +kernel
theorem dX1_raiseTip_62 : decode cX1_raiseTip 62 = .ok (.iload_n 1, 1) := by decide +kernel
theorem dX1_raiseTip_63 : decode cX1_raiseTip 63 = .ok (.aload_n 0, 1) := by decide +kernel
theorem dX1_raiseTip_64 : decode cX1_raiseTip 64 = .ok (.getfield 34, 3) := by decide +kernel
theorem dX1_raiseTip_67 : decode cX1_raiseTip 67 = .ok (.if_icmp .ge 8, 3) := by decide +kernel
theorem dX1_raiseTip_70 : decode cX1_raiseTip 70 = .ok (.aload_n 0, 1) := by decide +kernel
theorem dX1_raiseTip_71 : decode cX1_raiseTip 71 = .ok (.iload_n 1, 1) := by decide +kernel
theorem dX1_raiseTip_72 : decode cX1_raiseTip 72 = .ok (.putfield 34, 3) := by decide +kernel
theorem dX1_raiseTip_75 : decode cX1_raiseTip 75 = .ok (.return_, 1) := by decide +kernel
theorem dX1_makeFinalBelow_0 : decode cX1_makeFinalBelow 0 = .ok (.aload_n 0, 1) := by decide +kernel
theorem dX1_makeFinalBelow_1 : decode cX1_makeFinalBelow 1 = .ok (.getfield 47, 3) := by decide +kernel
theorem dX1_makeFinalBelow_4 : decode cX1_makeFinalBelow 4 = .ok (.getfield 81, 3) := by decide +kernel
theorem dX1_makeFinalBelow_7 : decode cX1_makeFinalBelow 7 = .ok (.iload_n 2, 1) := by decide +kernel
theorem dX1_makeFinalBelow_8 : decode cX1_makeFinalBelow 8 = .ok (.iaload, 1) := by decide +kernel
theorem dX1_makeFinalBelow_9 : decode cX1_makeFinalBelow 9 = .ok (.istore_n 3, 1) := by decide +kernel
theorem dX1_makeFinalBelow_10 : decode cX1_makeFinalBelow 10 = .ok (.iload_n 3, 1) := by decide +kernel
theorem dX1_makeFinalBelow_11 : decode cX1_makeFinalBelow 11 = .ok (.iconst (-1), 1) := by decide +kernel
theorem dX1_makeFinalBelow_12 : decode cX1_makeFinalBelow 12 = .ok (.if_icmp .eq 49, 3) := by decide +kernel
theorem dX1_makeFinalBelow_15 : decode cX1_makeFinalBelow 15 = .ok (.aload_n 0, 1) := by decide +kernel
theorem dX1_makeFinalBelow_16 : decode cX1_makeFinalBelow 16 = .ok (.getfield 47, 3) := by decide +kernel
theorem dX1_makeFinalBelow_19 : decode cX1_makeFinalBelow 19 = .ok (.getfield 69, 3) := by decide +kernel
theorem dX1_makeFinalBelow_22 : decode cX1_makeFinalBelow 22 = .ok (.iload_n 2, 1) := by decide +kernel
theorem dX1_makeFinalBelow_23 : decode cX1_makeFinalBelow 23 = .ok (.iaload, 1) := by decide +kernel
theorem dX1_makeFinalBelow_24 : decode cX1_makeFinalBelow 24 = .ok (.aload_n 0, 1) := by decide +kernel
theorem dX1_makeFinalBelow_25 : decode cX1_makeFinalBelow 25 = .ok (.getfield 47, 3) := by decide +kernel
theorem dX1_makeFinalBelow_28 : decode cX1_makeFinalBelow 28 = .ok (.getfield 69, 3) := by decide +kernel
theorem dX1_makeFinalBelow_31 : decode cX1_makeFinalBelow 31 = .ok (.iload_n 3, 1) := by decide +kernel
theorem dX1_makeFinalBelow_32 : decode cX1_makeFinalBelow 32 = .ok (.iaload, 1) := by decide +kernel
theorem dX1_makeFinalBelow_33 : decode cX1_makeFinalBelow 33 = .ok (.iconst 1, 1) := by decide +kernel
theorem dX1_makeFinalBelow_34 : decode cX1_makeFinalBelow 34 = .ok (.iadd, 1) := by decide +kernel
theorem dX1_makeFinalBelow_35 : decode cX1_makeFinalBelow 35 = .ok (.if_icmp .ne 26, 3) := by decide +kernel
theorem dX1_makeFinalBelow_38 : decode cX1_makeFinalBelow 38 = .ok (.aload_n 0, 1) := by decide +kernel
theorem dX1_makeFinalBelow_39 : decode cX1_makeFinalBelow 39 = .ok (.getfield 47, 3) := by decide +kernel
theorem dX1_makeFinalBelow_42 : decode cX1_makeFinalBelow 42 = .ok (.getfield 69, 3) := by decide +kernel
theorem dX1_makeFinalBelow_45 : decode cX1_makeFinalBelow 45 = .ok (.iload_n 1, 1) := by decide +kernel
theorem dX1_makeFinalBelow_46 : decode cX1_makeFinalBelow 46 = .ok (.iaload, 1) := by decide +kernel
theorem dX1_makeFinalBelow_47 : decode cX1_makeFinalBelow 47 = .ok (.aload_n 0, 1) := by decide +kernel
theorem dX1_makeFinalBelow_48 : decode cX1_makeFinalBelow 48 = .ok (.getfield 47, 3) := by decide +kernel
theorem dX1_makeFinalBelow_51 : decode cX1_makeFinalBelow 51 = .ok (.getfield 69, 3) := by decide +kernel
theorem dX1_makeFinalBelow_54 : decode cX1_makeFinalBelow 54 = .ok (.iload_n 2, 1) := by decide +kernel
theorem dX1_makeFinalBelow_55 : decode cX1_makeFinalBelow 55 = .ok (.iaload, 1) := by decide +kernel
theorem dX1_makeFinalBelow_56 : decode cX1_makeFinalBelow 56 = .ok (.iconst 1, 1) := by decide +kernel
theorem dX1_makeFinalBelow_57 : decode cX1_makeFinalBelow 57 = .ok (.iadd, 1) := by decide +kernel
theorem dX1_makeFinalBelow_58 : decode cX1_makeFinalBelow 58 = .ok (.if_icmp .eq 4, 3) := by decide +kernel
theorem dX1_makeFinalBelow_61 : decode cX1_makeFinalBelow 61 = .ok (.return_, 1) := by decide +kernel
theorem dX1_makeFinalBelow_62 : decode cX1_makeFinalBelow 62 = .ok (.aload_n 0, 1) := by decide +kernel
theorem dX1_makeFinalBelow_63 : decode cX1_makeFinalBelow 63 = .ok (.dup, 1) := by decide +kernel
theorem dX1_makeFinalBelow_64 : decode cX1_makeFinalBelow 64 = .ok (.getfield 31, 3) := by decide +kernel
theorem dX1_makeFinalBelow_67 : decode cX1_makeFinalBelow 67 = .ok (.aload_n 0, 1) := by decide +kernel
theorem dX1_makeFinalBelow_68 : decode cX1_makeFinalBelow 68 = .ok (.getfield 47, 3) := by decide +kernel
theorem dX1_makeFinalBelow_71 : decode cX1_makeFinalBelow 71 = .ok (.getfield 100, 3) := by decide +kernel
theorem dX1_makeFinalBelow_74 : decode cX1_makeFinalBelow 74 = .ok (.iload_n 2, 1) := by decide +kernel
theorem dX1_makeFinalBelow_75 : decode cX1_makeFinalBelow 75 = .ok (.laload, 1) := by decide +kernel
theorem dX1_makeFinalBelow_76 : decode cX1_makeFinalBelow 76 = .ok (.lor, 1) := by decide +kernel
theorem dX1_makeFinalBelow_77 : decode cX1_makeFinalBelow 77 = .ok (.putfield 31, 3) := by decide +kernel
theorem dX1_makeFinalBelow_80 : decode cX1_makeFinalBelow 80 = .ok (.aload_n 0, 1) := by decide +kernel
theorem dX1_makeFinalBelow_81 : decode cX1_makeFinalBelow 81 = .ok (.getfield 47, 3) := by decide +kernel
theorem dX1_makeFinalBelow_84 : decode cX1_makeFinalBelow 84 = .ok (.getfield 97, 3) := by decide +kernel
theorem dX1_makeFinalBelow_87 : decode cX1_makeFinalBelow 87 = .ok (.iload_n 2, 1) := by decide +kernel
theorem dX1_makeFinalBelow_88 : decode cX1_makeFinalBelow 88 = .ok (.iaload, 1) := by decide +kernel
theorem dX1_makeFinalBelow_89 : decode cX1_makeFinalBelow 89 = .ok (.aload_n 0, 1) := by decide +kernel
theorem dX1_makeFinalBelow_90 : decode cX1_makeFinalBelow 90 = .ok (.getfield 47, 3) := by decide +kernel
theorem dX1_makeFinalBelow_93 : decode cX1_makeFinalBelow 93 = .ok (.getfield 97, 3) := by decide +kernel
theorem dX1_makeFinalBelow_96 : decode cX1_makeFinalBelow 96 = .ok (.aload_n 0, 1) := by decide +kernel
theorem dX1_makeFinalBelow_97 : decode cX1_makeFinalBelow 97 = .ok (.getfield 38, 3) := by decide +kernel
theorem dX1_makeFinalBelow_100 : decode cX1_makeFinalBelow 100 = .ok (.iaload, 1) := by decide +kernel
theorem dX1_makeFinalBelow_101 : decode cX1_makeFinalBelow 101 = .ok (.isub, 1) := by decide +kernel
theorem dX1_makeFinalBelow_102 : decode cX1_makeFinalBelow 102 = .ok (.istore 4, 2) := by decide +kernel
theorem dX1_makeFinalBelow_104 : decode cX1_makeFinalBelow 104 = .ok (.iload 4, 2) := by decide +kernel
theorem dX1_makeFinalBelow_106 : decode cX1_makeFinalBelow 106 = .ok (.ifCond .gt 16, 3) := by decide +kernel
theorem dX1_makeFinalBelow_109 : decode cX1_makeFinalBelow 109 = .ok (.iload 4, 2) := by decide +kernel
theorem dX1_makeFinalBelow_111 : decode cX1_makeFinalBelow 111 = .ok (.ifCond .ne 16, 3) := by decide +kernel
theorem dX1_makeFinalBelow_114 : decode cX1_makeFinalBelow 114 = .ok (.iload_n 2, 1) := by decide +kernel
theorem dX1_makeFinalBelow_115 : decode cX1_makeFinalBelow 115 = .ok (.aload_n 0, 1) := by decide +kernel
theorem dX1_makeFinalBelow_116 : decode cX1_makeFinalBelow 116 = .ok (.getfield 38, 3) := by decide +kernel
theorem dX1_makeFinalBelow_119 : decode cX1_makeFinalBelow 119 = .ok (.if_icmp .ge 8, 3) := by decide +kernel
theorem dX1_makeFinalBelow_122 : decode cX1_makeFinalBelow 122 = .ok (.aload_n 0, 1) := by decide +kernel
theorem dX1_makeFinalBelow_123 : decode cX1_makeFinalBelow 123 = .ok (.iload_n 2, 1) := by decide +kernel
theorem dX1_makeFinalBelow_124 : decode cX1_makeFinalBelow 124 = .ok (.putfield 38, 3) := by decide +kernel
theorem dX1_makeFinalBelow_127 : decode cX1_makeFinalBelow 127 = .ok (.return_, 1) := by decide +kernel
theorem dX1_choice_0 : decode cX1_choice 0 = .ok (.aload_n 0, 1) := by decide +kernel
theorem dX1_choice_1 : decode cX1_choice 1 = .ok (.getfield 18, 3) := by decide +kernel
theorem dX1_choice_4 : decode cX1_choice 4 = .ok (.iload_n 1, 1) := by decide +kernel
theorem dX1_choice_5 : decode cX1_choice 5 = .ok (.iaload, 1) := by decide +kernel
theorem dX1_choice_6 : decode cX1_choice 6 = .ok (.istore_n 2, 1) := by decide +kernel
theorem dX1_choice_7 : decode cX1_choice 7 = .ok (.iload_n 2, 1) := by decide +kernel
theorem dX1_choice_8 : decode cX1_choice 8 = .ok (.iconst (-1), 1) := by decide +kernel
theorem dX1_choice_9 : decode cX1_choice 9 = .ok (.if_icmp .eq 24, 3) := by decide +kernel
theorem dX1_choice_12 : decode cX1_choice 12 = .ok (.aload_n 0, 1) := by decide +kernel
theorem dX1_choice_13 : decode cX1_choice 13 = .ok (.getfield 21, 3) := by decide +kernel
theorem dX1_choice_16 : decode cX1_choice 16 = .ok (.iload_n 1, 1) := by decide +kernel
theorem dX1_choice_17 : decode cX1_choice 17 = .ok (.iaload, 1) := by decide +kernel
theorem dX1_choice_18 : decode cX1_choice 18 = .ok (.iconst (-1), 1) := by decide +kernel
theorem dX1_choice_19 : decode cX1_choice 19 = .ok (.if_icmp .ne 14, 3) := by decide +kernel
theorem dX1_choice_22 : decode cX1_choice 22 = .ok (.aload_n 0, 1) := by decide +kernel
theorem dX1_choice_23 : decode cX1_choice 23 = .ok (.getfield 24, 3) := by decide +kernel
theorem dX1_choice_26 : decode cX1_choice 26 = .ok (.iload_n 2, 1) := by decide +kernel
theorem dX1_choice_27 : decode cX1_choice 27 = .ok (.invokestatic 63, 3) := by decide +kernel
theorem dX1_choice_30 : decode cX1_choice 30 = .ok (.ifCond .ne 5, 3) := by decide +kernel
theorem dX1_choice_33 : decode cX1_choice 33 = .ok (.iconst (-1), 1) := by decide +kernel
theorem dX1_choice_34 : decode cX1_choice 34 = .ok (.ireturn, 1) := by decide +kernel
theorem dX1_choice_35 : decode cX1_choice 35 = .ok (.aload_n 0, 1) := by decide +kernel
theorem dX1_choice_36 : decode cX1_choice 36 = .ok (.getfield 47, 3) := by decide +kernel
theorem dX1_choice_39 : decode cX1_choice 39 = .ok (.getfield 81, 3) := by decide +kernel
theorem dX1_choice_42 : decode cX1_choice 42 = .ok (.iload_n 2, 1) := by decide +kernel
theorem dX1_choice_43 : decode cX1_choice 43 = .ok (.iaload, 1) := by decide +kernel
theorem dX1_choice_44 : decode cX1_choice 44 = .ok (.istore_n 3, 1) := by decide +kernel
theorem dX1_choice_45 : decode cX1_choice 45 = .ok (.iload_n 3, 1) := by decide +kernel
theorem dX1_choice_46 : decode cX1_choice 46 = .ok (.iconst (-1), 1) := by decide +kernel
theorem dX1_choice_47 : decode cX1_choice 47 = .ok (.if_icmp .eq 14, 3) := by decide +kernel
theorem dX1_choice_50 : decode cX1_choice 50 = .ok (.aload_n 0, 1) := by decide +kernel
theorem dX1_choice_51 : decode cX1_choice 51 = .ok (.getfield 28, 3) := by decide +kernel
theorem dX1_choice_54 : decode cX1_choice 54 = .ok (.iload_n 3, 1) := by decide +kernel
theorem dX1_choice_55 : decode cX1_choice 55 = .ok (.invokestatic 63, 3) := by decide +kernel
theorem dX1_choice_58 : decode cX1_choice 58 = .ok (.ifCond .ne 5, 3) := by decide +kernel
theorem dX1_choice_61 : decode cX1_choice 61 = .ok (.iconst (-1), 1) := by decide +kernel
theorem dX1_choice_62 : decode cX1_choice 62 = .ok (.ireturn, 1) := by decide +kernel
theorem dX1_choice_63 : decode cX1_choice 63 = .ok (.aload_n 0, 1) := by decide +kernel
theorem dX1_choice_64 : decode cX1_choice 64 = .ok (.getfield 47, 3) := by decide +kernel
theorem dX1_choice_67 : decode cX1_choice 67 = .ok (.getfield 97, 3) := by decide +kernel
theorem dX1_choice_70 : decode cX1_choice 70 = .ok (.iload_n 3, 1) := by decide +kernel
theorem dX1_choice_71 : decode cX1_choice 71 = .ok (.iaload, 1) := by decide +kernel
theorem dX1_choice_72 : decode cX1_choice 72 = .ok (.aload_n 0, 1) := by decide +kernel
theorem dX1_choice_73 : decode cX1_choice 73 = .ok (.getfield 47, 3) := by decide +kernel
theorem dX1_choice_76 : decode cX1_choice 76 = .ok (.getfield 97, 3) := by decide +kernel
theorem dX1_choice_79 : decode cX1_choice 79 = .ok (.aload_n 0, 1) := by decide +kernel
theorem dX1_choice_80 : decode cX1_choice 80 = .ok (.getfield 34, 3) := by decide +kernel
theorem dX1_choice_83 : decode cX1_choice 83 = .ok (.iaload, 1) := by decide +kernel
theorem dX1_choice_84 : decode cX1_choice 84 = .ok (.if_icmp .ne 7, 3) := by decide +kernel
theorem dX1_choice_87 : decode cX1_choice 87 = .ok (.iload_n 2, 1) := by decide +kernel
theorem dX1_choice_88 : decode cX1_choice 88 = .ok (.goto 4, 3) := by decide +kernel
theorem dX1_choice_91 : decode cX1_choice 91 = .ok (.iconst (-1), 1) := by decide +kernel
theorem dX1_choice_92 : decode cX1_choice 92 = .ok (.ireturn, 1) := by decide +kernel
end
section
theorem dX2_init_0 : decode cX2_init 0 = .ok (.aload_n 0, 1) := by decide +kernel
theorem dX2_init_1 : decode cX2_init 1 = .ok (.invokespecial 3, 3) := by decide +kernel
theorem dX2_init_4 : decode cX2_init 4 = .ok (.iconst 4, 1) := by decide +kernel
theorem dX2_init_5 : decode cX2_init 5 = .ok (.bipush 10, 2) := by decide +kernel
theorem dX2_init_7 : decode cX2_init 7 = .ok (.iload_n 1, 1) := by decide +kernel
theorem dX2_init_8 : decode cX2_init 8 = .ok (.invokestatic 9, 3) := by decide +kernel
theorem dX2_init_11 : decode cX2_init 11 = .ok (.invokestatic 15, 3) := by decide +kernel
theorem dX2_init_14 : decode cX2_init 14 = .ok (.istore_n 2, 1) := by decide +kernel
theorem dX2_init_15 : decode cX2_init 15 = .ok (.aload_n 0, 1) := by decide +kernel
theorem dX2_init_16 : decode cX2_init 16 = .ok (.new 18, 3) := by decide +kernel
theorem dX2_init_19 : decode cX2_init 19 = .ok (.dup, 1) := by decide +kernel
theorem dX2_init_20 : decode cX2_init 20 = .ok (.invokespecial 20, 3) := by decide +kernel
theorem dX2_init_23 : decode cX2_init 23 = .ok (.putfield 21, 3) := by decide +kernel
theorem dX2_init_26 : decode cX2_init 26 = .ok (.aload_n 0, 1) := by decide +kernel
theorem dX2_init_27 : decode cX2_init 27 = .ok (.iload_n 2, 1) := by decide +kernel
theorem dX2_init_28 : decode cX2_init 28 = .ok (.anewarray 25, 3) := by decide +kernel
theorem dX2_init_31 : decode cX2_init 31 = .ok (.putfield 27, 3) := by decide +kernel
theorem dX2_init_34 : decode cX2_init 34 = .ok (.iconst 0, 1) := by decide +kernel
theorem dX2_init_35 : decode cX2_init 35 = .ok (.istore_n 3, 1) := by decide +kernel
theorem dX2_init_36 : decode cX2_init 36 = .ok (.iload_n 3, 1) := by decide +kernel
theorem dX2_init_37 : decode cX2_init 37 = .ok (.iload_n 2, 1) := by decide +kernel
theorem dX2_init_38 : decode cX2_init 38 = .ok (.if_icmp .ge 28, 3) := by decide +kernel
theorem dX2_init_41 : decode cX2_init 41 = .ok (.aload_n 0, 1) := by decide +kernel
theorem dX2_init_42 : decode cX2_init 42 = .ok (.getfield 27, 3) := by decide +kernel
theorem dX2_init_45 : decode cX2_init 45 = .ok (.iload_n 3, 1) := by decide +kernel
theorem dX2_init_46 : decode cX2_init 46 = .ok (.new 25, 3) := by decide +kernel
theorem dX2_init_49 : decode cX2_init 49 = .ok (.dup, 1) := by decide +kernel
theorem dX2_init_50 : decode cX2_init 50 = .ok (.iload_n 3, 1) := by decide +kernel
theorem dX2_init_51 : decode cX2_init 51 = .ok (.iload_n 2, 1) := by decide +kernel
theorem dX2_init_52 : decode cX2_init 52 = .ok (.aload_n 0, 1) := by decide +kernel
theorem dX2_init_53 : decode cX2_init 53 = .ok (.getfield 21, 3) := by decide +kernel
theorem dX2_init_56 : decode cX2_init 56 = .ok (.invokespecial 31, 3) := by decide +kernel
theorem dX2_init_59 : decode cX2_init 59 = .ok (.aastore, 1) := by decide +kernel
theorem dX2_init_60 : decode cX2_init 60 = .ok (.iinc 3 1, 3) := by decide +kernel
theorem dX2_init_63 : decode cX2_init 63 = .ok (.goto (-27), 3) := by decide +kernel
theorem dX2_init_66 : decode cX2_init 66 = .ok (.aload_n 0, 1) := by decide +kernel
theorem dX2_init_67 : decode cX2_init 67 = .ok (.bipush 41, 2) := by decide +kernel
theorem dX2_init_69 : decode cX2_init 69 = .ok (.newarray .int, 2) := by decide +kernel
theorem dX2_init_71 : decode cX2_init 71 = .ok (.putfield 34, 3) := by decide +kernel
theorem dX2_init_74 : decode cX2_init 74 = .ok (.iconst 1, 1) := by decide +kernel
theorem dX2_init_75 : decode cX2_init 75 = .ok (.istore_n 3, 1) := by decide +kernel
theorem dX2_init_76 : decode cX2_init 76 = .ok (.iload_n 3, 1) := by decide +kernel
theorem dX2_init_77 : decode cX2_init 77 = .ok (.bipush 40, 2) := by decide +kernel
theorem dX2_init_79 : decode cX2_init 79 = .ok (.if_icmp .gt 18, 3) := by decide +kernel
theorem dX2_init_82 : decode cX2_init 82 = .ok (.aload_n 0, 1) := by decide +kernel
theorem dX2_init_83 : decode cX2_init 83 = .ok (.getfield 34, 3) := by decide +kernel
theorem dX2_init_86 : decode cX2_init 86 = .ok (.iload_n 3, 1) := by decide +kernel
theorem dX2_init_87 : decode cX2_init 87 = .ok (.iload_n 3, 1) := by decide +kernel
theorem dX2_init_88 : decode cX2_init 88 = .ok (.iload_n 2, 1) := by decide +kernel
theorem dX2_init_89 : decode cX2_init 89 = .ok (.irem, 1) := by decide +kernel
theorem dX2_init_90 : decode cX2_init 90 = .ok (.iastore, 1) := by decide +kernel
theorem dX2_init_91 : decode cX2_init 91 = .ok (.iinc 3 1, 3) := by decide +kernel
theorem dX2_init_94 : decode cX2_init 94 = .ok (.goto (-18), 3) := by decide +kernel
theorem dX2_init_97 : decode cX2_init 97 = .ok (.return_, 1) := by decide +kernel
theorem dX2_lead_0 : decode cX2_lead 0 = .ok (.iload_n 1, 1) := by decide +kernel
theorem dX2_lead_1 : decode cX2_lead 1 = .ok (.invokestatic 38, 3) := by decide +kernel
theorem dX2_lead_4 : decode cX2_lead 4 = .ok (.ifCond .eq 11, 3) := by decide +kernel
theorem dX2_lead_7 : decode cX2_lead 7 = .ok (.aload_n 0, 1) := by decide +kernel
theorem dX2_lead_8 : decode cX2_lead 8 = .ok (.iload_n 2, 1) := by decide +kernel
theorem dX2_lead_9 : decode cX2_lead 9 = .ok (.invokevirtual 42, 3) := by decide +kernel
theorem dX2_lead_12 : decode cX2_lead 12 = .ok (.ifnonnull 6, 3) := by decide +kernel
theorem dX2_lead_15 : decode cX2_lead 15 = .ok (.bipush (-2), 2) := by decide +kernel
theorem dX2_lead_17 : decode cX2_lead 17 = .ok (.ireturn, 1) := by decide +kernel
theorem dX2_lead_18 : decode cX2_lead 18 = .ok (.iload_n 1, 1) := by decide +kernel
theorem dX2_lead_19 : decode cX2_lead 19 = .ok (.aload_n 0, 1) := by decide +kernel
theorem dX2_lead_20 : decode cX2_lead 20 = .ok (.getfield 46, 3) := by decide +kernel
theorem dX2_lead_23 : decode cX2_lead 23 = .ok (.if_icmp .le 14, 3) := by decide +kernel
theorem dX2_lead_26 : decode cX2_lead 26 = .ok (.aload_n 0, 1) := by decide +kernel
theorem dX2_lead_27 : decode cX2_lead 27 = .ok (.getfield 21, 3) := by decide +kernel
theorem dX2_lead_30 : decode cX2_lead 30 = .ok (.iload_n 1, 1) := by decide +kernel
theorem dX2_lead_31 : decode cX2_lead 31 = .ok (.invokevirtual 50, 3) := by decide +kernel
theorem dX2_lead_34 : decode cX2_lead 34 = .ok (.ifCond .eq 6, 3) := by decide +kernel
theorem dX2_lead_37 : decode cX2_lead 37 = .ok (.bipush (-3), 2) := by decide +kernel
theorem dX2_lead_39 : decode cX2_lead 39 = .ok (.ireturn, 1) := by decide +kernel
theorem dX2_lead_40 : decode cX2_lead 40 = .ok (.aload_n 0, 1) := by decide +kernel
theorem dX2_lead_41 : decode cX2_lead 41 = .ok (.getfield 34, 3) := by decide +kernel
theorem dX2_lead_44 : decode cX2_lead 44 = .ok (.iload_n 1, 1) := by decide +kernel
theorem dX2_lead_45 : decode cX2_lead 45 = .ok (.iaload, 1) := by decide +kernel
theorem dX2_lead_46 : decode cX2_lead 46 = .ok (.istore_n 3, 1) := by decide +kernel
theorem dX2_lead_47 : decode cX2_lead 47 = .ok (.aload_n 0, 1) := by decide +kernel
theorem dX2_lead_48 : decode cX2_lead 48 = .ok (.getfield 34, 3) := by decide +kernel
theorem dX2_lead_51 : decode cX2_lead 51 = .ok (.iload_n 1, 1) := by decide +kernel
theorem dX2_lead_52 : decode cX2_lead 52 = .ok (.iload_n 2, 1) := by decide +kernel
theorem dX2_lead_53 : decode cX2_lead 53 = .ok (.iastore, 1) := by decide +kernel
theorem dX2_lead_54 : decode cX2_lead 54 = .ok (.iload_n 3, 1) := by decide +kernel
theorem dX2_lead_55 : decode cX2_lead 55 = .ok (.ireturn, 1) := by decide +kernel
theorem dX2_fall_0 : decode cX2_fall 0 = .ok (.aload_n 0, 1) := by decide +kernel
theorem dX2_fall_1 : decode cX2_fall 1 = .ok (.iload_n 1, 1) := by decide +kernel
theorem dX2_fall_2 : decode cX2_fall 2 = .ok (.invokevirtual 42, 3) := by decide +kernel
theorem dX2_fall_5 : decode cX2_fall 5 = .ok (.astore_n 2, 1) := by decide +kernel
theorem dX2_fall_6 : decode cX2_fall 6 = .ok (.aload_n 2, 1) := by decide +kernel
theorem dX2_fall_7 : decode cX2_fall 7 = .ok (.ifnonnull 6, 3) := by decide +kernel
theorem dX2_fall_10 : decode cX2_fall 10 = .ok (.bipush (-2), 2) := by decide +kernel
theorem dX2_fall_12 : decode cX2_fall 12 = .ok (.ireturn, 1) := by decide +kernel
theorem dX2_fall_13 : decode cX2_fall 13 = .ok (.aload_n 2, 1) := by decide +kernel
theorem dX2_fall_14 : decode cX2_fall 14 = .ok (.getfield 53, 3) := by decide +kernel
theorem dX2_fall_17 : decode cX2_fall 17 = .ok (.ifCond .eq 5, 3) := by decide +kernel
theorem dX2_fall_20 : decode cX2_fall 20 = .ok (.iconst 0, 1) := by decide +kernel
theorem dX2_fall_21 : decode cX2_fall 21 = .ok (.ireturn, 1) := by decide +kernel
theorem dX2_fall_22 : decode cX2_fall 22 = .ok (.aload_n 2, 1) := by decide +kernel
theorem dX2_fall_23 : decode cX2_fall 23 = .ok (.iconst 1, 1) := by decide +kernel
theorem dX2_fall_24 : decode cX2_fall 24 = .ok (.putfield 53, 3) := by decide +kernel
theorem dX2_fall_27 : decode cX2_fall 27 = .ok (.iconst 1, 1) := by decide +kernel
theorem dX2_fall_28 : decode cX2_fall 28 = .ok (.ireturn, 1) := by decide +kernel
theorem dX2_wish_0 : decode cX2_wish 0 = .ok (.aload_n 0, 1) := by decide +kernel
theorem dX2_wish_1 : decode cX2_wish 1 = .ok (.iload_n 1, 1) := by decide +kernel
theorem dX2_wish_2 : decode cX2_wish 2 = .ok (.invokevirtual 42, 3) := by decide +kernel
theorem dX2_wish_5 : decode cX2_wish 5 = .ok (.astore_n 3, 1) := by decide +kernel
theorem dX2_wish_6 : decode cX2_wish 6 = .ok (.aload_n 3, 1) := by decide +kernel
theorem dX2_wish_7 : decode cX2_wish 7 = .ok (.ifnull 13, 3) := by decide +kernel
theorem dX2_wish_10 : decode cX2_wish 10 = .ok (.iload_n 2, 1) := by decide +kernel
theorem dX2_wish_11 : decode cX2_wish 11 = .ok (.ifCond .lt 9, 3) := by decide +kernel
theorem dX2_wish_14 : decode cX2_wish 14 = .ok (.iload_n 2, 1) := by decide +kernel
theorem dX2_wish_15 : decode cX2_wish 15 = .ok (.bipush 32, 2) := by decide +kernel
theorem dX2_wish_17 : decode cX2_wish 17 = .ok (.if_icmp .lt 6, 3) := by decide +kernel
theorem dX2_wish_20 : decode cX2_wish 20 = .ok (.bipush (-2), 2) := by decide +kernel
theorem dX2_wish_22 : decode cX2_wish 22 = .ok (.ireturn, 1) := by decide +kernel
theorem dX2_wish_23 : decode cX2_wish 23 = .ok (.aload_n 3, 1) := by decide +kernel
theorem dX2_wish_24 : decode cX2_wish 24 = .ok (.getfield 57, 3) := by decide +kernel
theorem dX2_wish_27 : decode cX2_wish 27 = .ok (.istore 4, 2) := by decide +kernel
theorem dX2_wish_29 : decode cX2_wish 29 = .ok (.aload_n 3, 1) := by decide +kernel
theorem dX2_wish_30 : decode cX2_wish 30 = .ok (.iload 4, 2) := by decide +kernel
theorem dX2_wish_32 : decode cX2_wish 32 = .ok (.iconst 1, 1) := by decide +kernel
theorem dX2_wish_33 : decode cX2_wish 33 = .ok (.iload_n 2, 1) := by decide +kernel
theorem dX2_wish_34 : decode cX2_wish 34 = .ok (.ishl, 1) := by decide +kernel
theorem dX2_wish_35 : decode cX2_wish 35 = .ok (.ior, 1) := by decide +kernel
theorem dX2_wish_36 : decode cX2_wish 36 = .ok (.putfield 57, 3) := by decide +kernel
theorem dX2_wish_39 : decode cX2_wish 39 = .ok (.aload_n 3, 1) := by decide +kernel
theorem dX2_wish_40 : decode cX2_wish 40 = .ok (.getfield 57, 3) := by decide +kernel
theorem dX2_wish_43 : decode cX2_wish 43 = .ok (.iload 4, 2) := by decide +kernel
theorem dX2_wish_45 : decode cX2_wish 45 = .ok (.if_icmp .ne 7, 3) := by decide +kernel
theorem dX2_wish_48 : decode cX2_wish 48 = .ok (.iconst 0, 1) := by decide +kernel
theorem dX2_wish_49 : decode cX2_wish 49 = .ok (.goto 4, 3) := by decide +kernel
theorem dX2_wish_52 : decode cX2_wish 52 = .ok (.iconst 1, 1) := by decide +kernel
theorem dX2_wish_53 : decode cX2_wish 53 = .ok (.ireturn, 1) := by decide +kernel
theorem dX2_epoch_0 : decode cX2_epoch 0 = .ok (.aload_n 0, 1) := by decide +kernel
theorem dX2_epoch_1 : decode cX2_epoch 1 = .ok (.getfield 46, 3) := by decide +kernel
theorem dX2_epoch_4 : decode cX2_epoch 4 = .ok (.bipush 40, 2) := by decide +kernel
theorem dX2_epoch_6 : decode cX2_epoch 6 = .ok (.if_icmp .lt 6, 3) := by decide +kernel
theorem dX2_epoch_9 : decode cX2_epoch 9 = .ok (.bipush (-3), 2) := by decide +kernel
theorem dX2_epoch_11 : decode cX2_epoch 11 = .ok (.ireturn, 1) := by decide +kernel
theorem dX2_epoch_12 : decode cX2_epoch 12 = .ok (.aload_n 0, 1) := by decide +kernel
theorem dX2_epoch_13 : decode cX2_epoch 13 = .ok (.getfield 27, 3) := by decide +kernel
theorem dX2_epoch_16 : decode cX2_epoch 16 = .ok (.aload_n 0, 1) := by decide +kernel
theorem dX2_epoch_17 : decode cX2_epoch 17 = .ok (.getfield 34, 3) := by decide +kernel
theorem dX2_epoch_20 : decode cX2_epoch 20 = .ok (.aload_n 0, 1) := by decide +kernel
theorem dX2_epoch_21 : decode cX2_epoch 21 = .ok (.getfield 46, 3) := by decide +kernel
theorem dX2_epoch_24 : decode cX2_epoch 24 = .ok (.iconst 1, 1) := by decide +kernel
theorem dX2_epoch_25 : decode cX2_epoch 25 = .ok (.iadd, 1) := by decide +kernel
theorem dX2_epoch_26 : decode cX2_epoch 26 = .ok (.iaload, 1) := by decide +kernel
theorem dX2_epoch_27 : decode cX2_epoch 27 = .ok (.aaload, 1) := by decide +kernel
theorem dX2_epoch_28 : decode cX2_epoch 28 = .ok (.astore_n 1, 1) := by decide +kernel
theorem dX2_epoch_29 : decode cX2_epoch 29 = .ok (.aload_n 1, 1) := by decide +kernel
theorem dX2_epoch_30 : decode cX2_epoch 30 = .ok (.getfield 53, 3) := by decide +kernel
theorem dX2_epoch_33 : decode cX2_epoch 33 = .ok (.ifCond .ne 16, 3) := by decide +kernel
theorem dX2_epoch_36 : decode cX2_epoch 36 = .ok (.aload_n 0, 1) := by decide +kernel
theorem dX2_epoch_37 : decode cX2_epoch 37 = .ok (.getfield 21, 3) := by decide +kernel
theorem dX2_epoch_40 : decode cX2_epoch 40 = .ok (.invokevirtual 60, 3) := by decide +kernel
theorem dX2_epoch_43 : decode cX2_epoch 43 = .ok (.ifCond .ne 6, 3) := by decide +kernel
theorem dX2_epoch_46 : decode cX2_epoch 46 = .ok (.bipush (-4), 2) := by decide +kernel
theorem dX2_epoch_48 : decode cX2_epoch 48 = .ok (.ireturn, 1) := by decide +kernel
theorem dX2_epoch_49 : decode cX2_epoch 49 = .ok (.aload_n 0, 1) := by decide +kernel
theorem dX2_epoch_50 : decode cX2_epoch 50 = .ok (.dup, 1) := by decide +kernel
theorem dX2_epoch_51 : decode cX2_epoch 51 = .ok (.getfield 46, 3) := by decide +kernel
theorem dX2_epoch_54 : decode cX2_epoch 54 = .ok (.iconst 1, 1) := by decide +kernel
theorem dX2_epoch_55 : decode cX2_epoch 55 = .ok (.iadd, 1) := by decide +kernel
theorem dX2_epoch_56 : decode cX2_epoch 56 = .ok (.putfield 46, 3) := by decide +kernel
theorem dX2_epoch_59 : decode cX2_epoch 59 = .ok (.aload_n 1, 1) := by decide +kernel
theorem dX2_epoch_60 : decode cX2_epoch 60 = .ok (.getfield 53, 3) := by decide +kernel
theorem dX2_epoch_63 : decode cX2_epoch 63 = .ok (.ifCond .ne 8, 3) := by decide +kernel
theorem dX2_epoch_66 : decode cX2_epoch 66 = .ok (.aload_n 0, 1) := by decide +kernel
theorem dX2_epoch_67 : decode cX2_epoch 67 = .ok (.aload_n 1, 1) := by decide +kernel
theorem dX2_epoch_68 : decode cX2_epoch 68 = .ok (.invokevirtual 64, 3) := by decide +kernel
theorem dX2_epoch_71 : decode cX2_epoch 71 = .ok (.aload_n 0, 1) := by decide +kernel
theorem dX2_epoch_72 : decode cX2_epoch 72 = .ok (.getfield 27, 3) := by decide +kernel
theorem dX2_epoch_75 : decode cX2_epoch 75 = .ok (.astore_n 2, 1) := by decide +kernel
theorem dX2_epoch_76 : decode cX2_epoch 76 = .ok (.aload_n 2, 1) := by decide +kernel
theorem dX2_epoch_77 : decode cX2_epoch 77 = .ok (.arraylength, 1) := by decide +kernel
theorem dX2_epoch_78 : decode cX2_epoch 78 = .ok (.istore_n 3, 1) := by decide +kernel
theorem dX2_epoch_79 : decode cX2_epoch 79 = .ok (.iconst 0, 1) := by decide +kernel
theorem dX2_epoch_80 : decode cX2_epoch 80 = .ok (.istore 4, 2) := by decide +kernel
theorem dX2_epoch_82 : decode cX2_epoch 82 = .ok (.iload 4, 2) := by decide +kernel
theorem dX2_epoch_84 : decode cX2_epoch 84 = .ok (.iload_n 3, 1) := by decide +kernel
theorem dX2_epoch_85 : decode cX2_epoch 85 = .ok (.if_icmp .ge 21, 3) := by decide +kernel
theorem dX2_epoch_88 : decode cX2_epoch 88 = .ok (.aload_n 2, 1) := by decide +kernel
theorem dX2_epoch_89 : decode cX2_epoch 89 = .ok (.iload 4, 2) := by decide +kernel
theorem dX2_epoch_91 : decode cX2_epoch 91 = .ok (.aaload, 1) := by decide +kernel
theorem dX2_epoch_92 : decode cX2_epoch 92 = .ok (.astore 5, 2) := by decide +kernel
theorem dX2_epoch_94 : decode cX2_epoch 94 = .ok (.aload_n 0, 1) := by decide +kernel
theorem dX2_epoch_95 : decode cX2_epoch 95 = .ok (.aload 5, 2) := by decide +kernel
theorem dX2_epoch_97 : decode cX2_epoch 97 = .ok (.invokevirtual 68, 3) := by decide +kernel
theorem dX2_epoch_100 : decode cX2_epoch 100 = .ok (.iinc 4 1, 3) := by decide +kernel
theorem dX2_epoch_103 : decode cX2_epoch 103 = .ok (.goto (-21), 3) := by decide +kernel
theorem dX2_epoch_106 : decode cX2_epoch 106 = .ok (.aload_n 0, 1) := by decide +kernel
theorem dX2_epoch_107 : decode cX2_epoch 107 = .ok (.getfield 46, 3) := by decide +kernel
theorem dX2_epoch_110 : decode cX2_epoch 110 = .ok (.ireturn, 1) := by decide +kernel
theorem dX2_bring_0 : decode cX2_bring 0 = .ok (.aload_n 0, 1) := by decide +kernel
theorem dX2_bring_1 : decode cX2_bring 1 = .ok (.iload_n 2, 1) := by decide +kernel
theorem dX2_bring_2 : decode cX2_bring 2 = .ok (.invokevirtual 42, 3) := by decide +kernel
theorem dX2_bring_5 : decode cX2_bring 5 = .ok (.astore_n 3, 1) := by decide +kernel
theorem dX2_bring_6 : decode cX2_bring 6 = .ok (.aload_n 3, 1) := by decide +kernel
theorem dX2_bring_7 : decode cX2_bring 7 = .ok (.ifnull 14, 3) := by decide +kernel
theorem dX2_bring_10 : decode cX2_bring 10 = .ok (.aload_n 0, 1) := by decide +kernel
theorem dX2_bring_11 : decode cX2_bring 11 = .ok (.getfield 21, 3) := by decide +kernel
theorem dX2_bring_14 : decode cX2_bring 14 = .ok (.iload_n 1, 1) := by decide +kernel
theorem dX2_bring_15 : decode cX2_bring 15 = .ok (.invokevirtual 71, 3) := by decide +kernel
theorem dX2_bring_18 : decode cX2_bring 18 = .ok (.ifCond .ne 6, 3) := by decide +kernel
theorem dX2_bring_21 : decode cX2_bring 21 = .ok (.bipush (-2), 2) := by decide +kernel
theorem dX2_bring_23 : decode cX2_bring 23 = .ok (.ireturn, 1) := by decide +kernel
theorem dX2_bring_24 : decode cX2_bring 24 = .ok (.aload_n 3, 1) := by decide +kernel
theorem dX2_bring_25 : decode cX2_bring 25 = .ok (.getfield 74, 3) := by decide +kernel
theorem dX2_bring_28 : decode cX2_bring 28 = .ok (.iload_n 1, 1) := by decide +kernel
theorem dX2_bring_29 : decode cX2_bring 29 = .ok (.invokestatic 78, 3) := by decide +kernel
theorem dX2_bring_32 : decode cX2_bring 32 = .ok (.ifCond .ne 6, 3) := by decide +kernel
theorem dX2_bring_35 : decode cX2_bring 35 = .ok (.bipush (-3), 2) := by decide +kernel
theorem dX2_bring_37 : decode cX2_bring 37 = .ok (.ireturn, 1) := by decide +kernel
theorem dX2_bring_38 : decode cX2_bring 38 = .ok (.aload_n 0, 1) := by decide +kernel
theorem dX2_bring_39 : decode cX2_bring 39 = .ok (.aload_n 3, 1) := by decide +kernel
theorem dX2_bring_40 : decode cX2_bring 40 = .ok (.iload_n 1, 1) := by decide +kernel
theorem dX2_bring_41 : decode cX2_bring 41 = .ok (.invokevirtual 82, 3) := by decide +kernel
theorem dX2_bring_44 : decode cX2_bring 44 = .ok (.iconst 1, 1) := by decide +kernel
theorem dX2_bring_45 : decode cX2_bring 45 = .ok (.ireturn, 1) := by decide +kernel
theorem dX2_bringVote_0 : decode cX2_bringVote 0 = .ok (.aload_n 0, 1) := by decide +kernel
theorem dX2_bringVote_1 : decode cX2_bringVote 1 = .ok (.iload_n 3, 1) := by decide +kernel
theorem dX2_bringVote_2 : decode cX2_bringVote 2 = .ok (.invokevirtual 42, 3) := by decide +kernel
theorem dX2_bringVote_5 : decode cX2_bringVote 5 = .ok (.astore 4, 2) := by decide +kernel
theorem dX2_bringVote_7 : decode cX2_bringVote 7 = .ok (.aload 4, 2) := by decide +kernel
theorem dX2_bringVote_9 : decode cX2_bringVote 9 = .ok (.ifnull 22, 3) := by decide +kernel
theorem dX2_bringVote_12 : decode cX2_bringVote 12 = .ok (.aload_n 0, 1) := by decide +kernel
theorem dX2_bringVote_13 : decode cX2_bringVote 13 = .ok (.iload_n 1, 1) := by decide +kernel
theorem dX2_bringVote_14 : decode cX2_bringVote 14 = .ok (.invokevirtual 42, 3) := by decide +kernel
theorem dX2_bringVote_17 : decode cX2_bringVote 17 = .ok (.ifnull 14, 3) := by decide +kernel
theorem dX2_bringVote_20 : decode cX2_bringVote 20 = .ok (.aload_n 0, 1) := by decide +kernel
theorem dX2_bringVote_21 : decode cX2_bringVote 21 = .ok (.getfield 21, 3) := by decide +kernel
theorem dX2_bringVote_24 : decode cX2_bringVote 24 = .ok (.iload_n 2, 1) := by decide +kernel
theorem dX2_bringVote_25 : decode cX2_bringVote 25 = .ok (.invokevirtual 71, 3) := by decide +kernel
theorem dX2_bringVote_28 : decode cX2_bringVote 28 = .ok (.ifCond .ne 6, 3) := by decide +kernel
theorem dX2_bringVote_31 : decode cX2_bringVote 31 = .ok (.bipush (-2), 2) := by decide +kernel
theorem dX2_bringVote_33 : decode cX2_bringVote 33 = .ok (.ireturn, 1) := by decide +kernel
theorem dX2_bringVote_34 : decode cX2_bringVote 34 = .ok (.aload 4, 2) := by decide +kernel
theorem dX2_bringVote_36 : decode cX2_bringVote 36 = .ok (.getfield 86, 3) := by decide +kernel
theorem dX2_bringVote_39 : decode cX2_bringVote 39 = .ok (.iload_n 2, 1) := by decide +kernel
theorem dX2_bringVote_40 : decode cX2_bringVote 40 = .ok (.iaload, 1) := by decide +kernel
theorem dX2_bringVote_41 : decode cX2_bringVote 41 = .ok (.i2l, 1) := by decide +kernel
theorem dX2_bringVote_42 : decode cX2_bringVote 42 = .ok (.iload_n 1, 1) := by decide +kernel
theorem dX2_bringVote_43 : decode cX2_bringVote 43 = .ok (.invokestatic 78, 3) := by decide +kernel
theorem dX2_bringVote_46 : decode cX2_bringVote 46 = .ok (.ifCond .ne 6, 3) := by decide +kernel
theorem dX2_bringVote_49 : decode cX2_bringVote 49 = .ok (.bipush (-3), 2) := by decide +kernel
theorem dX2_bringVote_51 : decode cX2_bringVote 51 = .ok (.ireturn, 1) := by decide +kernel
theorem dX2_bringVote_52 : decode cX2_bringVote 52 = .ok (.aload_n 0, 1) := by decide +kernel
theorem dX2_bringVote_53 : decode cX2_bringVote 53 = .ok (.aload 4, 2) := by decide +kernel
theorem dX2_bringVote_55 : decode cX2_bringVote 55 = .ok (.iload_n 1, 1) := by decide +kernel
theorem dX2_bringVote_56 : decode cX2_bringVote 56 = .ok (.iload_n 2, 1) := by decide +kernel
theorem dX2_bringVote_57 : decode cX2_bringVote 57 = .ok (.invokevirtual 89, 3) := by decide +kernel
theorem dX2_bringVote_60 : decode cX2_bringVote 60 = .ok (.iconst 1, 1) := by decide +kernel
theorem dX2_bringVote_61 : decode cX2_bringVote 61 = .ok (.ireturn, 1) := by decide +kernel
theorem dX2_flow_0 : decode cX2_flow 0 = .ok (.aload_n 0, 1) := by decide +kernel
theorem dX2_flow_1 : decode cX2_flow 1 = .ok (.iload_n 1, 1) := by decide +kernel
theorem dX2_flow_2 : decode cX2_flow 2 = .ok (.invokevirtual 42, 3) := by decide +kernel
theorem dX2_flow_5 : decode cX2_flow 5 = .ok (.astore_n 2, 1) := by decide +kernel
theorem dX2_flow_6 : decode cX2_flow 6 = .ok (.aload_n 2, 1) := by decide +kernel
theorem dX2_flow_7 : decode cX2_flow 7 = .ok (.ifnonnull 8, 3) := by decide +kernel
theorem dX2_flow_10 : decode cX2_flow 10 = .ok (.bipush (-2), 2) := by decide +kernel
theorem dX2_flow_12 : decode cX2_flow 12 = .ok (.goto 8, 3) := by decide +kernel
theorem dX2_flow_15 : decode cX2_flow 15 = .ok (.aload_n 0, 1) := by decide +kernel
theorem dX2_flow_16 : decode cX2_flow 16 = .ok (.aload_n 2, 1) := by decide +kernel
theorem dX2_flow_17 : decode cX2_flow 17 = .ok (.invokevirtual 93, 3) := by decide +kernel
theorem dX2_flow_20 : decode cX2_flow 20 = .ok (.ireturn, 1) := by decide +kernel
theorem dX2_settle_0 : decode cX2_settle 0 = .ok (.aload_n 0, 1) := by decide +kernel
theorem dX2_settle_1 : decode cX2_settle 1 = .ok (.getfield 97, 3) := by decide +kernel
theorem dX2_settle_4 : decode cX2_settle 4 = .ok (.istore_n 1, 1) := by decide +kernel
theorem dX2_settle_5 : decode cX2_settle 5 = .ok (.iconst 0, 1) := by decide +kernel
theorem dX2_settle_6 : decode cX2_settle 6 = .ok (.istore_n 2, 1) := by decide +kernel
theorem dX2_settle_7 : decode cX2_settle 7 = .ok (.iload_n 2, 1) := by decide +kernel
theorem dX2_settle_8 : decode cX2_settle 8 = .ok (.sipush 6600, 3) := by decide +kernel
theorem dX2_settle_11 : decode cX2_settle 11 = .ok (.if_icmp .gt 54, 3) := by decide +kernel
theorem dX2_settle_14 : decode cX2_settle 14 = .ok (.aload_n 0, 1) := by decide +kernel
theorem dX2_settle_15 : decode cX2_settle 15 = .ok (.invokevirtual 100, 3) := by decide +kernel
theorem dX2_settle_18 : decode cX2_settle 18 = .ok (.ifCond .le 47, 3) := by decide +kernel
theorem dX2_settle_21 : decode cX2_settle 21 = .ok (.aload_n 0, 1) := by decide +kernel
theorem dX2_settle_22 : decode cX2_settle 22 = .ok (.getfield 27, 3) := by decide +kernel
theorem dX2_settle_25 : decode cX2_settle 25 = .ok (.astore_n 3, 1) := by decide +kernel
theorem dX2_settle_26 : decode cX2_settle 26 = .ok (.aload_n 3, 1) := by decide +kernel
theorem dX2_settle_27 : decode cX2_settle 27 = .ok (.arraylength, 1) := by decide +kernel
theorem dX2_settle_28 : decode cX2_settle 28 = .ok (.istore 4, 2) := by decide +kernel
theorem dX2_settle_30 : decode cX2_settle 30 = .ok (.iconst 0, 1) := by decide +kernel
theorem dX2_settle_31 : decode cX2_settle 31 = .ok (.istore 5, 2) := by decide +kernel
theorem dX2_settle_33 : decode cX2_settle 33 = .ok (.iload 5, 2) := by decide +kernel
theorem dX2_settle_35 : decode cX2_settle 35 = .ok (.iload 4, 2) := by decide +kernel
theorem dX2_settle_37 : decode cX2_settle 37 = .ok (.if_icmp .ge 22, 3) := by decide +kernel
theorem dX2_settle_40 : decode cX2_settle 40 = .ok (.aload_n 3, 1) := by decide +kernel
theorem dX2_settle_41 : decode cX2_settle 41 = .ok (.iload 5, 2) := by decide +kernel
theorem dX2_settle_43 : decode cX2_settle 43 = .ok (.aaload, 1) := by decide +kernel
theorem dX2_settle_44 : decode cX2_settle 44 = .ok (.astore 6, 2) := by decide +kernel
theorem dX2_settle_46 : decode cX2_settle 46 = .ok (.aload_n 0, 1) := by decide +kernel
theorem dX2_settle_47 : decode cX2_settle 47 = .ok (.aload 6, 2) := by decide +kernel
theorem dX2_settle_49 : decode cX2_settle 49 = .ok (.invokevirtual 93, 3) := by decide +kernel
theorem dX2_settle_52 : decode cX2_settle 52 = .ok (.pop, 1) := by decide +kernel
theorem dX2_settle_53 : decode cX2_settle 53 = .ok (.iinc 5 1, 3) := by decide +kernel
theorem dX2_settle_56 : decode cX2_settle 56 = .ok (.goto (-23), 3) := by decide +kernel
theorem dX2_settle_59 : decode cX2_settle 59 = .ok (.iinc 2 1, 3) := by decide +kernel
theorem dX2_settle_62 : decode cX2_settle 62 = .ok (.goto (-55), 3) := by decide +kernel
theorem dX2_settle_65 : decode cX2_settle 65 = .ok (.aload_n 0, 1) := by decide +kernel
theorem dX2_settle_66 : decode cX2_settle 66 = .ok (.getfield 97, 3) := by decide +kernel
theorem dX2_settle_69 : decode cX2_settle 69 = .ok (.iload_n 1, 1) := by decide +kernel
theorem dX2_settle_70 : decode cX2_settle 70 = .ok (.isub, 1) := by decide +kernel
theorem dX2_settle_71 : decode cX2_settle 71 = .ok (.ireturn, 1) := by decide +kernel
theorem dX2_propose_0 : decode cX2_propose 0 = .ok (.aload_n 0, 1) := by decide +kernel
theorem dX2_propose_1 : decode cX2_propose 1 = .ok (.iload_n 1, 1) := by decide +kernel
theorem dX2_propose_2 : decode cX2_propose 2 = .ok (.invokevirtual 42, 3) := by decide +kernel
theorem dX2_propose_5 : decode cX2_propose 5 = .ok (.astore 6, 2) := by decide +kernel
theorem dX2_propose_7 : decode cX2_propose 7 = .ok (.aload 6, 2) := by decide +kernel
theorem dX2_propose_9 : decode cX2_propose 9 = .ok (.ifnull 30, 3) := by decide +kernel
theorem dX2_propose_12 : decode cX2_propose 12 = .ok (.aload_n 0, 1) := by decide +kernel
theorem dX2_propose_13 : decode cX2_propose 13 = .ok (.getfield 21, 3) := by decide +kernel
theorem dX2_propose_16 : decode cX2_propose 16 = .ok (.iload_n 2, 1) := by decide +kernel
theorem dX2_propose_17 : decode cX2_propose 17 = .ok (.invokevirtual 71, 3) := by decide +kernel
theorem dX2_propose_20 : decode cX2_propose 20 = .ok (.ifCond .eq 19, 3) := by decide +kernel
theorem dX2_propose_23 : decode cX2_propose 23 = .ok (.iload_n 3, 1) := by decide +kernel
theorem dX2_propose_24 : decode cX2_propose 24 = .ok (.invokestatic 38, 3) := by decide +kernel
theorem dX2_propose_27 : decode cX2_propose 27 = .ok (.ifCond .eq 12, 3) := by decide +kernel
theorem dX2_propose_30 : decode cX2_propose 30 = .ok (.aload_n 0, 1) := by decide +kernel
theorem dX2_propose_31 : decode cX2_propose 31 = .ok (.iload 5, 2) := by decide +kernel
theorem dX2_propose_33 : decode cX2_propose 33 = .ok (.invokevirtual 104, 3) := by decide +kernel
theorem dX2_propose_36 : decode cX2_propose 36 = .ok (.ifCond .ne 6, 3) := by decide +kernel
theorem dX2_propose_39 : decode cX2_propose 39 = .ok (.bipush (-2), 2) := by decide +kernel
theorem dX2_propose_41 : decode cX2_propose 41 = .ok (.ireturn, 1) := by decide +kernel
theorem dX2_propose_42 : decode cX2_propose 42 = .ok (.aload 6, 2) := by decide +kernel
theorem dX2_propose_44 : decode cX2_propose 44 = .ok (.getfield 53, 3) := by decide +kernel
theorem dX2_propose_47 : decode cX2_propose 47 = .ok (.ifCond .eq 13, 3) := by decide +kernel
theorem dX2_propose_50 : decode cX2_propose 50 = .ok (.aload_n 0, 1) := by decide +kernel
theorem dX2_propose_51 : decode cX2_propose 51 = .ok (.getfield 34, 3) := by decide +kernel
theorem dX2_propose_54 : decode cX2_propose 54 = .ok (.iload_n 3, 1) := by decide +kernel
theorem dX2_propose_55 : decode cX2_propose 55 = .ok (.iaload, 1) := by decide +kernel
theorem dX2_propose_56 : decode cX2_propose 56 = .ok (.iload_n 1, 1) := by decide +kernel
theorem dX2_propose_57 : decode cX2_propose 57 = .ok (.if_icmp .eq 6, 3) := by decide +kernel
theorem dX2_propose_60 : decode cX2_propose 60 = .ok (.bipush (-3), 2) := by decide +kernel
theorem dX2_propose_62 : decode cX2_propose 62 = .ok (.ireturn, 1) := by decide +kernel
theorem dX2_propose_63 : decode cX2_propose 63 = .ok (.aload_n 0, 1) := by decide +kernel
theorem dX2_propose_64 : decode cX2_propose 64 = .ok (.getfield 21, 3) := by decide +kernel
theorem dX2_propose_67 : decode cX2_propose 67 = .ok (.invokevirtual 60, 3) := by decide +kernel
theorem dX2_propose_70 : decode cX2_propose 70 = .ok (.ifCond .ne 6, 3) := by decide +kernel
theorem dX2_propose_73 : decode cX2_propose 73 = .ok (.bipush (-4), 2) := by decide +kernel
theorem dX2_propose_75 : decode cX2_propose 75 = .ok (.ireturn, 1) := by decide +kernel
theorem dX2_propose_76 : decode cX2_propose 76 = .ok (.aload_n 0, 1) := by decide +kernel
theorem dX2_propose_77 : decode cX2_propose 77 = .ok (.getfield 21, 3) := by decide +kernel
theorem dX2_propose_80 : decode cX2_propose 80 = .ok (.iload_n 2, 1) := by decide +kernel
theorem dX2_propose_81 : decode cX2_propose 81 = .ok (.iload_n 3, 1) := by decide +kernel
theorem dX2_propose_82 : decode cX2_propose 82 = .ok (.iload 4, 2) := by decide +kernel
theorem dX2_propose_84 : decode cX2_propose 84 = .ok (.iload_n 1, 1) := by decide +kernel
theorem dX2_propose_85 : decode cX2_propose 85 = .ok (.invokevirtual 107, 3) := by decide +kernel
theorem dX2_propose_88 : decode cX2_propose 88 = .ok (.istore 7, 2) := by decide +kernel
theorem dX2_propose_90 : decode cX2_propose 90 = .ok (.aload_n 0, 1) := by decide +kernel
theorem dX2_propose_91 : decode cX2_propose 91 = .ok (.aload 6, 2) := by decide +kernel
theorem dX2_propose_93 : decode cX2_propose 93 = .ok (.iload 7, 2) := by decide +kernel
theorem dX2_propose_95 : decode cX2_propose 95 = .ok (.invokevirtual 111, 3) := by decide +kernel
theorem dX2_propose_98 : decode cX2_propose 98 = .ok (.aload_n 0, 1) := by decide +kernel
theorem dX2_propose_99 : decode cX2_propose 99 = .ok (.iload 7, 2) := by decide +kernel
theorem dX2_propose_101 : decode cX2_propose 101 = .ok (.iload 5, 2) := by decide +kernel
theorem dX2_propose_103 : decode cX2_propose 103 = .ok (.invokevirtual 114, 3) := by decide +kernel
theorem dX2_propose_106 : decode cX2_propose 106 = .ok (.pop, 1) := by decide +kernel
theorem dX2_propose_107 : decode cX2_propose 107 = .ok (.iload 7, 2) := by decide +kernel
theorem dX2_propose_109 : decode cX2_propose 109 = .ok (.ireturn, 1) := by decide +kernel
theorem dX2_lie_0 : decode cX2_lie 0 = .ok (.aload_n 0, 1) := by decide +kernel
theorem dX2_lie_1 : decode cX2_lie 1 = .ok (.iload_n 1, 1) := by decide +kernel
theorem dX2_lie_2 : decode cX2_lie 2 = .ok (.invokevirtual 42, 3) := by decide +kernel
theorem dX2_lie_5 : decode cX2_lie 5 = .ok (.astore 4, 2) := by decide +kernel
theorem dX2_lie_7 : decode cX2_lie 7 = .ok (.aload 4, 2) := by decide +kernel
theorem dX2_lie_9 : decode cX2_lie 9 = .ok (.ifnull 26, 3) := by decide +kernel
theorem dX2_lie_12 : decode cX2_lie 12 = .ok (.iload_n 2, 1) := by decide +kernel
theorem dX2_lie_13 : decode cX2_lie 13 = .ok (.ifCond .eq 22, 3) := by decide +kernel
theorem dX2_lie_16 : decode cX2_lie 16 = .ok (.aload_n 0, 1) := by decide +kernel
theorem dX2_lie_17 : decode cX2_lie 17 = .ok (.getfield 21, 3) := by decide +kernel
theorem dX2_lie_20 : decode cX2_lie 20 = .ok (.iload_n 2, 1) := by decide +kernel
theorem dX2_lie_21 : decode cX2_lie 21 = .ok (.invokevirtual 71, 3) := by decide +kernel
theorem dX2_lie_24 : decode cX2_lie 24 = .ok (.ifCond .eq 11, 3) := by decide +kernel
theorem dX2_lie_27 : decode cX2_lie 27 = .ok (.aload_n 0, 1) := by decide +kernel
theorem dX2_lie_28 : decode cX2_lie 28 = .ok (.iload_n 3, 1) := by decide +kernel
theorem dX2_lie_29 : decode cX2_lie 29 = .ok (.invokevirtual 104, 3) := by decide +kernel
theorem dX2_lie_32 : decode cX2_lie 32 = .ok (.ifCond .ne 6, 3) := by decide +kernel
theorem dX2_lie_35 : decode cX2_lie 35 = .ok (.bipush (-2), 2) := by decide +kernel
theorem dX2_lie_37 : decode cX2_lie 37 = .ok (.ireturn, 1) := by decide +kernel
theorem dX2_lie_38 : decode cX2_lie 38 = .ok (.aload 4, 2) := by decide +kernel
theorem dX2_lie_40 : decode cX2_lie 40 = .ok (.getfield 53, 3) := by decide +kernel
theorem dX2_lie_43 : decode cX2_lie 43 = .ok (.ifCond .ne 6, 3) := by decide +kernel
theorem dX2_lie_46 : decode cX2_lie 46 = .ok (.bipush (-3), 2) := by decide +kernel
theorem dX2_lie_48 : decode cX2_lie 48 = .ok (.ireturn, 1) := by decide +kernel
theorem dX2_lie_49 : decode cX2_lie 49 = .ok (.aload_n 0, 1) := by decide +kernel
theorem dX2_lie_50 : decode cX2_lie 50 = .ok (.aload 4, 2) := by decide +kernel
theorem dX2_lie_52 : decode cX2_lie 52 = .ok (.iload_n 1, 1) := by decide +kernel
theorem dX2_lie_53 : decode cX2_lie 53 = .ok (.iload_n 2, 1) := by decide +kernel
theorem dX2_lie_54 : decode cX2_lie 54 = .ok (.invokevirtual 117, 3) := by decide +kernel
theorem dX2_lie_57 : decode cX2_lie 57 = .ok (.aload_n 0, 1) := by decide +kernel
theorem dX2_lie_58 : decode cX2_lie 58 = .ok (.iload_n 1, 1) := by decide +kernel
theorem dX2_lie_59 : decode cX2_lie 59 = .ok (.iload_n 2, 1) := by decide +kernel
theorem dX2_lie_60 : decode cX2_lie 60 = .ok (.iload_n 3, 1) := by decide +kernel
theorem dX2_lie_61 : decode cX2_lie 61 = .ok (.invokevirtual 120, 3) := by decide +kernel
theorem dX2_lie_64 : decode cX2_lie 64 = .ok (.ireturn, 1) := by decide +kernel
theorem dX2_pass_0 : decode cX2_pass 0 = .ok (.aload_n 0, 1) := by decide +kernel
theorem dX2_pass_1 : decode cX2_pass 1 = .ok (.iload_n 1, 1) := by decide +kernel
theorem dX2_pass_2 : decode cX2_pass 2 = .ok (.invokevirtual 42, 3) := by decide +kernel
theorem dX2_pass_5 : decode cX2_pass 5 = .ok (.astore 4, 2) := by decide +kernel
theorem dX2_pass_7 : decode cX2_pass 7 = .ok (.aload 4, 2) := by decide +kernel
theorem dX2_pass_9 : decode cX2_pass 9 = .ok (.ifnull 26, 3) := by decide +kernel
theorem dX2_pass_12 : decode cX2_pass 12 = .ok (.iload_n 2, 1) := by decide +kernel
theorem dX2_pass_13 : decode cX2_pass 13 = .ok (.ifCond .eq 22, 3) := by decide +kernel
theorem dX2_pass_16 : decode cX2_pass 16 = .ok (.aload_n 0, 1) := by decide +kernel
theorem dX2_pass_17 : decode cX2_pass 17 = .ok (.getfield 21, 3) := by decide +kernel
theorem dX2_pass_20 : decode cX2_pass 20 = .ok (.iload_n 2, 1) := by decide +kernel
theorem dX2_pass_21 : decode cX2_pass 21 = .ok (.invokevirtual 71, 3) := by decide +kernel
theorem dX2_pass_24 : decode cX2_pass 24 = .ok (.ifCond .eq 11, 3) := by decide +kernel
theorem dX2_pass_27 : decode cX2_pass 27 = .ok (.aload_n 0, 1) := by decide +kernel
theorem dX2_pass_28 : decode cX2_pass 28 = .ok (.iload_n 3, 1) := by decide +kernel
theorem dX2_pass_29 : decode cX2_pass 29 = .ok (.invokevirtual 104, 3) := by decide +kernel
theorem dX2_pass_32 : decode cX2_pass 32 = .ok (.ifCond .ne 6, 3) := by decide +kernel
theorem dX2_pass_35 : decode cX2_pass 35 = .ok (.bipush (-2), 2) := by decide +kernel
theorem dX2_pass_37 : decode cX2_pass 37 = .ok (.ireturn, 1) := by decide +kernel
theorem dX2_pass_38 : decode cX2_pass 38 = .ok (.aload 4, 2) := by decide +kernel
theorem dX2_pass_40 : decode cX2_pass 40 = .ok (.getfield 53, 3) := by decide +kernel
theorem dX2_pass_43 : decode cX2_pass 43 = .ok (.ifCond .eq 15, 3) := by decide +kernel
theorem dX2_pass_46 : decode cX2_pass 46 = .ok (.aload 4, 2) := by decide +kernel
theorem dX2_pass_48 : decode cX2_pass 48 = .ok (.getfield 124, 3) := by decide +kernel
theorem dX2_pass_51 : decode cX2_pass 51 = .ok (.iload_n 2, 1) := by decide +kernel
theorem dX2_pass_52 : decode cX2_pass 52 = .ok (.invokestatic 78, 3) := by decide +kernel
theorem dX2_pass_55 : decode cX2_pass 55 = .ok (.ifCond .ne 6, 3) := by decide +kernel
theorem dX2_pass_58 : decode cX2_pass 58 = .ok (.bipush (-3), 2) := by decide +kernel
theorem dX2_pass_60 : decode cX2_pass 60 = .ok (.ireturn, 1) := by decide +kernel
theorem dX2_pass_61 : decode cX2_pass 61 = .ok (.aload_n 0, 1) := by decide +kernel
theorem dX2_pass_62 : decode cX2_pass 62 = .ok (.iload_n 2, 1) := by decide +kernel
theorem dX2_pass_63 : decode cX2_pass 63 = .ok (.iload_n 3, 1) := by decide +kernel
theorem dX2_pass_64 : decode cX2_pass 64 = .ok (.invokevirtual 114, 3) := by decide +kernel
theorem dX2_pass_67 : decode cX2_pass 67 = .ok (.ireturn, 1) := by decide +kernel
theorem dX2_about_0 : decode cX2_about 0 = .ok (.aload_n 0, 1) := by decide +kernel
theorem dX2_about_1 : decode cX2_about 1 = .ok (.getfield 21, 3) := by decide +kernel
theorem dX2_about_4 : decode cX2_about 4 = .ok (.iload_n 1, 1) := by decide +kernel
theorem dX2_about_5 : decode cX2_about 5 = .ok (.invokevirtual 71, 3) := by decide +kernel
theorem dX2_about_8 : decode cX2_about 8 = .ok (.ifCond .ne 6, 3) := by decide +kernel
theorem dX2_about_11 : decode cX2_about 11 = .ok (.bipush (-2), 2) := by decide +kernel
theorem dX2_about_13 : decode cX2_about 13 = .ok (.ireturn, 1) := by decide +kernel
theorem dX2_about_14 : decode cX2_about 14 = .ok (.iload_n 2, 1) := by decide +kernel
theorem dX2_about_15 : decode cX2_about 15 = .ok (.tableswitch 83 0 4 #[33, 43, 53, 63, 73], 33) := by decide +kernel
theorem dX2_about_48 : decode cX2_about 48 = .ok (.aload_n 0, 1) := by decide +kernel
theorem dX2_about_49 : decode cX2_about 49 = .ok (.getfield 21, 3) := by decide +kernel
theorem dX2_about_52 : decode cX2_about 52 = .ok (.getfield 127, 3) := by decide +kernel
theorem dX2_about_55 : decode cX2_about 55 = .ok (.iload_n 1, 1) := by decide +kernel
theorem dX2_about_56 : decode cX2_about 56 = .ok (.iaload, 1) := by decide +kernel
theorem dX2_about_57 : decode cX2_about 57 = .ok (.ireturn, 1) := by decide +kernel
theorem dX2_about_58 : decode cX2_about 58 = .ok (.aload_n 0, 1) := by decide +kernel
theorem dX2_about_59 : decode cX2_about 59 = .ok (.getfield 21, 3) := by decide +kernel
theorem dX2_about_62 : decode cX2_about 62 = .ok (.getfield 130, 3) := by decide +kernel
theorem dX2_about_65 : decode cX2_about 65 = .ok (.iload_n 1, 1) := by decide +kernel
theorem dX2_about_66 : decode cX2_about 66 = .ok (.iaload, 1) := by decide +kernel
theorem dX2_about_67 : decode cX2_about 67 = .ok (.ireturn, 1) := by decide +kernel
theorem dX2_about_68 : decode cX2_about 68 = .ok (.aload_n 0, 1) := by decide +kernel
theorem dX2_about_69 : decode cX2_about 69 = .ok (.getfield 21, 3) := by decide +kernel
theorem dX2_about_72 : decode cX2_about 72 = .ok (.getfield 133, 3) := by decide +kernel
theorem dX2_about_75 : decode cX2_about 75 = .ok (.iload_n 1, 1) := by decide +kernel
theorem dX2_about_76 : decode cX2_about 76 = .ok (.iaload, 1) := by decide +kernel
theorem dX2_about_77 : decode cX2_about 77 = .ok (.ireturn, 1) := by decide +kernel
theorem dX2_about_78 : decode cX2_about 78 = .ok (.aload_n 0, 1) := by decide +kernel
theorem dX2_about_79 : decode cX2_about 79 = .ok (.getfield 21, 3) := by decide +kernel
theorem dX2_about_82 : decode cX2_about 82 = .ok (.getfield 136, 3) := by decide +kernel
theorem dX2_about_85 : decode cX2_about 85 = .ok (.iload_n 1, 1) := by decide +kernel
theorem dX2_about_86 : decode cX2_about 86 = .ok (.iaload, 1) := by decide +kernel
theorem dX2_about_87 : decode cX2_about 87 = .ok (.ireturn, 1) := by decide +kernel
theorem dX2_about_88 : decode cX2_about 88 = .ok (.aload_n 0, 1) := by decide +kernel
theorem dX2_about_89 : decode cX2_about 89 = .ok (.getfield 21, 3) := by decide +kernel
theorem dX2_about_92 : decode cX2_about 92 = .ok (.getfield 139, 3) := by decide +kernel
theorem dX2_about_95 : decode cX2_about 95 = .ok (.iload_n 1, 1) := by decide +kernel
theorem dX2_about_96 : decode cX2_about 96 = .ok (.iaload, 1) := by decide +kernel
theorem dX2_about_97 : decode cX2_about 97 = .ok (.ireturn, 1) := by decide +kernel
theorem dX2_about_98 : decode cX2_about 98 = .ok (.bipush (-2), 2) := by decide +kernel
theorem dX2_about_100 : decode cX2_about 100 = .ok (.ireturn, 1) := by decide +kernel
theorem dX2_seen_0 : decode cX2_seen 0 = .ok (.aload_n 0, 1) := by decide +kernel
theorem dX2_seen_1 : decode cX2_seen 1 = .ok (.iload_n 1, 1) := by decide +kernel
theorem dX2_seen_2 : decode cX2_seen 2 = .ok (.invokevirtual 42, 3) := by decide +kernel
theorem dX2_seen_5 : decode cX2_seen 5 = .ok (.astore_n 3, 1) := by decide +kernel
theorem dX2_seen_6 : decode cX2_seen 6 = .ok (.aload_n 3, 1) := by decide +kernel
theorem dX2_seen_7 : decode cX2_seen 7 = .ok (.ifnull 14, 3) := by decide +kernel
theorem dX2_seen_10 : decode cX2_seen 10 = .ok (.aload_n 0, 1) := by decide +kernel
theorem dX2_seen_11 : decode cX2_seen 11 = .ok (.getfield 21, 3) := by decide +kernel
theorem dX2_seen_14 : decode cX2_seen 14 = .ok (.iload_n 2, 1) := by decide +kernel
theorem dX2_seen_15 : decode cX2_seen 15 = .ok (.invokevirtual 71, 3) := by decide +kernel
theorem dX2_seen_18 : decode cX2_seen 18 = .ok (.ifCond .ne 6, 3) := by decide +kernel
theorem dX2_seen_21 : decode cX2_seen 21 = .ok (.bipush (-2), 2) := by decide +kernel
theorem dX2_seen_23 : decode cX2_seen 23 = .ok (.ireturn, 1) := by decide +kernel
theorem dX2_seen_24 : decode cX2_seen 24 = .ok (.aload_n 3, 1) := by decide +kernel
theorem dX2_seen_25 : decode cX2_seen 25 = .ok (.getfield 142, 3) := by decide +kernel
theorem dX2_seen_28 : decode cX2_seen 28 = .ok (.iload_n 2, 1) := by decide +kernel
theorem dX2_seen_29 : decode cX2_seen 29 = .ok (.invokestatic 78, 3) := by decide +kernel
theorem dX2_seen_32 : decode cX2_seen 32 = .ok (.ifCond .eq 5, 3) := by decide +kernel
theorem dX2_seen_35 : decode cX2_seen 35 = .ok (.iconst 4, 1) := by decide +kernel
theorem dX2_seen_36 : decode cX2_seen 36 = .ok (.ireturn, 1) := by decide +kernel
theorem dX2_seen_37 : decode cX2_seen 37 = .ok (.aload_n 3, 1) := by decide +kernel
theorem dX2_seen_38 : decode cX2_seen 38 = .ok (.getfield 145, 3) := by decide +kernel
theorem dX2_seen_41 : decode cX2_seen 41 = .ok (.iload_n 2, 1) := by decide +kernel
theorem dX2_seen_42 : decode cX2_seen 42 = .ok (.invokestatic 78, 3) := by decide +kernel
theorem dX2_seen_45 : decode cX2_seen 45 = .ok (.ifCond .eq 5, 3) := by decide +kernel
theorem dX2_seen_48 : decode cX2_seen 48 = .ok (.iconst 3, 1) := by decide +kernel
theorem dX2_seen_49 : decode cX2_seen 49 = .ok (.ireturn, 1) := by decide +kernel
theorem dX2_seen_50 : decode cX2_seen 50 = .ok (.aload_n 3, 1) := by decide +kernel
theorem dX2_seen_51 : decode cX2_seen 51 = .ok (.getfield 148, 3) := by decide +kernel
theorem dX2_seen_54 : decode cX2_seen 54 = .ok (.iload_n 2, 1) := by decide +kernel
theorem dX2_seen_55 : decode cX2_seen 55 = .ok (.invokestatic 78, 3) := by decide +kernel
theorem dX2_seen_58 : decode cX2_seen 58 = .ok (.ifCond .eq 5, 3) := by decide +kernel
theorem dX2_seen_61 : decode cX2_seen 61 = .ok (.iconst 2, 1) := by decide +kernel
theorem dX2_seen_62 : decode cX2_seen 62 = .ok (.ireturn, 1) := by decide +kernel
theorem dX2_seen_63 : decode cX2_seen 63 = .ok (.aload_n 3, 1) := by decide +kernel
theorem dX2_seen_64 : decode cX2_seen 64 = .ok (.getfield 124, 3) := by decide +kernel
theorem dX2_seen_67 : decode cX2_seen 67 = .ok (.iload_n 2, 1) := by decide +kernel
theorem dX2_seen_68 : decode cX2_seen 68 = .ok (.invokestatic 78, 3) := by decide +kernel
theorem dX2_seen_71 : decode cX2_seen 71 = .ok (.ifCond .eq 7, 3) := by decide +kernel
theorem dX2_seen_74 : decode cX2_seen 74 = .ok (.iconst 1, 1) := by decide +kernel
theorem dX2_seen_75 : decode cX2_seen 75 = .ok (.goto 4, 3) := by decide +kernel
theorem dX2_seen_78 : decode cX2_seen 78 = .ok (.iconst 0, 1) := by decide +kernel
theorem dX2_seen_79 : decode cX2_seen 79 = .ok (.ireturn, 1) := by decide +kernel
theorem dX2_votes_0 : decode cX2_votes 0 = .ok (.aload_n 0, 1) := by decide +kernel
theorem dX2_votes_1 : decode cX2_votes 1 = .ok (.iload_n 1, 1) := by decide +kernel
theorem dX2_votes_2 : decode cX2_votes 2 = .ok (.invokevirtual 42, 3) := by decide +kernel
theorem dX2_votes_5 : decode cX2_votes 5 = .ok (.astore_n 3, 1) := by decide +kernel
theorem dX2_votes_6 : decode cX2_votes 6 = .ok (.aload_n 3, 1) := by decide +kernel
theorem dX2_votes_7 : decode cX2_votes 7 = .ok (.ifnull 14, 3) := by decide +kernel
theorem dX2_votes_10 : decode cX2_votes 10 = .ok (.aload_n 0, 1) := by decide +kernel
theorem dX2_votes_11 : decode cX2_votes 11 = .ok (.getfield 21, 3) := by decide +kernel
theorem dX2_votes_14 : decode cX2_votes 14 = .ok (.iload_n 2, 1) := by decide +kernel
theorem dX2_votes_15 : decode cX2_votes 15 = .ok (.invokevirtual 71, 3) := by decide +kernel
theorem dX2_votes_18 : decode cX2_votes 18 = .ok (.ifCond .ne 6, 3) := by decide +kernel
theorem dX2_votes_21 : decode cX2_votes 21 = .ok (.bipush (-2), 2) := by decide +kernel
theorem dX2_votes_23 : decode cX2_votes 23 = .ok (.ireturn, 1) := by decide +kernel
theorem dX2_votes_24 : decode cX2_votes 24 = .ok (.aload_n 3, 1) := by decide +kernel
theorem dX2_votes_25 : decode cX2_votes 25 = .ok (.getfield 151, 3) := by decide +kernel
theorem dX2_votes_28 : decode cX2_votes 28 = .ok (.iload_n 2, 1) := by decide +kernel
theorem dX2_votes_29 : decode cX2_votes 29 = .ok (.iaload, 1) := by decide +kernel
theorem dX2_votes_30 : decode cX2_votes 30 = .ok (.invokestatic 154, 3) := by decide +kernel
theorem dX2_votes_33 : decode cX2_votes 33 = .ok (.ireturn, 1) := by decide +kernel
theorem dX2_voted_0 : decode cX2_voted 0 = .ok (.aload_n 0, 1) := by decide +kernel
theorem dX2_voted_1 : decode cX2_voted 1 = .ok (.iload_n 1, 1) := by decide +kernel
theorem dX2_voted_2 : decode cX2_voted 2 = .ok (.invokevirtual 42, 3) := by decide +kernel
theorem dX2_voted_5 : decode cX2_voted 5 = .ok (.astore_n 3, 1) := by decide +kernel
theorem dX2_voted_6 : decode cX2_voted 6 = .ok (.aload_n 3, 1) := by decide +kernel
theorem dX2_voted_7 : decode cX2_voted 7 = .ok (.ifnull 10, 3) := by decide +kernel
theorem dX2_voted_10 : decode cX2_voted 10 = .ok (.iload_n 2, 1) := by decide +kernel
theorem dX2_voted_11 : decode cX2_voted 11 = .ok (.invokestatic 38, 3) := by decide +kernel
theorem dX2_voted_14 : decode cX2_voted 14 = .ok (.ifCond .ne 6, 3) := by decide +kernel
theorem dX2_voted_17 : decode cX2_voted 17 = .ok (.bipush (-2), 2) := by decide +kernel
theorem dX2_voted_19 : decode cX2_voted 19 = .ok (.ireturn, 1) := by decide +kernel
theorem dX2_voted_20 : decode cX2_voted 20 = .ok (.aload_n 3, 1) := by decide +kernel
theorem dX2_voted_21 : decode cX2_voted 21 = .ok (.getfield 160, 3) := by decide +kernel
theorem dX2_voted_24 : decode cX2_voted 24 = .ok (.iload_n 2, 1) := by decide +kernel
theorem dX2_voted_25 : decode cX2_voted 25 = .ok (.iaload, 1) := by decide +kernel
theorem dX2_voted_26 : decode cX2_voted 26 = .ok (.ireturn, 1) := by decide +kernel
theorem dX2_reach_0 : decode cX2_reach 0 = .ok (.aload_n 0, 1) := by decide +kernel
theorem dX2_reach_1 : decode cX2_reach 1 = .ok (.iload_n 1, 1) := by decide +kernel
theorem dX2_reach_2 : decode cX2_reach 2 = .ok (.invokevirtual 42, 3) := by decide +kernel
theorem dX2_reach_5 : decode cX2_reach 5 = .ok (.astore_n 3, 1) := by decide +kernel
theorem dX2_reach_6 : decode cX2_reach 6 = .ok (.aload_n 3, 1) := by decide +kernel
theorem dX2_reach_7 : decode cX2_reach 7 = .ok (.ifnonnull 6, 3) := by decide +kernel
theorem dX2_reach_10 : decode cX2_reach 10 = .ok (.bipush (-2), 2) := by decide +kernel
theorem dX2_reach_12 : decode cX2_reach 12 = .ok (.ireturn, 1) := by decide +kernel
theorem dX2_reach_13 : decode cX2_reach 13 = .ok (.iload_n 2, 1) := by decide +kernel
theorem dX2_reach_14 : decode cX2_reach 14 = .ok (.tableswitch 49 0 2 #[26, 39, 44], 26) := by decide +kernel
theorem dX2_reach_40 : decode cX2_reach 40 = .ok (.aload_n 0, 1) := by decide +kernel
theorem dX2_reach_41 : decode cX2_reach 41 = .ok (.getfield 21, 3) := by decide +kernel
theorem dX2_reach_44 : decode cX2_reach 44 = .ok (.getfield 136, 3) := by decide +kernel
theorem dX2_reach_47 : decode cX2_reach 47 = .ok (.aload_n 3, 1) := by decide +kernel
theorem dX2_reach_48 : decode cX2_reach 48 = .ok (.getfield 163, 3) := by decide +kernel
theorem dX2_reach_51 : decode cX2_reach 51 = .ok (.iaload, 1) := by decide +kernel
theorem dX2_reach_52 : decode cX2_reach 52 = .ok (.ireturn, 1) := by decide +kernel
theorem dX2_reach_53 : decode cX2_reach 53 = .ok (.aload_n 3, 1) := by decide +kernel
theorem dX2_reach_54 : decode cX2_reach 54 = .ok (.getfield 163, 3) := by decide +kernel
theorem dX2_reach_57 : decode cX2_reach 57 = .ok (.ireturn, 1) := by decide +kernel
theorem dX2_reach_58 : decode cX2_reach 58 = .ok (.aload_n 3, 1) := by decide +kernel
theorem dX2_reach_59 : decode cX2_reach 59 = .ok (.getfield 166, 3) := by decide +kernel
theorem dX2_reach_62 : decode cX2_reach 62 = .ok (.ireturn, 1) := by decide +kernel
theorem dX2_reach_63 : decode cX2_reach 63 = .ok (.bipush (-2), 2) := by decide +kernel
theorem dX2_reach_65 : decode cX2_reach 65 = .ok (.ireturn, 1) := by decide +kernel
theorem dX2_ledger_0 : decode cX2_ledger 0 = .ok (.aload_n 0, 1) := by decide +kernel
theorem dX2_ledger_1 : decode cX2_ledger 1 = .ok (.iload_n 1, 1) := by decide +kernel
theorem dX2_ledger_2 : decode cX2_ledger 2 = .ok (.invokevirtual 42, 3) := by decide +kernel
theorem dX2_ledger_5 : decode cX2_ledger 5 = .ok (.astore_n 3, 1) := by decide +kernel
theorem dX2_ledger_6 : decode cX2_ledger 6 = .ok (.aload_n 3, 1) := by decide +kernel
theorem dX2_ledger_7 : decode cX2_ledger 7 = .ok (.ifnonnull 6, 3) := by decide +kernel
theorem dX2_ledger_10 : decode cX2_ledger 10 = .ok (.bipush (-2), 2) := by decide +kernel
theorem dX2_ledger_12 : decode cX2_ledger 12 = .ok (.ireturn, 1) := by decide +kernel
theorem dX2_ledger_13 : decode cX2_ledger 13 = .ok (.aload_n 0, 1) := by decide +kernel
theorem dX2_ledger_14 : decode cX2_ledger 14 = .ok (.getfield 21, 3) := by decide +kernel
theorem dX2_ledger_17 : decode cX2_ledger 17 = .ok (.getfield 169, 3) := by decide +kernel
theorem dX2_ledger_20 : decode cX2_ledger 20 = .ok (.aload_n 3, 1) := by decide +kernel
theorem dX2_ledger_21 : decode cX2_ledger 21 = .ok (.getfield 166, 3) := by decide +kernel
theorem dX2_ledger_24 : decode cX2_ledger 24 = .ok (.laload, 1) := by decide +kernel
theorem dX2_ledger_25 : decode cX2_ledger 25 = .ok (.lstore 4, 2) := by decide +kernel
theorem dX2_ledger_27 : decode cX2_ledger 27 = .ok (.iconst 0, 1) := by decide +kernel
theorem dX2_ledger_28 : decode cX2_ledger 28 = .ok (.istore 6, 2) := by decide +kernel
theorem dX2_ledger_30 : decode cX2_ledger 30 = .ok (.iload_n 2, 1) := by decide +kernel
theorem dX2_ledger_31 : decode cX2_ledger 31 = .ok (.istore 7, 2) := by decide +kernel
theorem dX2_ledger_33 : decode cX2_ledger 33 = .ok (.iconst 0, 1) := by decide +kernel
theorem dX2_ledger_34 : decode cX2_ledger 34 = .ok (.istore 8, 2) := by decide +kernel
theorem dX2_ledger_36 : decode cX2_ledger 36 = .ok (.iload 8, 2) := by decide +kernel
theorem dX2_ledger_38 : decode cX2_ledger 38 = .ok (.aload_n 0, 1) := by decide +kernel
theorem dX2_ledger_39 : decode cX2_ledger 39 = .ok (.getfield 21, 3) := by decide +kernel
theorem dX2_ledger_42 : decode cX2_ledger 42 = .ok (.getfield 173, 3) := by decide +kernel
theorem dX2_ledger_45 : decode cX2_ledger 45 = .ok (.if_icmp .ge 76, 3) := by decide +kernel
theorem dX2_ledger_48 : decode cX2_ledger 48 = .ok (.iload 7, 2) := by decide +kernel
theorem dX2_ledger_50 : decode cX2_ledger 50 = .ok (.ifCond .lt 71, 3) := by decide +kernel
theorem dX2_ledger_53 : decode cX2_ledger 53 = .ok (.lload 4, 2) := by decide +kernel
theorem dX2_ledger_55 : decode cX2_ledger 55 = .ok (.iload 8, 2) := by decide +kernel
theorem dX2_ledger_57 : decode cX2_ledger 57 = .ok (.invokestatic 78, 3) := by decide +kernel
theorem dX2_ledger_60 : decode cX2_ledger 60 = .ok (.ifCond .eq 55, 3) := by decide +kernel
theorem dX2_ledger_63 : decode cX2_ledger 63 = .ok (.aload_n 0, 1) := by decide +kernel
theorem dX2_ledger_64 : decode cX2_ledger 64 = .ok (.getfield 21, 3) := by decide +kernel
theorem dX2_ledger_67 : decode cX2_ledger 67 = .ok (.getfield 133, 3) := by decide +kernel
theorem dX2_ledger_70 : decode cX2_ledger 70 = .ok (.iload 8, 2) := by decide +kernel
theorem dX2_ledger_72 : decode cX2_ledger 72 = .ok (.iaload, 1) := by decide +kernel
theorem dX2_ledger_73 : decode cX2_ledger 73 = .ok (.iload 6, 2) := by decide +kernel
theorem dX2_ledger_75 : decode cX2_ledger 75 = .ok (.iconst (-1), 1) := by decide +kernel
theorem dX2_ledger_76 : decode cX2_ledger 76 = .ok (.ixor, 1) := by decide +kernel
theorem dX2_ledger_77 : decode cX2_ledger 77 = .ok (.iand, 1) := by decide +kernel
theorem dX2_ledger_78 : decode cX2_ledger 78 = .ok (.istore 9, 2) := by decide +kernel
theorem dX2_ledger_80 : decode cX2_ledger 80 = .ok (.iload 7, 2) := by decide +kernel
theorem dX2_ledger_82 : decode cX2_ledger 82 = .ok (.iload 9, 2) := by decide +kernel
theorem dX2_ledger_84 : decode cX2_ledger 84 = .ok (.invokestatic 154, 3) := by decide +kernel
theorem dX2_ledger_87 : decode cX2_ledger 87 = .ok (.if_icmp .ge 11, 3) := by decide +kernel
theorem dX2_ledger_90 : decode cX2_ledger 90 = .ok (.iload 9, 2) := by decide +kernel
theorem dX2_ledger_92 : decode cX2_ledger 92 = .ok (.iload 7, 2) := by decide +kernel
theorem dX2_ledger_94 : decode cX2_ledger 94 = .ok (.invokestatic 176, 3) := by decide +kernel
theorem dX2_ledger_97 : decode cX2_ledger 97 = .ok (.ireturn, 1) := by decide +kernel
theorem dX2_ledger_98 : decode cX2_ledger 98 = .ok (.iload 7, 2) := by decide +kernel
theorem dX2_ledger_100 : decode cX2_ledger 100 = .ok (.iload 9, 2) := by decide +kernel
theorem dX2_ledger_102 : decode cX2_ledger 102 = .ok (.invokestatic 154, 3) := by decide +kernel
theorem dX2_ledger_105 : decode cX2_ledger 105 = .ok (.isub, 1) := by decide +kernel
theorem dX2_ledger_106 : decode cX2_ledger 106 = .ok (.istore 7, 2) := by decide +kernel
theorem dX2_ledger_108 : decode cX2_ledger 108 = .ok (.iload 6, 2) := by decide +kernel
theorem dX2_ledger_110 : decode cX2_ledger 110 = .ok (.iload 9, 2) := by decide +kernel
theorem dX2_ledger_112 : decode cX2_ledger 112 = .ok (.ior, 1) := by decide +kernel
theorem dX2_ledger_113 : decode cX2_ledger 113 = .ok (.istore 6, 2) := by decide +kernel
theorem dX2_ledger_115 : decode cX2_ledger 115 = .ok (.iinc 8 1, 3) := by decide +kernel
theorem dX2_ledger_118 : decode cX2_ledger 118 = .ok (.goto (-82), 3) := by decide +kernel
theorem dX2_ledger_121 : decode cX2_ledger 121 = .ok (.iconst (-1), 1) := by decide +kernel
theorem dX2_ledger_122 : decode cX2_ledger 122 = .ok (.ireturn, 1) := by decide +kernel
theorem dX2_agree_0 : decode cX2_agree 0 = .ok (.aload_n 0, 1) := by decide +kernel
theorem dX2_agree_1 : decode cX2_agree 1 = .ok (.getfield 27, 3) := by decide +kernel
theorem dX2_agree_4 : decode cX2_agree 4 = .ok (.astore_n 1, 1) := by decide +kernel
theorem dX2_agree_5 : decode cX2_agree 5 = .ok (.aload_n 1, 1) := by decide +kernel
theorem dX2_agree_6 : decode cX2_agree 6 = .ok (.arraylength, 1) := by decide +kernel
theorem dX2_agree_7 : decode cX2_agree 7 = .ok (.istore_n 2, 1) := by decide +kernel
theorem dX2_agree_8 : decode cX2_agree 8 = .ok (.iconst 0, 1) := by decide +kernel
theorem dX2_agree_9 : decode cX2_agree 9 = .ok (.istore_n 3, 1) := by decide +kernel
theorem dX2_agree_10 : decode cX2_agree 10 = .ok (.iload_n 3, 1) := by decide +kernel
theorem dX2_agree_11 : decode cX2_agree 11 = .ok (.iload_n 2, 1) := by decide +kernel
theorem dX2_agree_12 : decode cX2_agree 12 = .ok (.if_icmp .ge 83, 3) := by decide +kernel
theorem dX2_agree_15 : decode cX2_agree 15 = .ok (.aload_n 1, 1) := by decide +kernel
theorem dX2_agree_16 : decode cX2_agree 16 = .ok (.iload_n 3, 1) := by decide +kernel
theorem dX2_agree_17 : decode cX2_agree 17 = .ok (.aaload, 1) := by decide +kernel
theorem dX2_agree_18 : decode cX2_agree 18 = .ok (.astore 4, 2) := by decide +kernel
theorem dX2_agree_20 : decode cX2_agree 20 = .ok (.aload_n 0, 1) := by decide +kernel
theorem dX2_agree_21 : decode cX2_agree 21 = .ok (.getfield 27, 3) := by decide +kernel
theorem dX2_agree_24 : decode cX2_agree 24 = .ok (.astore 5, 2) := by decide +kernel
theorem dX2_agree_26 : decode cX2_agree 26 = .ok (.aload 5, 2) := by decide +kernel
theorem dX2_agree_28 : decode cX2_agree 28 = .ok (.arraylength, 1) := by decide +kernel
theorem dX2_agree_29 : decode cX2_agree 29 = .ok (.istore 6, 2) := by decide +kernel
theorem dX2_agree_31 : decode cX2_agree 31 = .ok (.iconst 0, 1) := by decide +kernel
theorem dX2_agree_32 : decode cX2_agree 32 = .ok (.istore 7, 2) := by decide +kernel
theorem dX2_agree_34 : decode cX2_agree 34 = .ok (.iload 7, 2) := by decide +kernel
theorem dX2_agree_36 : decode cX2_agree 36 = .ok (.iload 6, 2) := by decide +kernel
theorem dX2_agree_38 : decode cX2_agree 38 = .ok (.if_icmp .ge 51, 3) := by decide +kernel
theorem dX2_agree_41 : decode cX2_agree 41 = .ok (.aload 5, 2) := by decide +kernel
theorem dX2_agree_43 : decode cX2_agree 43 = .ok (.iload 7, 2) := by decide +kernel
theorem dX2_agree_45 : decode cX2_agree 45 = .ok (.aaload, 1) := by decide +kernel
theorem dX2_agree_46 : decode cX2_agree 46 = .ok (.astore 8, 2) := by decide +kernel
theorem dX2_agree_48 : decode cX2_agree 48 = .ok (.aload 4, 2) := by decide +kernel
theorem dX2_agree_50 : decode cX2_agree 50 = .ok (.getfield 53, 3) := by decide +kernel
theorem dX2_agree_53 : decode cX2_agree 53 = .ok (.ifCond .ne 30, 3) := by decide +kernel
theorem dX2_agree_56 : decode cX2_agree 56 = .ok (.aload 8, 2) := by decide +kernel
theorem dX2_agree_58 : decode cX2_agree 58 = .ok (.getfield 53, 3) := by decide +kernel
theorem dX2_agree_61 : decode cX2_agree 61 = .ok (.ifCond .ne 22, 3) := by decide +kernel
theorem dX2_agree_64 : decode cX2_agree 64 = .ok (.aload_n 0, 1) := by decide +kernel
theorem dX2_agree_65 : decode cX2_agree 65 = .ok (.aload 4, 2) := by decide +kernel
theorem dX2_agree_67 : decode cX2_agree 67 = .ok (.getfield 166, 3) := by decide +kernel
theorem dX2_agree_70 : decode cX2_agree 70 = .ok (.aload 8, 2) := by decide +kernel
theorem dX2_agree_72 : decode cX2_agree 72 = .ok (.getfield 166, 3) := by decide +kernel
theorem dX2_agree_75 : decode cX2_agree 75 = .ok (.invokevirtual 179, 3) := by decide +kernel
theorem dX2_agree_78 : decode cX2_agree 78 = .ok (.ifCond .ne 5, 3) := by decide +kernel
theorem dX2_agree_81 : decode cX2_agree 81 = .ok (.iconst 0, 1) := by decide +kernel
theorem dX2_agree_82 : decode cX2_agree 82 = .ok (.ireturn, 1) := by decide +kernel
theorem dX2_agree_83 : decode cX2_agree 83 = .ok (.iinc 7 1, 3) := by decide +kernel
theorem dX2_agree_86 : decode cX2_agree 86 = .ok (.goto (-52), 3) := by decide +kernel
theorem dX2_agree_89 : decode cX2_agree 89 = .ok (.iinc 3 1, 3) := by decide +kernel
theorem dX2_agree_92 : decode cX2_agree 92 = .ok (.goto (-82), 3) := by decide +kernel
theorem dX2_agree_95 : decode cX2_agree 95 = .ok (.iconst 1, 1) := by decide +kernel
theorem dX2_agree_96 : decode cX2_agree 96 = .ok (.ireturn, 1) := by decide +kernel
theorem dX2_count_0 : decode cX2_count 0 = .ok (.iload_n 1, 1) := by decide +kernel
theorem dX2_count_1 : decode cX2_count 1 = .ok (.tableswitch 82 0 6 #[43, 49, 54, 62, 67, 72, 77], 43) := by decide +kernel
theorem dX2_count_44 : decode cX2_count 44 = .ok (.aload_n 0, 1) := by decide +kernel
theorem dX2_count_45 : decode cX2_count 45 = .ok (.getfield 27, 3) := by decide +kernel
theorem dX2_count_48 : decode cX2_count 48 = .ok (.arraylength, 1) := by decide +kernel
theorem dX2_count_49 : decode cX2_count 49 = .ok (.ireturn, 1) := by decide +kernel
theorem dX2_count_50 : decode cX2_count 50 = .ok (.aload_n 0, 1) := by decide +kernel
theorem dX2_count_51 : decode cX2_count 51 = .ok (.getfield 46, 3) := by decide +kernel
theorem dX2_count_54 : decode cX2_count 54 = .ok (.ireturn, 1) := by decide +kernel
theorem dX2_count_55 : decode cX2_count 55 = .ok (.aload_n 0, 1) := by decide +kernel
theorem dX2_count_56 : decode cX2_count 56 = .ok (.getfield 21, 3) := by decide +kernel
theorem dX2_count_59 : decode cX2_count 59 = .ok (.getfield 173, 3) := by decide +kernel
theorem dX2_count_62 : decode cX2_count 62 = .ok (.ireturn, 1) := by decide +kernel
theorem dX2_count_63 : decode cX2_count 63 = .ok (.aload_n 0, 1) := by decide +kernel
theorem dX2_count_64 : decode cX2_count 64 = .ok (.invokevirtual 183, 3) := by decide +kernel
theorem dX2_count_67 : decode cX2_count 67 = .ok (.ireturn, 1) := by decide +kernel
theorem dX2_count_68 : decode cX2_count 68 = .ok (.aload_n 0, 1) := by decide +kernel
theorem dX2_count_69 : decode cX2_count 69 = .ok (.invokevirtual 100, 3) := by decide +kernel
theorem dX2_count_72 : decode cX2_count 72 = .ok (.ireturn, 1) := by decide +kernel
theorem dX2_count_73 : decode cX2_count 73 = .ok (.aload_n 0, 1) := by decide +kernel
theorem dX2_count_74 : decode cX2_count 74 = .ok (.getfield 186, 3) := by decide +kernel
theorem dX2_count_77 : decode cX2_count 77 = .ok (.ireturn, 1) := by decide +kernel
theorem dX2_count_78 : decode cX2_count 78 = .ok (.aload_n 0, 1) := by decide +kernel
theorem dX2_count_79 : decode cX2_count 79 = .ok (.getfield 97, 3) := by decide +kernel
theorem dX2_count_82 : decode cX2_count 82 = .ok (.ireturn, 1) := by decide +kernel
theorem dX2_count_83 : decode cX2_count 83 = .ok (.bipush (-2), 2) := by decide +kernel
theorem dX2_count_85 : decode cX2_count 85 = .ok (.ireturn, 1) := by decide +kernel
theorem dX2_nodeAt_0 : decode cX2_nodeAt 0 = .ok (.iload_n 1, 1) := by decide +kernel
theorem dX2_nodeAt_1 : decode cX2_nodeAt 1 = .ok (.ifCond .lt 21, 3) := by decide +kernel
theorem dX2_nodeAt_4 : decode cX2_nodeAt 4 = .ok (.iload_n 1, 1) := by decide +kernel
theorem dX2_nodeAt_5 : decode cX2_nodeAt 5 = .ok (.aload_n 0, 1) := by decide +kernel
theorem dX2_nodeAt_6 : decode cX2_nodeAt 6 = .ok (.getfield 27, 3) := by decide +kernel
theorem dX2_nodeAt_9 : decode cX2_nodeAt 9 = .ok (.arraylength, 1) := by decide +kernel
theorem dX2_nodeAt_10 : decode cX2_nodeAt 10 = .ok (.if_icmp .ge 12, 3) := by decide +kernel
theorem dX2_nodeAt_13 : decode cX2_nodeAt 13 = .ok (.aload_n 0, 1) := by decide +kernel
theorem dX2_nodeAt_14 : decode cX2_nodeAt 14 = .ok (.getfield 27, 3) := by decide +kernel
theorem dX2_nodeAt_17 : decode cX2_nodeAt 17 = .ok (.iload_n 1, 1) := by decide +kernel
theorem dX2_nodeAt_18 : decode cX2_nodeAt 18 = .ok (.aaload, 1) := by decide +kernel
theorem dX2_nodeAt_19 : decode cX2_nodeAt 19 = .ok (.goto 4, 3) := by decide +kernel
theorem dX2_nodeAt_22 : decode cX2_nodeAt 22 = .ok (.aconst_null, 1) := by decide +kernel
theorem dX2_nodeAt_23 : decode cX2_nodeAt 23 = .ok (.areturn, 1) := by decide +kernel
theorem dX2_areNodes_0 : decode cX2_areNodes 0 = .ok (.iload_n 1, 1) := by decide +kernel
theorem dX2_areNodes_1 : decode cX2_areNodes 1 = .ok (.ifCond .lt 18, 3) := by decide +kernel
theorem dX2_areNodes_4 : decode cX2_areNodes 4 = .ok (.iload_n 1, 1) := by decide +kernel
theorem dX2_areNodes_5 : decode cX2_areNodes 5 = .ok (.iconst 1, 1) := by decide +kernel
theorem dX2_areNodes_6 : decode cX2_areNodes 6 = .ok (.aload_n 0, 1) := by decide +kernel
theorem dX2_areNodes_7 : decode cX2_areNodes 7 = .ok (.getfield 27, 3) := by decide +kernel
theorem dX2_areNodes_10 : decode cX2_areNodes 10 = .ok (.arraylength, 1) := by decide +kernel
theorem dX2_areNodes_11 : decode cX2_areNodes 11 = .ok (.ishl, 1) := by decide +kernel
theorem dX2_areNodes_12 : decode cX2_areNodes 12 = .ok (.if_icmp .ge 7, 3) := by decide +kernel
theorem dX2_areNodes_15 : decode cX2_areNodes 15 = .ok (.iconst 1, 1) := by decide +kernel
theorem dX2_areNodes_16 : decode cX2_areNodes 16 = .ok (.goto 4, 3) := by decide +kernel
theorem dX2_areNodes_19 : decode cX2_areNodes 19 = .ok (.iconst 0, 1) := by decide +kernel
theorem dX2_areNodes_20 : decode cX2_areNodes 20 = .ok (.ireturn, 1) := by decide +kernel
theorem dX2_isEpoch_0 : decode cX2_isEpoch 0 = .ok (.iload_n 0, 1) := by decide +kernel
theorem dX2_isEpoch_1 : decode cX2_isEpoch 1 = .ok (.iconst 1, 1) := by decide +kernel
theorem dX2_isEpoch_2 : decode cX2_isEpoch 2 = .ok (.if_icmp .lt 13, 3) := by decide +kernel
theorem dX2_isEpoch_5 : decode cX2_isEpoch 5 = .ok (.iload_n 0, 1) := by decide +kernel
theorem dX2_isEpoch_6 : decode cX2_isEpoch 6 = .ok (.bipush 40, 2) := by decide +kernel
theorem dX2_isEpoch_8 : decode cX2_isEpoch 8 = .ok (.if_icmp .gt 7, 3) := by decide +kernel
theorem dX2_isEpoch_11 : decode cX2_isEpoch 11 = .ok (.iconst 1, 1) := by decide +kernel
theorem dX2_isEpoch_12 : decode cX2_isEpoch 12 = .ok (.goto 4, 3) := by decide +kernel
theorem dX2_isEpoch_15 : decode cX2_isEpoch 15 = .ok (.iconst 0, 1) := by decide +kernel
theorem dX2_isEpoch_16 : decode cX2_isEpoch 16 = .ok (.ireturn, 1) := by decide +kernel
theorem dX2_holds_0 : decode cX2_holds 0 = .ok (.lload_n 0, 1) := by decide +kernel
theorem dX2_holds_1 : decode cX2_holds 1 = .ok (.iload_n 2, 1) := by decide +kernel
theorem dX2_holds_2 : decode cX2_holds 2 = .ok (.lushr, 1) := by decide +kernel
theorem dX2_holds_3 : decode cX2_holds 3 = .ok (.lconst 1, 1) := by decide +kernel
theorem dX2_holds_4 : decode cX2_holds 4 = .ok (.land, 1) := by decide +kernel
theorem dX2_holds_5 : decode cX2_holds 5 = .ok (.lconst 0, 1) := by decide +kernel
theorem dX2_holds_6 : decode cX2_holds 6 = .ok (.lcmp, 1) := by decide +kernel
theorem dX2_holds_7 : decode cX2_holds 7 = .ok (.ifCond .eq 7, 3) := by decide +kernel
theorem dX2_holds_10 : decode cX2_holds 10 = .ok (.iconst 1, 1) := by decide +kernel
theorem dX2_holds_11 : decode cX2_holds 11 = .ok (.goto 4, 3) := by decide +kernel
theorem dX2_holds_14 : decode cX2_holds 14 = .ok (.iconst 0, 1) := by decide +kernel
theorem dX2_holds_15 : decode cX2_holds 15 = .ok (.ireturn, 1) := by decide +kernel
theorem dX2_wishAt_0 : decode cX2_wishAt 0 = .ok (.iload_n 1, 1) := by decide +kernel
theorem dX2_wishAt_1 : decode cX2_wishAt 1 = .ok (.istore_n 2, 1) := by decide +kernel
theorem dX2_wishAt_2 : decode cX2_wishAt 2 = .ok (.iconst 0, 1) := by decide +kernel
theorem dX2_wishAt_3 : decode cX2_wishAt 3 = .ok (.istore_n 3, 1) := by decide +kernel
theorem dX2_wishAt_4 : decode cX2_wishAt 4 = .ok (.iload_n 3, 1) := by decide +kernel
theorem dX2_wishAt_5 : decode cX2_wishAt 5 = .ok (.bipush 32, 2) := by decide +kernel
theorem dX2_wishAt_7 : decode cX2_wishAt 7 = .ok (.if_icmp .ge 27, 3) := by decide +kernel
theorem dX2_wishAt_10 : decode cX2_wishAt 10 = .ok (.iload_n 0, 1) := by decide +kernel
theorem dX2_wishAt_11 : decode cX2_wishAt 11 = .ok (.i2l, 1) := by decide +kernel
theorem dX2_wishAt_12 : decode cX2_wishAt 12 = .ok (.iload_n 3, 1) := by decide +kernel
theorem dX2_wishAt_13 : decode cX2_wishAt 13 = .ok (.invokestatic 78, 3) := by decide +kernel
theorem dX2_wishAt_16 : decode cX2_wishAt 16 = .ok (.ifCond .eq 12, 3) := by decide +kernel
theorem dX2_wishAt_19 : decode cX2_wishAt 19 = .ok (.iload_n 2, 1) := by decide +kernel
theorem dX2_wishAt_20 : decode cX2_wishAt 20 = .ok (.ifCond .ne 5, 3) := by decide +kernel
theorem dX2_wishAt_23 : decode cX2_wishAt 23 = .ok (.iload_n 3, 1) := by decide +kernel
theorem dX2_wishAt_24 : decode cX2_wishAt 24 = .ok (.ireturn, 1) := by decide +kernel
theorem dX2_wishAt_25 : decode cX2_wishAt 25 = .ok (.iinc 2 (-1), 3) := by decide +kernel
theorem dX2_wishAt_28 : decode cX2_wishAt 28 = .ok (.iinc 3 1, 3) := by decide +kernel
theorem dX2_wishAt_31 : decode cX2_wishAt 31 = .ok (.goto (-27), 3) := by decide +kernel
theorem dX2_wishAt_34 : decode cX2_wishAt 34 = .ok (.iconst (-1), 1) := by decide +kernel
theorem dX2_wishAt_35 : decode cX2_wishAt 35 = .ok (.ireturn, 1) := by decide +kernel
theorem dX2_letAllCome_0 : decode cX2_letAllCome 0 = .ok (.aload_n 0, 1) := by decide +kernel
theorem dX2_letAllCome_1 : decode cX2_letAllCome 1 = .ok (.getfield 97, 3) := by decide +kernel
theorem dX2_letAllCome_4 : decode cX2_letAllCome 4 = .ok (.istore_n 2, 1) := by decide +kernel
theorem dX2_letAllCome_5 : decode cX2_letAllCome 5 = .ok (.iconst 1, 1) := by decide +kernel
theorem dX2_letAllCome_6 : decode cX2_letAllCome 6 = .ok (.istore_n 3, 1) := by decide +kernel
theorem dX2_letAllCome_7 : decode cX2_letAllCome 7 = .ok (.iload_n 3, 1) := by decide +kernel
theorem dX2_letAllCome_8 : decode cX2_letAllCome 8 = .ok (.aload_n 0, 1) := by decide +kernel
theorem dX2_letAllCome_9 : decode cX2_letAllCome 9 = .ok (.getfield 21, 3) := by decide +kernel
theorem dX2_letAllCome_12 : decode cX2_letAllCome 12 = .ok (.getfield 173, 3) := by decide +kernel
theorem dX2_letAllCome_15 : decode cX2_letAllCome 15 = .ok (.if_icmp .ge 77, 3) := by decide +kernel
theorem dX2_letAllCome_18 : decode cX2_letAllCome 18 = .ok (.aload_n 1, 1) := by decide +kernel
theorem dX2_letAllCome_19 : decode cX2_letAllCome 19 = .ok (.getfield 74, 3) := by decide +kernel
theorem dX2_letAllCome_22 : decode cX2_letAllCome 22 = .ok (.iload_n 3, 1) := by decide +kernel
theorem dX2_letAllCome_23 : decode cX2_letAllCome 23 = .ok (.invokestatic 78, 3) := by decide +kernel
theorem dX2_letAllCome_26 : decode cX2_letAllCome 26 = .ok (.ifCond .eq 9, 3) := by decide +kernel
theorem dX2_letAllCome_29 : decode cX2_letAllCome 29 = .ok (.aload_n 0, 1) := by decide +kernel
theorem dX2_letAllCome_30 : decode cX2_letAllCome 30 = .ok (.aload_n 1, 1) := by decide +kernel
theorem dX2_letAllCome_31 : decode cX2_letAllCome 31 = .ok (.iload_n 3, 1) := by decide +kernel
theorem dX2_letAllCome_32 : decode cX2_letAllCome 32 = .ok (.invokevirtual 82, 3) := by decide +kernel
theorem dX2_letAllCome_35 : decode cX2_letAllCome 35 = .ok (.iconst 0, 1) := by decide +kernel
theorem dX2_letAllCome_36 : decode cX2_letAllCome 36 = .ok (.istore 4, 2) := by decide +kernel
theorem dX2_letAllCome_38 : decode cX2_letAllCome 38 = .ok (.iload 4, 2) := by decide +kernel
theorem dX2_letAllCome_40 : decode cX2_letAllCome 40 = .ok (.aload_n 0, 1) := by decide +kernel
theorem dX2_letAllCome_41 : decode cX2_letAllCome 41 = .ok (.getfield 27, 3) := by decide +kernel
theorem dX2_letAllCome_44 : decode cX2_letAllCome 44 = .ok (.arraylength, 1) := by decide +kernel
theorem dX2_letAllCome_45 : decode cX2_letAllCome 45 = .ok (.if_icmp .ge 41, 3) := by decide +kernel
theorem dX2_letAllCome_48 : decode cX2_letAllCome 48 = .ok (.aload_n 1, 1) := by decide +kernel
theorem dX2_letAllCome_49 : decode cX2_letAllCome 49 = .ok (.getfield 86, 3) := by decide +kernel
theorem dX2_letAllCome_52 : decode cX2_letAllCome 52 = .ok (.iload_n 3, 1) := by decide +kernel
theorem dX2_letAllCome_53 : decode cX2_letAllCome 53 = .ok (.iaload, 1) := by decide +kernel
theorem dX2_letAllCome_54 : decode cX2_letAllCome 54 = .ok (.ifCond .eq 32, 3) := by decide +kernel
theorem dX2_letAllCome_57 : decode cX2_letAllCome 57 = .ok (.aload_n 1, 1) := by decide +kernel
theorem dX2_letAllCome_58 : decode cX2_letAllCome 58 = .ok (.getfield 86, 3) := by decide +kernel
theorem dX2_letAllCome_61 : decode cX2_letAllCome 61 = .ok (.iload_n 3, 1) := by decide +kernel
theorem dX2_letAllCome_62 : decode cX2_letAllCome 62 = .ok (.iaload, 1) := by decide +kernel
theorem dX2_letAllCome_63 : decode cX2_letAllCome 63 = .ok (.i2l, 1) := by decide +kernel
theorem dX2_letAllCome_64 : decode cX2_letAllCome 64 = .ok (.iload 4, 2) := by decide +kernel
theorem dX2_letAllCome_66 : decode cX2_letAllCome 66 = .ok (.invokestatic 78, 3) := by decide +kernel
theorem dX2_letAllCome_69 : decode cX2_letAllCome 69 = .ok (.ifCond .eq 11, 3) := by decide +kernel
theorem dX2_letAllCome_72 : decode cX2_letAllCome 72 = .ok (.aload_n 0, 1) := by decide +kernel
theorem dX2_letAllCome_73 : decode cX2_letAllCome 73 = .ok (.aload_n 1, 1) := by decide +kernel
theorem dX2_letAllCome_74 : decode cX2_letAllCome 74 = .ok (.iload 4, 2) := by decide +kernel
theorem dX2_letAllCome_76 : decode cX2_letAllCome 76 = .ok (.iload_n 3, 1) := by decide +kernel
theorem dX2_letAllCome_77 : decode cX2_letAllCome 77 = .ok (.invokevirtual 89, 3) := by decide +kernel
theorem dX2_letAllCome_80 : decode cX2_letAllCome 80 = .ok (.iinc 4 1, 3) := by decide +kernel
theorem dX2_letAllCome_83 : decode cX2_letAllCome 83 = .ok (.goto (-45), 3) := by decide +kernel
theorem dX2_letAllCome_86 : decode cX2_letAllCome 86 = .ok (.iinc 3 1, 3) := by decide +kernel
theorem dX2_letAllCome_89 : decode cX2_letAllCome 89 = .ok (.goto (-82), 3) := by decide +kernel
theorem dX2_letAllCome_92 : decode cX2_letAllCome 92 = .ok (.aload_n 0, 1) := by decide +kernel
theorem dX2_letAllCome_93 : decode cX2_letAllCome 93 = .ok (.getfield 97, 3) := by decide +kernel
theorem dX2_letAllCome_96 : decode cX2_letAllCome 96 = .ok (.iload_n 2, 1) := by decide +kernel
theorem dX2_letAllCome_97 : decode cX2_letAllCome 97 = .ok (.isub, 1) := by decide +kernel
theorem dX2_letAllCome_98 : decode cX2_letAllCome 98 = .ok (.ireturn, 1) := by decide +kernel
theorem dX2_letProposalCome_0 : decode cX2_letProposalCome 0 = .ok (.aload_n 0, 1) := by decide +kernel
theorem dX2_letProposalCome_1 : decode cX2_letProposalCome 1 = .ok (.dup, 1) := by decide +kernel
theorem dX2_letProposalCome_2 : decode cX2_letProposalCome 2 = .ok (.getfield 97, 3) := by decide +kernel
theorem dX2_letProposalCome_5 : decode cX2_letProposalCome 5 = .ok (.iconst 1, 1) := by decide +kernel
theorem dX2_letProposalCome_6 : decode cX2_letProposalCome 6 = .ok (.iadd, 1) := by decide +kernel
theorem dX2_letProposalCome_7 : decode cX2_letProposalCome 7 = .ok (.putfield 97, 3) := by decide +kernel
theorem dX2_letProposalCome_10 : decode cX2_letProposalCome 10 = .ok (.aload_n 0, 1) := by decide +kernel
theorem dX2_letProposalCome_11 : decode cX2_letProposalCome 11 = .ok (.aload_n 1, 1) := by decide +kernel
theorem dX2_letProposalCome_12 : decode cX2_letProposalCome 12 = .ok (.iload_n 2, 1) := by decide +kernel
theorem dX2_letProposalCome_13 : decode cX2_letProposalCome 13 = .ok (.invokevirtual 111, 3) := by decide +kernel
theorem dX2_letProposalCome_16 : decode cX2_letProposalCome 16 = .ok (.aload_n 0, 1) := by decide +kernel
theorem dX2_letProposalCome_17 : decode cX2_letProposalCome 17 = .ok (.aload_n 1, 1) := by decide +kernel
theorem dX2_letProposalCome_18 : decode cX2_letProposalCome 18 = .ok (.invokevirtual 68, 3) := by decide +kernel
theorem dX2_letProposalCome_21 : decode cX2_letProposalCome 21 = .ok (.return_, 1) := by decide +kernel
theorem dX2_letVoteCome_0 : decode cX2_letVoteCome 0 = .ok (.aload_n 0, 1) := by decide +kernel
theorem dX2_letVoteCome_1 : decode cX2_letVoteCome 1 = .ok (.dup, 1) := by decide +kernel
theorem dX2_letVoteCome_2 : decode cX2_letVoteCome 2 = .ok (.getfield 97, 3) := by decide +kernel
theorem dX2_letVoteCome_5 : decode cX2_letVoteCome 5 = .ok (.iconst 1, 1) := by decide +kernel
theorem dX2_letVoteCome_6 : decode cX2_letVoteCome 6 = .ok (.iadd, 1) := by decide +kernel
theorem dX2_letVoteCome_7 : decode cX2_letVoteCome 7 = .ok (.putfield 97, 3) := by decide +kernel
theorem dX2_letVoteCome_10 : decode cX2_letVoteCome 10 = .ok (.aload_n 0, 1) := by decide +kernel
theorem dX2_letVoteCome_11 : decode cX2_letVoteCome 11 = .ok (.aload_n 1, 1) := by decide +kernel
theorem dX2_letVoteCome_12 : decode cX2_letVoteCome 12 = .ok (.iload_n 2, 1) := by decide +kernel
theorem dX2_letVoteCome_13 : decode cX2_letVoteCome 13 = .ok (.iload_n 3, 1) := by decide +kernel
theorem dX2_letVoteCome_14 : decode cX2_letVoteCome 14 = .ok (.invokevirtual 117, 3) := by decide +kernel
theorem dX2_letVoteCome_17 : decode cX2_letVoteCome 17 = .ok (.aload_n 0, 1) := by decide +kernel
theorem dX2_letVoteCome_18 : decode cX2_letVoteCome 18 = .ok (.aload_n 1, 1) := by decide +kernel
theorem dX2_letVoteCome_19 : decode cX2_letVoteCome 19 = .ok (.invokevirtual 68, 3) := by decide +kernel
theorem dX2_letVoteCome_22 : decode cX2_letVoteCome 22 = .ok (.return_, 1) := by decide +kernel
theorem dX2_takeProposal_0 : decode cX2_takeProposal 0 = .ok (.aload_n 1, 1) := by decide +kernel
theorem dX2_takeProposal_1 : decode cX2_takeProposal 1 = .ok (.iload_n 2, 1) := by decide +kernel
theorem dX2_takeProposal_2 : decode cX2_takeProposal 2 = .ok (.invokevirtual 189, 3) := by decide +kernel
theorem dX2_takeProposal_5 : decode cX2_takeProposal 5 = .ok (.aload_n 1, 1) := by decide +kernel
theorem dX2_takeProposal_6 : decode cX2_takeProposal 6 = .ok (.getfield 53, 3) := by decide +kernel
theorem dX2_takeProposal_9 : decode cX2_takeProposal 9 = .ok (.ifCond .ne 13, 3) := by decide +kernel
theorem dX2_takeProposal_12 : decode cX2_takeProposal 12 = .ok (.aload_n 0, 1) := by decide +kernel
theorem dX2_takeProposal_13 : decode cX2_takeProposal 13 = .ok (.iload_n 2, 1) := by decide +kernel
theorem dX2_takeProposal_14 : decode cX2_takeProposal 14 = .ok (.aload_n 0, 1) := by decide +kernel
theorem dX2_takeProposal_15 : decode cX2_takeProposal 15 = .ok (.invokevirtual 193, 3) := by decide +kernel
theorem dX2_takeProposal_18 : decode cX2_takeProposal 18 = .ok (.invokevirtual 114, 3) := by decide +kernel
theorem dX2_takeProposal_21 : decode cX2_takeProposal 21 = .ok (.pop, 1) := by decide +kernel
theorem dX2_takeProposal_22 : decode cX2_takeProposal 22 = .ok (.return_, 1) := by decide +kernel
theorem dX2_takeVote_0 : decode cX2_takeVote 0 = .ok (.aload_n 1, 1) := by decide +kernel
theorem dX2_takeVote_1 : decode cX2_takeVote 1 = .ok (.iload_n 2, 1) := by decide +kernel
theorem dX2_takeVote_2 : decode cX2_takeVote 2 = .ok (.iload_n 3, 1) := by decide +kernel
theorem dX2_takeVote_3 : decode cX2_takeVote 3 = .ok (.invokevirtual 196, 3) := by decide +kernel
theorem dX2_takeVote_6 : decode cX2_takeVote 6 = .ok (.aload_n 1, 1) := by decide +kernel
theorem dX2_takeVote_7 : decode cX2_takeVote 7 = .ok (.getfield 53, 3) := by decide +kernel
theorem dX2_takeVote_10 : decode cX2_takeVote 10 = .ok (.ifCond .ne 14, 3) := by decide +kernel
theorem dX2_takeVote_13 : decode cX2_takeVote 13 = .ok (.aload_n 0, 1) := by decide +kernel
theorem dX2_takeVote_14 : decode cX2_takeVote 14 = .ok (.iload_n 2, 1) := by decide +kernel
theorem dX2_takeVote_15 : decode cX2_takeVote 15 = .ok (.iload_n 3, 1) := by decide +kernel
theorem dX2_takeVote_16 : decode cX2_takeVote 16 = .ok (.aload_n 0, 1) := by decide +kernel
theorem dX2_takeVote_17 : decode cX2_takeVote 17 = .ok (.invokevirtual 193, 3) := by decide +kernel
theorem dX2_takeVote_20 : decode cX2_takeVote 20 = .ok (.invokevirtual 120, 3) := by decide +kernel
theorem dX2_takeVote_23 : decode cX2_takeVote 23 = .ok (.pop, 1) := by decide +kernel
theorem dX2_takeVote_24 : decode cX2_takeVote 24 = .ok (.return_, 1) := by decide +kernel
theorem dX2_sendProposal_0 : decode cX2_sendProposal 0 = .ok (.iconst 0, 1) := by decide +kernel
theorem dX2_sendProposal_1 : decode cX2_sendProposal 1 = .ok (.istore_n 3, 1) := by decide +kernel
theorem dX2_sendProposal_2 : decode cX2_sendProposal 2 = .ok (.aload_n 0, 1) := by decide +kernel
theorem dX2_sendProposal_3 : decode cX2_sendProposal 3 = .ok (.getfield 27, 3) := by decide +kernel
theorem dX2_sendProposal_6 : decode cX2_sendProposal 6 = .ok (.astore 4, 2) := by decide +kernel
theorem dX2_sendProposal_8 : decode cX2_sendProposal 8 = .ok (.aload 4, 2) := by decide +kernel
theorem dX2_sendProposal_10 : decode cX2_sendProposal 10 = .ok (.arraylength, 1) := by decide +kernel
theorem dX2_sendProposal_11 : decode cX2_sendProposal 11 = .ok (.istore 5, 2) := by decide +kernel
theorem dX2_sendProposal_13 : decode cX2_sendProposal 13 = .ok (.iconst 0, 1) := by decide +kernel
theorem dX2_sendProposal_14 : decode cX2_sendProposal 14 = .ok (.istore 6, 2) := by decide +kernel
theorem dX2_sendProposal_16 : decode cX2_sendProposal 16 = .ok (.iload 6, 2) := by decide +kernel
theorem dX2_sendProposal_18 : decode cX2_sendProposal 18 = .ok (.iload 5, 2) := by decide +kernel
theorem dX2_sendProposal_20 : decode cX2_sendProposal 20 = .ok (.if_icmp .ge 41, 3) := by decide +kernel
theorem dX2_sendProposal_23 : decode cX2_sendProposal 23 = .ok (.aload 4, 2) := by decide +kernel
theorem dX2_sendProposal_25 : decode cX2_sendProposal 25 = .ok (.iload 6, 2) := by decide +kernel
theorem dX2_sendProposal_27 : decode cX2_sendProposal 27 = .ok (.aaload, 1) := by decide +kernel
theorem dX2_sendProposal_28 : decode cX2_sendProposal 28 = .ok (.astore 7, 2) := by decide +kernel
theorem dX2_sendProposal_30 : decode cX2_sendProposal 30 = .ok (.iload_n 2, 1) := by decide +kernel
theorem dX2_sendProposal_31 : decode cX2_sendProposal 31 = .ok (.i2l, 1) := by decide +kernel
theorem dX2_sendProposal_32 : decode cX2_sendProposal 32 = .ok (.aload 7, 2) := by decide +kernel
theorem dX2_sendProposal_34 : decode cX2_sendProposal 34 = .ok (.getfield 200, 3) := by decide +kernel
theorem dX2_sendProposal_37 : decode cX2_sendProposal 37 = .ok (.invokestatic 78, 3) := by decide +kernel
theorem dX2_sendProposal_40 : decode cX2_sendProposal 40 = .ok (.ifCond .eq 15, 3) := by decide +kernel
theorem dX2_sendProposal_43 : decode cX2_sendProposal 43 = .ok (.aload 7, 2) := by decide +kernel
theorem dX2_sendProposal_45 : decode cX2_sendProposal 45 = .ok (.iload_n 1, 1) := by decide +kernel
theorem dX2_sendProposal_46 : decode cX2_sendProposal 46 = .ok (.invokevirtual 203, 3) := by decide +kernel
theorem dX2_sendProposal_49 : decode cX2_sendProposal 49 = .ok (.ifCond .eq 6, 3) := by decide +kernel
theorem dX2_sendProposal_52 : decode cX2_sendProposal 52 = .ok (.iinc 3 1, 3) := by decide +kernel
theorem dX2_sendProposal_55 : decode cX2_sendProposal 55 = .ok (.iinc 6 1, 3) := by decide +kernel
theorem dX2_sendProposal_58 : decode cX2_sendProposal 58 = .ok (.goto (-42), 3) := by decide +kernel
theorem dX2_sendProposal_61 : decode cX2_sendProposal 61 = .ok (.iload_n 3, 1) := by decide +kernel
theorem dX2_sendProposal_62 : decode cX2_sendProposal 62 = .ok (.ireturn, 1) := by decide +kernel
theorem dX2_sendVote_0 : decode cX2_sendVote 0 = .ok (.iconst 0, 1) := by decide +kernel
theorem dX2_sendVote_1 : decode cX2_sendVote 1 = .ok (.istore 4, 2) := by decide +kernel
theorem dX2_sendVote_3 : decode cX2_sendVote 3 = .ok (.aload_n 0, 1) := by decide +kernel
theorem dX2_sendVote_4 : decode cX2_sendVote 4 = .ok (.getfield 27, 3) := by decide +kernel
theorem dX2_sendVote_7 : decode cX2_sendVote 7 = .ok (.astore 5, 2) := by decide +kernel
theorem dX2_sendVote_9 : decode cX2_sendVote 9 = .ok (.aload 5, 2) := by decide +kernel
theorem dX2_sendVote_11 : decode cX2_sendVote 11 = .ok (.arraylength, 1) := by decide +kernel
theorem dX2_sendVote_12 : decode cX2_sendVote 12 = .ok (.istore 6, 2) := by decide +kernel
theorem dX2_sendVote_14 : decode cX2_sendVote 14 = .ok (.iconst 0, 1) := by decide +kernel
theorem dX2_sendVote_15 : decode cX2_sendVote 15 = .ok (.istore 7, 2) := by decide +kernel
theorem dX2_sendVote_17 : decode cX2_sendVote 17 = .ok (.iload 7, 2) := by decide +kernel
theorem dX2_sendVote_19 : decode cX2_sendVote 19 = .ok (.iload 6, 2) := by decide +kernel
theorem dX2_sendVote_21 : decode cX2_sendVote 21 = .ok (.if_icmp .ge 42, 3) := by decide +kernel
theorem dX2_sendVote_24 : decode cX2_sendVote 24 = .ok (.aload 5, 2) := by decide +kernel
theorem dX2_sendVote_26 : decode cX2_sendVote 26 = .ok (.iload 7, 2) := by decide +kernel
theorem dX2_sendVote_28 : decode cX2_sendVote 28 = .ok (.aaload, 1) := by decide +kernel
theorem dX2_sendVote_29 : decode cX2_sendVote 29 = .ok (.astore 8, 2) := by decide +kernel
theorem dX2_sendVote_31 : decode cX2_sendVote 31 = .ok (.iload_n 3, 1) := by decide +kernel
theorem dX2_sendVote_32 : decode cX2_sendVote 32 = .ok (.i2l, 1) := by decide +kernel
theorem dX2_sendVote_33 : decode cX2_sendVote 33 = .ok (.aload 8, 2) := by decide +kernel
theorem dX2_sendVote_35 : decode cX2_sendVote 35 = .ok (.getfield 200, 3) := by decide +kernel
theorem dX2_sendVote_38 : decode cX2_sendVote 38 = .ok (.invokestatic 78, 3) := by decide +kernel
theorem dX2_sendVote_41 : decode cX2_sendVote 41 = .ok (.ifCond .eq 16, 3) := by decide +kernel
theorem dX2_sendVote_44 : decode cX2_sendVote 44 = .ok (.aload 8, 2) := by decide +kernel
theorem dX2_sendVote_46 : decode cX2_sendVote 46 = .ok (.iload_n 1, 1) := by decide +kernel
theorem dX2_sendVote_47 : decode cX2_sendVote 47 = .ok (.iload_n 2, 1) := by decide +kernel
theorem dX2_sendVote_48 : decode cX2_sendVote 48 = .ok (.invokevirtual 206, 3) := by decide +kernel
theorem dX2_sendVote_51 : decode cX2_sendVote 51 = .ok (.ifCond .eq 6, 3) := by decide +kernel
theorem dX2_sendVote_54 : decode cX2_sendVote 54 = .ok (.iinc 4 1, 3) := by decide +kernel
theorem dX2_sendVote_57 : decode cX2_sendVote 57 = .ok (.iinc 7 1, 3) := by decide +kernel
theorem dX2_sendVote_60 : decode cX2_sendVote 60 = .ok (.goto (-43), 3) := by decide +kernel
theorem dX2_sendVote_63 : decode cX2_sendVote 63 = .ok (.iload 4, 2) := by decide +kernel
theorem dX2_sendVote_65 : decode cX2_sendVote 65 = .ok (.ireturn, 1) := by decide +kernel
theorem dX2_allNodes_0 : decode cX2_allNodes 0 = .ok (.iconst 1, 1) := by decide +kernel
theorem dX2_allNodes_1 : decode cX2_allNodes 1 = .ok (.aload_n 0, 1) := by decide +kernel
theorem dX2_allNodes_2 : decode cX2_allNodes 2 = .ok (.getfield 27, 3) := by decide +kernel
theorem dX2_allNodes_5 : decode cX2_allNodes 5 = .ok (.arraylength, 1) := by decide +kernel
theorem dX2_allNodes_6 : decode cX2_allNodes 6 = .ok (.ishl, 1) := by decide +kernel
theorem dX2_allNodes_7 : decode cX2_allNodes 7 = .ok (.iconst 1, 1) := by decide +kernel
theorem dX2_allNodes_8 : decode cX2_allNodes 8 = .ok (.isub, 1) := by decide +kernel
theorem dX2_allNodes_9 : decode cX2_allNodes 9 = .ok (.ireturn, 1) := by decide +kernel
theorem dX2_makeOnTip_0 : decode cX2_makeOnTip 0 = .ok (.aload_n 1, 1) := by decide +kernel
theorem dX2_makeOnTip_1 : decode cX2_makeOnTip 1 = .ok (.getfield 57, 3) := by decide +kernel
theorem dX2_makeOnTip_4 : decode cX2_makeOnTip 4 = .ok (.aload_n 0, 1) := by decide +kernel
theorem dX2_makeOnTip_5 : decode cX2_makeOnTip 5 = .ok (.getfield 21, 3) := by decide +kernel
theorem dX2_makeOnTip_8 : decode cX2_makeOnTip 8 = .ok (.getfield 209, 3) := by decide +kernel
theorem dX2_makeOnTip_11 : decode cX2_makeOnTip 11 = .ok (.aload_n 1, 1) := by decide +kernel
theorem dX2_makeOnTip_12 : decode cX2_makeOnTip 12 = .ok (.getfield 163, 3) := by decide +kernel
theorem dX2_makeOnTip_15 : decode cX2_makeOnTip 15 = .ok (.iaload, 1) := by decide +kernel
theorem dX2_makeOnTip_16 : decode cX2_makeOnTip 16 = .ok (.iconst (-1), 1) := by decide +kernel
theorem dX2_makeOnTip_17 : decode cX2_makeOnTip 17 = .ok (.ixor, 1) := by decide +kernel
theorem dX2_makeOnTip_18 : decode cX2_makeOnTip 18 = .ok (.iand, 1) := by decide +kernel
theorem dX2_makeOnTip_19 : decode cX2_makeOnTip 19 = .ok (.istore_n 2, 1) := by decide +kernel
theorem dX2_makeOnTip_20 : decode cX2_makeOnTip 20 = .ok (.aload_n 0, 1) := by decide +kernel
theorem dX2_makeOnTip_21 : decode cX2_makeOnTip 21 = .ok (.getfield 21, 3) := by decide +kernel
theorem dX2_makeOnTip_24 : decode cX2_makeOnTip 24 = .ok (.aload_n 1, 1) := by decide +kernel
theorem dX2_makeOnTip_25 : decode cX2_makeOnTip 25 = .ok (.getfield 163, 3) := by decide +kernel
theorem dX2_makeOnTip_28 : decode cX2_makeOnTip 28 = .ok (.aload_n 0, 1) := by decide +kernel
theorem dX2_makeOnTip_29 : decode cX2_makeOnTip 29 = .ok (.getfield 46, 3) := by decide +kernel
theorem dX2_makeOnTip_32 : decode cX2_makeOnTip 32 = .ok (.iload_n 2, 1) := by decide +kernel
theorem dX2_makeOnTip_33 : decode cX2_makeOnTip 33 = .ok (.aload_n 1, 1) := by decide +kernel
theorem dX2_makeOnTip_34 : decode cX2_makeOnTip 34 = .ok (.getfield 200, 3) := by decide +kernel
theorem dX2_makeOnTip_37 : decode cX2_makeOnTip 37 = .ok (.invokevirtual 107, 3) := by decide +kernel
theorem dX2_makeOnTip_40 : decode cX2_makeOnTip 40 = .ok (.istore_n 3, 1) := by decide +kernel
theorem dX2_makeOnTip_41 : decode cX2_makeOnTip 41 = .ok (.aload_n 0, 1) := by decide +kernel
theorem dX2_makeOnTip_42 : decode cX2_makeOnTip 42 = .ok (.aload_n 1, 1) := by decide +kernel
theorem dX2_makeOnTip_43 : decode cX2_makeOnTip 43 = .ok (.iload_n 3, 1) := by decide +kernel
theorem dX2_makeOnTip_44 : decode cX2_makeOnTip 44 = .ok (.invokevirtual 111, 3) := by decide +kernel
theorem dX2_makeOnTip_47 : decode cX2_makeOnTip 47 = .ok (.return_, 1) := by decide +kernel
theorem dX2_look_0 : decode cX2_look 0 = .ok (.aload_n 1, 1) := by decide +kernel
theorem dX2_look_1 : decode cX2_look 1 = .ok (.getfield 53, 3) := by decide +kernel
theorem dX2_look_4 : decode cX2_look 4 = .ok (.ifCond .eq 7, 3) := by decide +kernel
theorem dX2_look_7 : decode cX2_look 7 = .ok (.iconst (-1), 1) := by decide +kernel
theorem dX2_look_8 : decode cX2_look 8 = .ok (.goto 11, 3) := by decide +kernel
theorem dX2_look_11 : decode cX2_look 11 = .ok (.aload_n 1, 1) := by decide +kernel
theorem dX2_look_12 : decode cX2_look 12 = .ok (.aload_n 0, 1) := by decide +kernel
theorem dX2_look_13 : decode cX2_look 13 = .ok (.getfield 46, 3) := by decide +kernel
theorem dX2_look_16 : decode cX2_look 16 = .ok (.invokevirtual 212, 3) := by decide +kernel
theorem dX2_look_19 : decode cX2_look 19 = .ok (.istore_n 2, 1) := by decide +kernel
theorem dX2_look_20 : decode cX2_look 20 = .ok (.iload_n 2, 1) := by decide +kernel
theorem dX2_look_21 : decode cX2_look 21 = .ok (.iconst (-1), 1) := by decide +kernel
theorem dX2_look_22 : decode cX2_look 22 = .ok (.if_icmp .eq 46, 3) := by decide +kernel
theorem dX2_look_25 : decode cX2_look 25 = .ok (.aload_n 1, 1) := by decide +kernel
theorem dX2_look_26 : decode cX2_look 26 = .ok (.getfield 160, 3) := by decide +kernel
theorem dX2_look_29 : decode cX2_look 29 = .ok (.aload_n 0, 1) := by decide +kernel
theorem dX2_look_30 : decode cX2_look 30 = .ok (.getfield 46, 3) := by decide +kernel
theorem dX2_look_33 : decode cX2_look 33 = .ok (.iload_n 2, 1) := by decide +kernel
theorem dX2_look_34 : decode cX2_look 34 = .ok (.iastore, 1) := by decide +kernel
theorem dX2_look_35 : decode cX2_look 35 = .ok (.aload_n 0, 1) := by decide +kernel
theorem dX2_look_36 : decode cX2_look 36 = .ok (.dup, 1) := by decide +kernel
theorem dX2_look_37 : decode cX2_look 37 = .ok (.getfield 186, 3) := by decide +kernel
theorem dX2_look_40 : decode cX2_look 40 = .ok (.iconst 1, 1) := by decide +kernel
theorem dX2_look_41 : decode cX2_look 41 = .ok (.iadd, 1) := by decide +kernel
theorem dX2_look_42 : decode cX2_look 42 = .ok (.putfield 186, 3) := by decide +kernel
theorem dX2_look_45 : decode cX2_look 45 = .ok (.aload_n 1, 1) := by decide +kernel
theorem dX2_look_46 : decode cX2_look 46 = .ok (.aload_n 1, 1) := by decide +kernel
theorem dX2_look_47 : decode cX2_look 47 = .ok (.getfield 200, 3) := by decide +kernel
theorem dX2_look_50 : decode cX2_look 50 = .ok (.iload_n 2, 1) := by decide +kernel
theorem dX2_look_51 : decode cX2_look 51 = .ok (.invokevirtual 196, 3) := by decide +kernel
theorem dX2_look_54 : decode cX2_look 54 = .ok (.aload_n 0, 1) := by decide +kernel
theorem dX2_look_55 : decode cX2_look 55 = .ok (.aload_n 1, 1) := by decide +kernel
theorem dX2_look_56 : decode cX2_look 56 = .ok (.getfield 200, 3) := by decide +kernel
theorem dX2_look_59 : decode cX2_look 59 = .ok (.iload_n 2, 1) := by decide +kernel
theorem dX2_look_60 : decode cX2_look 60 = .ok (.aload_n 0, 1) := by decide +kernel
theorem dX2_look_61 : decode cX2_look 61 = .ok (.invokevirtual 193, 3) := by decide +kernel
theorem dX2_look_64 : decode cX2_look 64 = .ok (.invokevirtual 120, 3) := by decide +kernel
theorem dX2_look_67 : decode cX2_look 67 = .ok (.pop, 1) := by decide +kernel
theorem dX2_look_68 : decode cX2_look 68 = .ok (.return_, 1) := by decide +kernel
theorem dX2_falseNodes_0 : decode cX2_falseNodes 0 = .ok (.iconst 0, 1) := by decide +kernel
theorem dX2_falseNodes_1 : decode cX2_falseNodes 1 = .ok (.istore_n 1, 1) := by decide +kernel
theorem dX2_falseNodes_2 : decode cX2_falseNodes 2 = .ok (.aload_n 0, 1) := by decide +kernel
theorem dX2_falseNodes_3 : decode cX2_falseNodes 3 = .ok (.getfield 27, 3) := by decide +kernel
theorem dX2_falseNodes_6 : decode cX2_falseNodes 6 = .ok (.astore_n 2, 1) := by decide +kernel
theorem dX2_falseNodes_7 : decode cX2_falseNodes 7 = .ok (.aload_n 2, 1) := by decide +kernel
theorem dX2_falseNodes_8 : decode cX2_falseNodes 8 = .ok (.arraylength, 1) := by decide +kernel
theorem dX2_falseNodes_9 : decode cX2_falseNodes 9 = .ok (.istore_n 3, 1) := by decide +kernel
theorem dX2_falseNodes_10 : decode cX2_falseNodes 10 = .ok (.iconst 0, 1) := by decide +kernel
theorem dX2_falseNodes_11 : decode cX2_falseNodes 11 = .ok (.istore 4, 2) := by decide +kernel
theorem dX2_falseNodes_13 : decode cX2_falseNodes 13 = .ok (.iload 4, 2) := by decide +kernel
theorem dX2_falseNodes_15 : decode cX2_falseNodes 15 = .ok (.iload_n 3, 1) := by decide +kernel
theorem dX2_falseNodes_16 : decode cX2_falseNodes 16 = .ok (.if_icmp .ge 26, 3) := by decide +kernel
theorem dX2_falseNodes_19 : decode cX2_falseNodes 19 = .ok (.aload_n 2, 1) := by decide +kernel
theorem dX2_falseNodes_20 : decode cX2_falseNodes 20 = .ok (.iload 4, 2) := by decide +kernel
theorem dX2_falseNodes_22 : decode cX2_falseNodes 22 = .ok (.aaload, 1) := by decide +kernel
theorem dX2_falseNodes_23 : decode cX2_falseNodes 23 = .ok (.astore 5, 2) := by decide +kernel
theorem dX2_falseNodes_25 : decode cX2_falseNodes 25 = .ok (.aload 5, 2) := by decide +kernel
theorem dX2_falseNodes_27 : decode cX2_falseNodes 27 = .ok (.getfield 53, 3) := by decide +kernel
theorem dX2_falseNodes_30 : decode cX2_falseNodes 30 = .ok (.ifCond .eq 6, 3) := by decide +kernel
theorem dX2_falseNodes_33 : decode cX2_falseNodes 33 = .ok (.iinc 1 1, 3) := by decide +kernel
theorem dX2_falseNodes_36 : decode cX2_falseNodes 36 = .ok (.iinc 4 1, 3) := by decide +kernel
theorem dX2_falseNodes_39 : decode cX2_falseNodes 39 = .ok (.goto (-26), 3) := by decide +kernel
theorem dX2_falseNodes_42 : decode cX2_falseNodes 42 = .ok (.iload_n 1, 1) := by decide +kernel
theorem dX2_falseNodes_43 : decode cX2_falseNodes 43 = .ok (.ireturn, 1) := by decide +kernel
theorem dX2_lettersUnderWay_0 : decode cX2_lettersUnderWay 0 = .ok (.iconst 0, 1) := by decide +kernel
theorem dX2_lettersUnderWay_1 : decode cX2_lettersUnderWay 1 = .ok (.istore_n 1, 1) := by decide +kernel
theorem dX2_lettersUnderWay_2 : decode cX2_lettersUnderWay 2 = .ok (.aload_n 0, 1) := by decide +kernel
theorem dX2_lettersUnderWay_3 : decode cX2_lettersUnderWay 3 = .ok (.getfield 27, 3) := by decide +kernel
theorem dX2_lettersUnderWay_6 : decode cX2_lettersUnderWay 6 = .ok (.astore_n 2, 1) := by decide +kernel
theorem dX2_lettersUnderWay_7 : decode cX2_lettersUnderWay 7 = .ok (.aload_n 2, 1) := by decide +kernel
theorem dX2_lettersUnderWay_8 : decode cX2_lettersUnderWay 8 = .ok (.arraylength, 1) := by decide +kernel
theorem dX2_lettersUnderWay_9 : decode cX2_lettersUnderWay 9 = .ok (.istore_n 3, 1) := by decide +kernel
theorem dX2_lettersUnderWay_10 : decode cX2_lettersUnderWay 10 = .ok (.iconst 0, 1) := by decide +kernel
theorem dX2_lettersUnderWay_11 : decode cX2_lettersUnderWay 11 = .ok (.istore 4, 2) := by decide +kernel
theorem dX2_lettersUnderWay_13 : decode cX2_lettersUnderWay 13 = .ok (.iload 4, 2) := by decide +kernel
theorem dX2_lettersUnderWay_15 : decode cX2_lettersUnderWay 15 = .ok (.iload_n 3, 1) := by decide +kernel
theorem dX2_lettersUnderWay_16 : decode cX2_lettersUnderWay 16 = .ok (.if_icmp .ge 61, 3) := by decide +kernel
theorem dX2_lettersUnderWay_19 : decode cX2_lettersUnderWay 19 = .ok (.aload_n 2, 1) := by decide +kernel
theorem dX2_lettersUnderWay_20 : decode cX2_lettersUnderWay 20 = .ok (.iload 4, 2) := by decide +kernel
theorem dX2_lettersUnderWay_22 : decode cX2_lettersUnderWay 22 = .ok (.aaload, 1) := by decide +kernel
theorem dX2_lettersUnderWay_23 : decode cX2_lettersUnderWay 23 = .ok (.astore 5, 2) := by decide +kernel
theorem dX2_lettersUnderWay_25 : decode cX2_lettersUnderWay 25 = .ok (.iload_n 1, 1) := by decide +kernel
theorem dX2_lettersUnderWay_26 : decode cX2_lettersUnderWay 26 = .ok (.aload 5, 2) := by decide +kernel
theorem dX2_lettersUnderWay_28 : decode cX2_lettersUnderWay 28 = .ok (.getfield 74, 3) := by decide +kernel
theorem dX2_lettersUnderWay_31 : decode cX2_lettersUnderWay 31 = .ok (.invokestatic 215, 3) := by decide +kernel
theorem dX2_lettersUnderWay_34 : decode cX2_lettersUnderWay 34 = .ok (.iadd, 1) := by decide +kernel
theorem dX2_lettersUnderWay_35 : decode cX2_lettersUnderWay 35 = .ok (.istore_n 1, 1) := by decide +kernel
theorem dX2_lettersUnderWay_36 : decode cX2_lettersUnderWay 36 = .ok (.iconst 0, 1) := by decide +kernel
theorem dX2_lettersUnderWay_37 : decode cX2_lettersUnderWay 37 = .ok (.istore 6, 2) := by decide +kernel
theorem dX2_lettersUnderWay_39 : decode cX2_lettersUnderWay 39 = .ok (.iload 6, 2) := by decide +kernel
theorem dX2_lettersUnderWay_41 : decode cX2_lettersUnderWay 41 = .ok (.aload_n 0, 1) := by decide +kernel
theorem dX2_lettersUnderWay_42 : decode cX2_lettersUnderWay 42 = .ok (.getfield 21, 3) := by decide +kernel
theorem dX2_lettersUnderWay_45 : decode cX2_lettersUnderWay 45 = .ok (.getfield 173, 3) := by decide +kernel
theorem dX2_lettersUnderWay_48 : decode cX2_lettersUnderWay 48 = .ok (.if_icmp .ge 23, 3) := by decide +kernel
theorem dX2_lettersUnderWay_51 : decode cX2_lettersUnderWay 51 = .ok (.iload_n 1, 1) := by decide +kernel
theorem dX2_lettersUnderWay_52 : decode cX2_lettersUnderWay 52 = .ok (.aload 5, 2) := by decide +kernel
theorem dX2_lettersUnderWay_54 : decode cX2_lettersUnderWay 54 = .ok (.getfield 86, 3) := by decide +kernel
theorem dX2_lettersUnderWay_57 : decode cX2_lettersUnderWay 57 = .ok (.iload 6, 2) := by decide +kernel
theorem dX2_lettersUnderWay_59 : decode cX2_lettersUnderWay 59 = .ok (.iaload, 1) := by decide +kernel
theorem dX2_lettersUnderWay_60 : decode cX2_lettersUnderWay 60 = .ok (.invokestatic 154, 3) := by decide +kernel
theorem dX2_lettersUnderWay_63 : decode cX2_lettersUnderWay 63 = .ok (.iadd, 1) := by decide +kernel
theorem dX2_lettersUnderWay_64 : decode cX2_lettersUnderWay 64 = .ok (.istore_n 1, 1) := by decide +kernel
theorem dX2_lettersUnderWay_65 : decode cX2_lettersUnderWay 65 = .ok (.iinc 6 1, 3) := by decide +kernel
theorem dX2_lettersUnderWay_68 : decode cX2_lettersUnderWay 68 = .ok (.goto (-29), 3) := by decide +kernel
theorem dX2_lettersUnderWay_71 : decode cX2_lettersUnderWay 71 = .ok (.iinc 4 1, 3) := by decide +kernel
theorem dX2_lettersUnderWay_74 : decode cX2_lettersUnderWay 74 = .ok (.goto (-61), 3) := by decide +kernel
theorem dX2_lettersUnderWay_77 : decode cX2_lettersUnderWay 77 = .ok (.iload_n 1, 1) := by decide +kernel
theorem dX2_lettersUnderWay_78 : decode cX2_lettersUnderWay 78 = .ok (.ireturn, 1) := by decide +kernel
theorem dX2_areInLine_0 : decode cX2_areInLine 0 = .ok (.aload_n 0, 1) := by decide +kernel
theorem dX2_areInLine_1 : decode cX2_areInLine 1 = .ok (.getfield 21, 3) := by decide +kernel
theorem dX2_areInLine_4 : decode cX2_areInLine 4 = .ok (.getfield 169, 3) := by decide +kernel
theorem dX2_areInLine_7 : decode cX2_areInLine 7 = .ok (.iload_n 1, 1) := by decide +kernel
theorem dX2_areInLine_8 : decode cX2_areInLine 8 = .ok (.laload, 1) := by decide +kernel
theorem dX2_areInLine_9 : decode cX2_areInLine 9 = .ok (.iload_n 2, 1) := by decide +kernel
theorem dX2_areInLine_10 : decode cX2_areInLine 10 = .ok (.invokestatic 78, 3) := by decide +kernel
theorem dX2_areInLine_13 : decode cX2_areInLine 13 = .ok (.ifCond .ne 19, 3) := by decide +kernel
theorem dX2_areInLine_16 : decode cX2_areInLine 16 = .ok (.aload_n 0, 1) := by decide +kernel
theorem dX2_areInLine_17 : decode cX2_areInLine 17 = .ok (.getfield 21, 3) := by decide +kernel
theorem dX2_areInLine_20 : decode cX2_areInLine 20 = .ok (.getfield 169, 3) := by decide +kernel
theorem dX2_areInLine_23 : decode cX2_areInLine 23 = .ok (.iload_n 2, 1) := by decide +kernel
theorem dX2_areInLine_24 : decode cX2_areInLine 24 = .ok (.laload, 1) := by decide +kernel
theorem dX2_areInLine_25 : decode cX2_areInLine 25 = .ok (.iload_n 1, 1) := by decide +kernel
theorem dX2_areInLine_26 : decode cX2_areInLine 26 = .ok (.invokestatic 78, 3) := by decide +kernel
theorem dX2_areInLine_29 : decode cX2_areInLine 29 = .ok (.ifCond .eq 7, 3) := by decide +kernel
theorem dX2_areInLine_32 : decode cX2_areInLine 32 = .ok (.iconst 1, 1) := by decide +kernel
theorem dX2_areInLine_33 : decode cX2_areInLine 33 = .ok (.goto 4, 3) := by decide +kernel
theorem dX2_areInLine_36 : decode cX2_areInLine 36 = .ok (.iconst 0, 1) := by decide +kernel
theorem dX2_areInLine_37 : decode cX2_areInLine 37 = .ok (.ireturn, 1) := by decide +kernel
end
section
theorem dX3_in_0 : decode cX3_in 0 = .ok (.lload_n 0, 1) := by decide +kernel
theorem dX3_in_1 : decode cX3_in 1 = .ok (.lload_n 2, 1) := by decide +kernel
theorem dX3_in_2 : decode cX3_in 2 = .ok (.lcmp, 1) := by decide +kernel
theorem dX3_in_3 : decode cX3_in 3 = .ok (.ifCond .lt 14, 3) := by decide +kernel
theorem dX3_in_6 : decode cX3_in 6 = .ok (.lload_n 0, 1) := by decide +kernel
theorem dX3_in_7 : decode cX3_in 7 = .ok (.lload 4, 2) := by decide +kernel
theorem dX3_in_9 : decode cX3_in 9 = .ok (.lcmp, 1) := by decide +kernel
theorem dX3_in_10 : decode cX3_in 10 = .ok (.ifCond .gt 7, 3) := by decide +kernel
theorem dX3_in_13 : decode cX3_in 13 = .ok (.iconst 1, 1) := by decide +kernel
theorem dX3_in_14 : decode cX3_in 14 = .ok (.goto 4, 3) := by decide +kernel
theorem dX3_in_17 : decode cX3_in 17 = .ok (.iconst 0, 1) := by decide +kernel
theorem dX3_in_18 : decode cX3_in 18 = .ok (.ireturn, 1) := by decide +kernel
theorem dX3_init_0 : decode cX3_init 0 = .ok (.aload_n 0, 1) := by decide +kernel
theorem dX3_init_1 : decode cX3_init 1 = .ok (.invokespecial 7, 3) := by decide +kernel
theorem dX3_init_4 : decode cX3_init 4 = .ok (.aload_n 0, 1) := by decide +kernel
theorem dX3_init_5 : decode cX3_init 5 = .ok (.bipush 10, 2) := by decide +kernel
theorem dX3_init_7 : decode cX3_init 7 = .ok (.newarray .boolean, 2) := by decide +kernel
theorem dX3_init_9 : decode cX3_init 9 = .ok (.putfield 13, 3) := by decide +kernel
theorem dX3_init_12 : decode cX3_init 12 = .ok (.aload_n 0, 1) := by decide +kernel
theorem dX3_init_13 : decode cX3_init 13 = .ok (.bipush 10, 2) := by decide +kernel
theorem dX3_init_15 : decode cX3_init 15 = .ok (.newarray .int, 2) := by decide +kernel
theorem dX3_init_17 : decode cX3_init 17 = .ok (.putfield 17, 3) := by decide +kernel
theorem dX3_init_20 : decode cX3_init 20 = .ok (.aload_n 0, 1) := by decide +kernel
theorem dX3_init_21 : decode cX3_init 21 = .ok (.bipush 41, 2) := by decide +kernel
theorem dX3_init_23 : decode cX3_init 23 = .ok (.newarray .int, 2) := by decide +kernel
theorem dX3_init_25 : decode cX3_init 25 = .ok (.putfield 21, 3) := by decide +kernel
theorem dX3_init_28 : decode cX3_init 28 = .ok (.aload_n 0, 1) := by decide +kernel
theorem dX3_init_29 : decode cX3_init 29 = .ok (.iconst 1, 1) := by decide +kernel
theorem dX3_init_30 : decode cX3_init 30 = .ok (.putfield 24, 3) := by decide +kernel
theorem dX3_init_33 : decode cX3_init 33 = .ok (.aload_n 0, 1) := by decide +kernel
theorem dX3_init_34 : decode cX3_init 34 = .ok (.bipush 61, 2) := by decide +kernel
theorem dX3_init_36 : decode cX3_init 36 = .ok (.newarray .int, 2) := by decide +kernel
theorem dX3_init_38 : decode cX3_init 38 = .ok (.putfield 27, 3) := by decide +kernel
theorem dX3_init_41 : decode cX3_init 41 = .ok (.aload_n 0, 1) := by decide +kernel
theorem dX3_init_42 : decode cX3_init 42 = .ok (.bipush 61, 2) := by decide +kernel
theorem dX3_init_44 : decode cX3_init 44 = .ok (.newarray .int, 2) := by decide +kernel
theorem dX3_init_46 : decode cX3_init 46 = .ok (.putfield 30, 3) := by decide +kernel
theorem dX3_init_49 : decode cX3_init 49 = .ok (.aload_n 0, 1) := by decide +kernel
theorem dX3_init_50 : decode cX3_init 50 = .ok (.bipush 61, 2) := by decide +kernel
theorem dX3_init_52 : decode cX3_init 52 = .ok (.newarray .int, 2) := by decide +kernel
theorem dX3_init_54 : decode cX3_init 54 = .ok (.putfield 33, 3) := by decide +kernel
theorem dX3_init_57 : decode cX3_init 57 = .ok (.aload_n 0, 1) := by decide +kernel
theorem dX3_init_58 : decode cX3_init 58 = .ok (.bipush 61, 2) := by decide +kernel
theorem dX3_init_60 : decode cX3_init 60 = .ok (.newarray .int, 2) := by decide +kernel
theorem dX3_init_62 : decode cX3_init 62 = .ok (.putfield 36, 3) := by decide +kernel
theorem dX3_init_65 : decode cX3_init 65 = .ok (.aload_n 0, 1) := by decide +kernel
theorem dX3_init_66 : decode cX3_init 66 = .ok (.bipush 61, 2) := by decide +kernel
theorem dX3_init_68 : decode cX3_init 68 = .ok (.newarray .int, 2) := by decide +kernel
theorem dX3_init_70 : decode cX3_init 70 = .ok (.putfield 39, 3) := by decide +kernel
theorem dX3_init_73 : decode cX3_init 73 = .ok (.aload_n 0, 1) := by decide +kernel
theorem dX3_init_74 : decode cX3_init 74 = .ok (.sipush 6710, 3) := by decide +kernel
theorem dX3_init_77 : decode cX3_init 77 = .ok (.newarray .boolean, 2) := by decide +kernel
theorem dX3_init_79 : decode cX3_init 79 = .ok (.putfield 42, 3) := by decide +kernel
theorem dX3_init_82 : decode cX3_init 82 = .ok (.aload_n 0, 1) := by decide +kernel
theorem dX3_init_83 : decode cX3_init 83 = .ok (.sipush 6710, 3) := by decide +kernel
theorem dX3_init_86 : decode cX3_init 86 = .ok (.newarray .boolean, 2) := by decide +kernel
theorem dX3_init_88 : decode cX3_init 88 = .ok (.putfield 45, 3) := by decide +kernel
theorem dX3_init_91 : decode cX3_init 91 = .ok (.aload_n 0, 1) := by decide +kernel
theorem dX3_init_92 : decode cX3_init 92 = .ok (.sipush 610, 3) := by decide +kernel
theorem dX3_init_95 : decode cX3_init 95 = .ok (.newarray .int, 2) := by decide +kernel
theorem dX3_init_97 : decode cX3_init 97 = .ok (.putfield 48, 3) := by decide +kernel
theorem dX3_init_100 : decode cX3_init 100 = .ok (.aload_n 0, 1) := by decide +kernel
theorem dX3_init_101 : decode cX3_init 101 = .ok (.sipush 410, 3) := by decide +kernel
theorem dX3_init_104 : decode cX3_init 104 = .ok (.newarray .int, 2) := by decide +kernel
theorem dX3_init_106 : decode cX3_init 106 = .ok (.putfield 51, 3) := by decide +kernel
theorem dX3_init_109 : decode cX3_init 109 = .ok (.aload_n 0, 1) := by decide +kernel
theorem dX3_init_110 : decode cX3_init 110 = .ok (.bipush 61, 2) := by decide +kernel
theorem dX3_init_112 : decode cX3_init 112 = .ok (.newarray .boolean, 2) := by decide +kernel
theorem dX3_init_114 : decode cX3_init 114 = .ok (.putfield 54, 3) := by decide +kernel
theorem dX3_init_117 : decode cX3_init 117 = .ok (.aload_n 0, 1) := by decide +kernel
theorem dX3_init_118 : decode cX3_init 118 = .ok (.bipush 61, 2) := by decide +kernel
theorem dX3_init_120 : decode cX3_init 120 = .ok (.newarray .boolean, 2) := by decide +kernel
theorem dX3_init_122 : decode cX3_init 122 = .ok (.putfield 57, 3) := by decide +kernel
theorem dX3_init_125 : decode cX3_init 125 = .ok (.aload_n 0, 1) := by decide +kernel
theorem dX3_init_126 : decode cX3_init 126 = .ok (.bipush 61, 2) := by decide +kernel
theorem dX3_init_128 : decode cX3_init 128 = .ok (.newarray .boolean, 2) := by decide +kernel
theorem dX3_init_130 : decode cX3_init 130 = .ok (.putfield 60, 3) := by decide +kernel
theorem dX3_init_133 : decode cX3_init 133 = .ok (.aload_n 0, 1) := by decide +kernel
theorem dX3_init_134 : decode cX3_init 134 = .ok (.sipush 671, 3) := by decide +kernel
theorem dX3_init_137 : decode cX3_init 137 = .ok (.newarray .boolean, 2) := by decide +kernel
theorem dX3_init_139 : decode cX3_init 139 = .ok (.putfield 63, 3) := by decide +kernel
theorem dX3_init_142 : decode cX3_init 142 = .ok (.aload_n 0, 1) := by decide +kernel
theorem dX3_init_143 : decode cX3_init 143 = .ok (.bipush 61, 2) := by decide +kernel
theorem dX3_init_145 : decode cX3_init 145 = .ok (.newarray .int, 2) := by decide +kernel
theorem dX3_init_147 : decode cX3_init 147 = .ok (.putfield 66, 3) := by decide +kernel
theorem dX3_init_150 : decode cX3_init 150 = .ok (.aload_n 0, 1) := by decide +kernel
theorem dX3_init_151 : decode cX3_init 151 = .ok (.iload_n 1, 1) := by decide +kernel
theorem dX3_init_152 : decode cX3_init 152 = .ok (.iconst 4, 1) := by decide +kernel
theorem dX3_init_153 : decode cX3_init 153 = .ok (.if_icmp .ge 7, 3) := by decide +kernel
theorem dX3_init_156 : decode cX3_init 156 = .ok (.iconst 4, 1) := by decide +kernel
theorem dX3_init_157 : decode cX3_init 157 = .ok (.goto 15, 3) := by decide +kernel
theorem dX3_init_160 : decode cX3_init 160 = .ok (.iload_n 1, 1) := by decide +kernel
theorem dX3_init_161 : decode cX3_init 161 = .ok (.bipush 10, 2) := by decide +kernel
theorem dX3_init_163 : decode cX3_init 163 = .ok (.if_icmp .le 8, 3) := by decide +kernel
theorem dX3_init_166 : decode cX3_init 166 = .ok (.bipush 10, 2) := by decide +kernel
theorem dX3_init_168 : decode cX3_init 168 = .ok (.goto 4, 3) := by decide +kernel
theorem dX3_init_171 : decode cX3_init 171 = .ok (.iload_n 1, 1) := by decide +kernel
theorem dX3_init_172 : decode cX3_init 172 = .ok (.putfield 69, 3) := by decide +kernel
theorem dX3_init_175 : decode cX3_init 175 = .ok (.iconst 0, 1) := by decide +kernel
theorem dX3_init_176 : decode cX3_init 176 = .ok (.istore_n 2, 1) := by decide +kernel
theorem dX3_init_177 : decode cX3_init 177 = .ok (.iload_n 2, 1) := by decide +kernel
theorem dX3_init_178 : decode cX3_init 178 = .ok (.bipush 40, 2) := by decide +kernel
theorem dX3_init_180 : decode cX3_init 180 = .ok (.if_icmp .gt 21, 3) := by decide +kernel
theorem dX3_init_183 : decode cX3_init 183 = .ok (.aload_n 0, 1) := by decide +kernel
theorem dX3_init_184 : decode cX3_init 184 = .ok (.getfield 21, 3) := by decide +kernel
theorem dX3_init_187 : decode cX3_init 187 = .ok (.iload_n 2, 1) := by decide +kernel
theorem dX3_init_188 : decode cX3_init 188 = .ok (.iload_n 2, 1) := by decide +kernel
theorem dX3_init_189 : decode cX3_init 189 = .ok (.aload_n 0, 1) := by decide +kernel
theorem dX3_init_190 : decode cX3_init 190 = .ok (.getfield 69, 3) := by decide +kernel
theorem dX3_init_193 : decode cX3_init 193 = .ok (.irem, 1) := by decide +kernel
theorem dX3_init_194 : decode cX3_init 194 = .ok (.iastore, 1) := by decide +kernel
theorem dX3_init_195 : decode cX3_init 195 = .ok (.iinc 2 1, 3) := by decide +kernel
theorem dX3_init_198 : decode cX3_init 198 = .ok (.goto (-21), 3) := by decide +kernel
theorem dX3_init_201 : decode cX3_init 201 = .ok (.iconst 0, 1) := by decide +kernel
theorem dX3_init_202 : decode cX3_init 202 = .ok (.istore_n 2, 1) := by decide +kernel
theorem dX3_init_203 : decode cX3_init 203 = .ok (.iload_n 2, 1) := by decide +kernel
theorem dX3_init_204 : decode cX3_init 204 = .ok (.sipush 410, 3) := by decide +kernel
theorem dX3_init_207 : decode cX3_init 207 = .ok (.if_icmp .ge 16, 3) := by decide +kernel
theorem dX3_init_210 : decode cX3_init 210 = .ok (.aload_n 0, 1) := by decide +kernel
theorem dX3_init_211 : decode cX3_init 211 = .ok (.getfield 51, 3) := by decide +kernel
theorem dX3_init_214 : decode cX3_init 214 = .ok (.iload_n 2, 1) := by decide +kernel
theorem dX3_init_215 : decode cX3_init 215 = .ok (.iconst (-1), 1) := by decide +kernel
theorem dX3_init_216 : decode cX3_init 216 = .ok (.iastore, 1) := by decide +kernel
theorem dX3_init_217 : decode cX3_init 217 = .ok (.iinc 2 1, 3) := by decide +kernel
theorem dX3_init_220 : decode cX3_init 220 = .ok (.goto (-17), 3) := by decide +kernel
theorem dX3_init_223 : decode cX3_init 223 = .ok (.aload_n 0, 1) := by decide +kernel
theorem dX3_init_224 : decode cX3_init 224 = .ok (.getfield 27, 3) := by decide +kernel
theorem dX3_init_227 : decode cX3_init 227 = .ok (.iconst 0, 1) := by decide +kernel
theorem dX3_init_228 : decode cX3_init 228 = .ok (.iconst (-1), 1) := by decide +kernel
theorem dX3_init_229 : decode cX3_init 229 = .ok (.iastore, 1) := by decide +kernel
theorem dX3_init_230 : decode cX3_init 230 = .ok (.aload_n 0, 1) := by decide +kernel
theorem dX3_init_231 : decode cX3_init 231 = .ok (.getfield 39, 3) := by decide +kernel
theorem dX3_init_234 : decode cX3_init 234 = .ok (.iconst 0, 1) := by decide +kernel
theorem dX3_init_235 : decode cX3_init 235 = .ok (.iconst (-1), 1) := by decide +kernel
theorem dX3_init_236 : decode cX3_init 236 = .ok (.iastore, 1) := by decide +kernel
theorem dX3_init_237 : decode cX3_init 237 = .ok (.return_, 1) := by decide +kernel
theorem dX3_isNode_0 : decode cX3_isNode 0 = .ok (.iload_n 1, 1) := by decide +kernel
theorem dX3_isNode_1 : decode cX3_isNode 1 = .ok (.i2l, 1) := by decide +kernel
theorem dX3_isNode_2 : decode cX3_isNode 2 = .ok (.lconst 0, 1) := by decide +kernel
theorem dX3_isNode_3 : decode cX3_isNode 3 = .ok (.aload_n 0, 1) := by decide +kernel
theorem dX3_isNode_4 : decode cX3_isNode 4 = .ok (.getfield 69, 3) := by decide +kernel
theorem dX3_isNode_7 : decode cX3_isNode 7 = .ok (.iconst 1, 1) := by decide +kernel
theorem dX3_isNode_8 : decode cX3_isNode 8 = .ok (.isub, 1) := by decide +kernel
theorem dX3_isNode_9 : decode cX3_isNode 9 = .ok (.i2l, 1) := by decide +kernel
theorem dX3_isNode_10 : decode cX3_isNode 10 = .ok (.invokestatic 72, 3) := by decide +kernel
theorem dX3_isNode_13 : decode cX3_isNode 13 = .ok (.ireturn, 1) := by decide +kernel
theorem dX3_isBlock_0 : decode cX3_isBlock 0 = .ok (.iload_n 1, 1) := by decide +kernel
theorem dX3_isBlock_1 : decode cX3_isBlock 1 = .ok (.i2l, 1) := by decide +kernel
theorem dX3_isBlock_2 : decode cX3_isBlock 2 = .ok (.lconst 0, 1) := by decide +kernel
theorem dX3_isBlock_3 : decode cX3_isBlock 3 = .ok (.aload_n 0, 1) := by decide +kernel
theorem dX3_isBlock_4 : decode cX3_isBlock 4 = .ok (.getfield 24, 3) := by decide +kernel
theorem dX3_isBlock_7 : decode cX3_isBlock 7 = .ok (.iconst 1, 1) := by decide +kernel
theorem dX3_isBlock_8 : decode cX3_isBlock 8 = .ok (.isub, 1) := by decide +kernel
theorem dX3_isBlock_9 : decode cX3_isBlock 9 = .ok (.i2l, 1) := by decide +kernel
theorem dX3_isBlock_10 : decode cX3_isBlock 10 = .ok (.invokestatic 72, 3) := by decide +kernel
theorem dX3_isBlock_13 : decode cX3_isBlock 13 = .ok (.ireturn, 1) := by decide +kernel
theorem dX3_isEpoch_0 : decode cX3_isEpoch 0 = .ok (.iload_n 0, 1) := by decide +kernel
theorem dX3_isEpoch_1 : decode cX3_isEpoch 1 = .ok (.i2l, 1) := by decide +kernel
theorem dX3_isEpoch_2 : decode cX3_isEpoch 2 = .ok (.lconst 1, 1) := by decide +kernel
theorem dX3_isEpoch_3 : decode cX3_isEpoch 3 = .ok (.ldc2_w 76, 3) := by decide +kernel
theorem dX3_isEpoch_6 : decode cX3_isEpoch 6 = .ok (.invokestatic 72, 3) := by decide +kernel
theorem dX3_isEpoch_9 : decode cX3_isEpoch 9 = .ok (.ireturn, 1) := by decide +kernel
theorem dX3_letter_0 : decode cX3_letter 0 = .ok (.bipush 11, 2) := by decide +kernel
theorem dX3_letter_2 : decode cX3_letter 2 = .ok (.iload_n 0, 1) := by decide +kernel
theorem dX3_letter_3 : decode cX3_letter 3 = .ok (.imul, 1) := by decide +kernel
theorem dX3_letter_4 : decode cX3_letter 4 = .ok (.iconst 1, 1) := by decide +kernel
theorem dX3_letter_5 : decode cX3_letter 5 = .ok (.iadd, 1) := by decide +kernel
theorem dX3_letter_6 : decode cX3_letter 6 = .ok (.iload_n 1, 1) := by decide +kernel
theorem dX3_letter_7 : decode cX3_letter 7 = .ok (.iadd, 1) := by decide +kernel
theorem dX3_letter_8 : decode cX3_letter 8 = .ok (.ireturn, 1) := by decide +kernel
theorem dX3_lead_0 : decode cX3_lead 0 = .ok (.aload_n 0, 1) := by decide +kernel
theorem dX3_lead_1 : decode cX3_lead 1 = .ok (.iconst 0, 1) := by decide +kernel
theorem dX3_lead_2 : decode cX3_lead 2 = .ok (.putfield 1, 3) := by decide +kernel
theorem dX3_lead_5 : decode cX3_lead 5 = .ok (.iload_n 1, 1) := by decide +kernel
theorem dX3_lead_6 : decode cX3_lead 6 = .ok (.invokestatic 78, 3) := by decide +kernel
theorem dX3_lead_9 : decode cX3_lead 9 = .ok (.ifCond .eq 11, 3) := by decide +kernel
theorem dX3_lead_12 : decode cX3_lead 12 = .ok (.aload_n 0, 1) := by decide +kernel
theorem dX3_lead_13 : decode cX3_lead 13 = .ok (.iload_n 2, 1) := by decide +kernel
theorem dX3_lead_14 : decode cX3_lead 14 = .ok (.invokevirtual 82, 3) := by decide +kernel
theorem dX3_lead_17 : decode cX3_lead 17 = .ok (.ifCond .ne 6, 3) := by decide +kernel
theorem dX3_lead_20 : decode cX3_lead 20 = .ok (.bipush (-2), 2) := by decide +kernel
theorem dX3_lead_22 : decode cX3_lead 22 = .ok (.ireturn, 1) := by decide +kernel
theorem dX3_lead_23 : decode cX3_lead 23 = .ok (.iload_n 1, 1) := by decide +kernel
theorem dX3_lead_24 : decode cX3_lead 24 = .ok (.aload_n 0, 1) := by decide +kernel
theorem dX3_lead_25 : decode cX3_lead 25 = .ok (.getfield 85, 3) := by decide +kernel
theorem dX3_lead_28 : decode cX3_lead 28 = .ok (.if_icmp .gt 7, 3) := by decide +kernel
theorem dX3_lead_31 : decode cX3_lead 31 = .ok (.iconst 1, 1) := by decide +kernel
theorem dX3_lead_32 : decode cX3_lead 32 = .ok (.goto 4, 3) := by decide +kernel
theorem dX3_lead_35 : decode cX3_lead 35 = .ok (.iconst 0, 1) := by decide +kernel
theorem dX3_lead_36 : decode cX3_lead 36 = .ok (.istore_n 3, 1) := by decide +kernel
theorem dX3_lead_37 : decode cX3_lead 37 = .ok (.iconst 1, 1) := by decide +kernel
theorem dX3_lead_38 : decode cX3_lead 38 = .ok (.istore 4, 2) := by decide +kernel
theorem dX3_lead_40 : decode cX3_lead 40 = .ok (.iload 4, 2) := by decide +kernel
theorem dX3_lead_42 : decode cX3_lead 42 = .ok (.aload_n 0, 1) := by decide +kernel
theorem dX3_lead_43 : decode cX3_lead 43 = .ok (.getfield 24, 3) := by decide +kernel
theorem dX3_lead_46 : decode cX3_lead 46 = .ok (.if_icmp .ge 30, 3) := by decide +kernel
theorem dX3_lead_49 : decode cX3_lead 49 = .ok (.iload_n 3, 1) := by decide +kernel
theorem dX3_lead_50 : decode cX3_lead 50 = .ok (.ifCond .ne 14, 3) := by decide +kernel
theorem dX3_lead_53 : decode cX3_lead 53 = .ok (.aload_n 0, 1) := by decide +kernel
theorem dX3_lead_54 : decode cX3_lead 54 = .ok (.getfield 30, 3) := by decide +kernel
theorem dX3_lead_57 : decode cX3_lead 57 = .ok (.iload 4, 2) := by decide +kernel
theorem dX3_lead_59 : decode cX3_lead 59 = .ok (.iaload, 1) := by decide +kernel
theorem dX3_lead_60 : decode cX3_lead 60 = .ok (.iload_n 1, 1) := by decide +kernel
theorem dX3_lead_61 : decode cX3_lead 61 = .ok (.if_icmp .ne 7, 3) := by decide +kernel
theorem dX3_lead_64 : decode cX3_lead 64 = .ok (.iconst 1, 1) := by decide +kernel
theorem dX3_lead_65 : decode cX3_lead 65 = .ok (.goto 4, 3) := by decide +kernel
theorem dX3_lead_68 : decode cX3_lead 68 = .ok (.iconst 0, 1) := by decide +kernel
theorem dX3_lead_69 : decode cX3_lead 69 = .ok (.istore_n 3, 1) := by decide +kernel
theorem dX3_lead_70 : decode cX3_lead 70 = .ok (.iinc 4 1, 3) := by decide +kernel
theorem dX3_lead_73 : decode cX3_lead 73 = .ok (.goto (-33), 3) := by decide +kernel
theorem dX3_lead_76 : decode cX3_lead 76 = .ok (.iload_n 3, 1) := by decide +kernel
theorem dX3_lead_77 : decode cX3_lead 77 = .ok (.ifCond .eq 6, 3) := by decide +kernel
theorem dX3_lead_80 : decode cX3_lead 80 = .ok (.bipush (-3), 2) := by decide +kernel
theorem dX3_lead_82 : decode cX3_lead 82 = .ok (.ireturn, 1) := by decide +kernel
theorem dX3_lead_83 : decode cX3_lead 83 = .ok (.aload_n 0, 1) := by decide +kernel
theorem dX3_lead_84 : decode cX3_lead 84 = .ok (.getfield 21, 3) := by decide +kernel
theorem dX3_lead_87 : decode cX3_lead 87 = .ok (.iload_n 1, 1) := by decide +kernel
theorem dX3_lead_88 : decode cX3_lead 88 = .ok (.iaload, 1) := by decide +kernel
theorem dX3_lead_89 : decode cX3_lead 89 = .ok (.istore 4, 2) := by decide +kernel
theorem dX3_lead_91 : decode cX3_lead 91 = .ok (.aload_n 0, 1) := by decide +kernel
theorem dX3_lead_92 : decode cX3_lead 92 = .ok (.getfield 21, 3) := by decide +kernel
theorem dX3_lead_95 : decode cX3_lead 95 = .ok (.iload_n 1, 1) := by decide +kernel
theorem dX3_lead_96 : decode cX3_lead 96 = .ok (.iload_n 2, 1) := by decide +kernel
theorem dX3_lead_97 : decode cX3_lead 97 = .ok (.iastore, 1) := by decide +kernel
theorem dX3_lead_98 : decode cX3_lead 98 = .ok (.iload 4, 2) := by decide +kernel
theorem dX3_lead_100 : decode cX3_lead 100 = .ok (.ireturn, 1) := by decide +kernel
theorem dX3_fall_0 : decode cX3_fall 0 = .ok (.aload_n 0, 1) := by decide +kernel
theorem dX3_fall_1 : decode cX3_fall 1 = .ok (.iconst 0, 1) := by decide +kernel
theorem dX3_fall_2 : decode cX3_fall 2 = .ok (.putfield 1, 3) := by decide +kernel
theorem dX3_fall_5 : decode cX3_fall 5 = .ok (.aload_n 0, 1) := by decide +kernel
theorem dX3_fall_6 : decode cX3_fall 6 = .ok (.iload_n 1, 1) := by decide +kernel
theorem dX3_fall_7 : decode cX3_fall 7 = .ok (.invokevirtual 82, 3) := by decide +kernel
theorem dX3_fall_10 : decode cX3_fall 10 = .ok (.ifCond .ne 6, 3) := by decide +kernel
theorem dX3_fall_13 : decode cX3_fall 13 = .ok (.bipush (-2), 2) := by decide +kernel
theorem dX3_fall_15 : decode cX3_fall 15 = .ok (.ireturn, 1) := by decide +kernel
theorem dX3_fall_16 : decode cX3_fall 16 = .ok (.aload_n 0, 1) := by decide +kernel
theorem dX3_fall_17 : decode cX3_fall 17 = .ok (.getfield 13, 3) := by decide +kernel
theorem dX3_fall_20 : decode cX3_fall 20 = .ok (.iload_n 1, 1) := by decide +kernel
theorem dX3_fall_21 : decode cX3_fall 21 = .ok (.baload, 1) := by decide +kernel
theorem dX3_fall_22 : decode cX3_fall 22 = .ok (.ifCond .eq 7, 3) := by decide +kernel
theorem dX3_fall_25 : decode cX3_fall 25 = .ok (.iconst 0, 1) := by decide +kernel
theorem dX3_fall_26 : decode cX3_fall 26 = .ok (.goto 4, 3) := by decide +kernel
theorem dX3_fall_29 : decode cX3_fall 29 = .ok (.iconst 1, 1) := by decide +kernel
theorem dX3_fall_30 : decode cX3_fall 30 = .ok (.istore_n 2, 1) := by decide +kernel
theorem dX3_fall_31 : decode cX3_fall 31 = .ok (.aload_n 0, 1) := by decide +kernel
theorem dX3_fall_32 : decode cX3_fall 32 = .ok (.getfield 13, 3) := by decide +kernel
theorem dX3_fall_35 : decode cX3_fall 35 = .ok (.iload_n 1, 1) := by decide +kernel
theorem dX3_fall_36 : decode cX3_fall 36 = .ok (.iconst 1, 1) := by decide +kernel
theorem dX3_fall_37 : decode cX3_fall 37 = .ok (.bastore, 1) := by decide +kernel
theorem dX3_fall_38 : decode cX3_fall 38 = .ok (.iload_n 2, 1) := by decide +kernel
theorem dX3_fall_39 : decode cX3_fall 39 = .ok (.ireturn, 1) := by decide +kernel
theorem dX3_wish_0 : decode cX3_wish 0 = .ok (.aload_n 0, 1) := by decide +kernel
theorem dX3_wish_1 : decode cX3_wish 1 = .ok (.iconst 0, 1) := by decide +kernel
theorem dX3_wish_2 : decode cX3_wish 2 = .ok (.putfield 1, 3) := by decide +kernel
theorem dX3_wish_5 : decode cX3_wish 5 = .ok (.aload_n 0, 1) := by decide +kernel
theorem dX3_wish_6 : decode cX3_wish 6 = .ok (.iload_n 1, 1) := by decide +kernel
theorem dX3_wish_7 : decode cX3_wish 7 = .ok (.invokevirtual 82, 3) := by decide +kernel
theorem dX3_wish_10 : decode cX3_wish 10 = .ok (.ifCond .eq 15, 3) := by decide +kernel
theorem dX3_wish_13 : decode cX3_wish 13 = .ok (.iload_n 2, 1) := by decide +kernel
theorem dX3_wish_14 : decode cX3_wish 14 = .ok (.i2l, 1) := by decide +kernel
theorem dX3_wish_15 : decode cX3_wish 15 = .ok (.lconst 0, 1) := by decide +kernel
theorem dX3_wish_16 : decode cX3_wish 16 = .ok (.ldc2_w 88, 3) := by decide +kernel
theorem dX3_wish_19 : decode cX3_wish 19 = .ok (.invokestatic 72, 3) := by decide +kernel
theorem dX3_wish_22 : decode cX3_wish 22 = .ok (.ifCond .ne 6, 3) := by decide +kernel
theorem dX3_wish_25 : decode cX3_wish 25 = .ok (.bipush (-2), 2) := by decide +kernel
theorem dX3_wish_27 : decode cX3_wish 27 = .ok (.ireturn, 1) := by decide +kernel
theorem dX3_wish_28 : decode cX3_wish 28 = .ok (.aload_n 0, 1) := by decide +kernel
theorem dX3_wish_29 : decode cX3_wish 29 = .ok (.getfield 17, 3) := by decide +kernel
theorem dX3_wish_32 : decode cX3_wish 32 = .ok (.iload_n 1, 1) := by decide +kernel
theorem dX3_wish_33 : decode cX3_wish 33 = .ok (.iaload, 1) := by decide +kernel
theorem dX3_wish_34 : decode cX3_wish 34 = .ok (.iload_n 2, 1) := by decide +kernel
theorem dX3_wish_35 : decode cX3_wish 35 = .ok (.iushr, 1) := by decide +kernel
theorem dX3_wish_36 : decode cX3_wish 36 = .ok (.iconst 1, 1) := by decide +kernel
theorem dX3_wish_37 : decode cX3_wish 37 = .ok (.iand, 1) := by decide +kernel
theorem dX3_wish_38 : decode cX3_wish 38 = .ok (.iconst 1, 1) := by decide +kernel
theorem dX3_wish_39 : decode cX3_wish 39 = .ok (.if_icmp .ne 7, 3) := by decide +kernel
theorem dX3_wish_42 : decode cX3_wish 42 = .ok (.iconst 0, 1) := by decide +kernel
theorem dX3_wish_43 : decode cX3_wish 43 = .ok (.goto 4, 3) := by decide +kernel
theorem dX3_wish_46 : decode cX3_wish 46 = .ok (.iconst 1, 1) := by decide +kernel
theorem dX3_wish_47 : decode cX3_wish 47 = .ok (.istore_n 3, 1) := by decide +kernel
theorem dX3_wish_48 : decode cX3_wish 48 = .ok (.aload_n 0, 1) := by decide +kernel
theorem dX3_wish_49 : decode cX3_wish 49 = .ok (.getfield 17, 3) := by decide +kernel
theorem dX3_wish_52 : decode cX3_wish 52 = .ok (.iload_n 1, 1) := by decide +kernel
theorem dX3_wish_53 : decode cX3_wish 53 = .ok (.dup2, 1) := by decide +kernel
theorem dX3_wish_54 : decode cX3_wish 54 = .ok (.iaload, 1) := by decide +kernel
theorem dX3_wish_55 : decode cX3_wish 55 = .ok (.iconst 1, 1) := by decide +kernel
theorem dX3_wish_56 : decode cX3_wish 56 = .ok (.iload_n 2, 1) := by decide +kernel
theorem dX3_wish_57 : decode cX3_wish 57 = .ok (.ishl, 1) := by decide +kernel
theorem dX3_wish_58 : decode cX3_wish 58 = .ok (.ior, 1) := by decide +kernel
theorem dX3_wish_59 : decode cX3_wish 59 = .ok (.iastore, 1) := by decide +kernel
theorem dX3_wish_60 : decode cX3_wish 60 = .ok (.iload_n 3, 1) := by decide +kernel
theorem dX3_wish_61 : decode cX3_wish 61 = .ok (.ireturn, 1) := by decide +kernel
theorem dX3_votesOf_0 : decode cX3_votesOf 0 = .ok (.iconst 0, 1) := by decide +kernel
theorem dX3_votesOf_1 : decode cX3_votesOf 1 = .ok (.istore_n 3, 1) := by decide +kernel
theorem dX3_votesOf_2 : decode cX3_votesOf 2 = .ok (.iconst 0, 1) := by decide +kernel
theorem dX3_votesOf_3 : decode cX3_votesOf 3 = .ok (.istore 4, 2) := by decide +kernel
theorem dX3_votesOf_5 : decode cX3_votesOf 5 = .ok (.iload 4, 2) := by decide +kernel
theorem dX3_votesOf_7 : decode cX3_votesOf 7 = .ok (.aload_n 0, 1) := by decide +kernel
theorem dX3_votesOf_8 : decode cX3_votesOf 8 = .ok (.getfield 69, 3) := by decide +kernel
theorem dX3_votesOf_11 : decode cX3_votesOf 11 = .ok (.if_icmp .ge 36, 3) := by decide +kernel
theorem dX3_votesOf_14 : decode cX3_votesOf 14 = .ok (.iload_n 3, 1) := by decide +kernel
theorem dX3_votesOf_15 : decode cX3_votesOf 15 = .ok (.aload_n 0, 1) := by decide +kernel
theorem dX3_votesOf_16 : decode cX3_votesOf 16 = .ok (.getfield 42, 3) := by decide +kernel
theorem dX3_votesOf_19 : decode cX3_votesOf 19 = .ok (.bipush 10, 2) := by decide +kernel
theorem dX3_votesOf_21 : decode cX3_votesOf 21 = .ok (.iload_n 2, 1) := by decide +kernel
theorem dX3_votesOf_22 : decode cX3_votesOf 22 = .ok (.iload 4, 2) := by decide +kernel
theorem dX3_votesOf_24 : decode cX3_votesOf 24 = .ok (.invokestatic 90, 3) := by decide +kernel
theorem dX3_votesOf_27 : decode cX3_votesOf 27 = .ok (.imul, 1) := by decide +kernel
theorem dX3_votesOf_28 : decode cX3_votesOf 28 = .ok (.iload_n 1, 1) := by decide +kernel
theorem dX3_votesOf_29 : decode cX3_votesOf 29 = .ok (.iadd, 1) := by decide +kernel
theorem dX3_votesOf_30 : decode cX3_votesOf 30 = .ok (.baload, 1) := by decide +kernel
theorem dX3_votesOf_31 : decode cX3_votesOf 31 = .ok (.ifCond .eq 7, 3) := by decide +kernel
theorem dX3_votesOf_34 : decode cX3_votesOf 34 = .ok (.iconst 1, 1) := by decide +kernel
theorem dX3_votesOf_35 : decode cX3_votesOf 35 = .ok (.goto 4, 3) := by decide +kernel
theorem dX3_votesOf_38 : decode cX3_votesOf 38 = .ok (.iconst 0, 1) := by decide +kernel
theorem dX3_votesOf_39 : decode cX3_votesOf 39 = .ok (.iadd, 1) := by decide +kernel
theorem dX3_votesOf_40 : decode cX3_votesOf 40 = .ok (.istore_n 3, 1) := by decide +kernel
theorem dX3_votesOf_41 : decode cX3_votesOf 41 = .ok (.iinc 4 1, 3) := by decide +kernel
theorem dX3_votesOf_44 : decode cX3_votesOf 44 = .ok (.goto (-39), 3) := by decide +kernel
theorem dX3_votesOf_47 : decode cX3_votesOf 47 = .ok (.iload_n 3, 1) := by decide +kernel
theorem dX3_votesOf_48 : decode cX3_votesOf 48 = .ok (.ireturn, 1) := by decide +kernel
theorem dX3_workOut_0 : decode cX3_workOut 0 = .ok (.aload_n 0, 1) := by decide +kernel
theorem dX3_workOut_1 : decode cX3_workOut 1 = .ok (.iconst 0, 1) := by decide +kernel
theorem dX3_workOut_2 : decode cX3_workOut 2 = .ok (.putfield 94, 3) := by decide +kernel
theorem dX3_workOut_5 : decode cX3_workOut 5 = .ok (.aload_n 0, 1) := by decide +kernel
theorem dX3_workOut_6 : decode cX3_workOut 6 = .ok (.iconst 0, 1) := by decide +kernel
theorem dX3_workOut_7 : decode cX3_workOut 7 = .ok (.putfield 97, 3) := by decide +kernel
theorem dX3_workOut_10 : decode cX3_workOut 10 = .ok (.iconst 0, 1) := by decide +kernel
theorem dX3_workOut_11 : decode cX3_workOut 11 = .ok (.istore_n 2, 1) := by decide +kernel
theorem dX3_workOut_12 : decode cX3_workOut 12 = .ok (.iload_n 2, 1) := by decide +kernel
theorem dX3_workOut_13 : decode cX3_workOut 13 = .ok (.aload_n 0, 1) := by decide +kernel
theorem dX3_workOut_14 : decode cX3_workOut 14 = .ok (.getfield 24, 3) := by decide +kernel
theorem dX3_workOut_17 : decode cX3_workOut 17 = .ok (.if_icmp .ge 194, 3) := by decide +kernel
theorem dX3_workOut_20 : decode cX3_workOut 20 = .ok (.aload_n 0, 1) := by decide +kernel
theorem dX3_workOut_21 : decode cX3_workOut 21 = .ok (.getfield 54, 3) := by decide +kernel
theorem dX3_workOut_24 : decode cX3_workOut 24 = .ok (.iload_n 2, 1) := by decide +kernel
theorem dX3_workOut_25 : decode cX3_workOut 25 = .ok (.iload_n 2, 1) := by decide +kernel
theorem dX3_workOut_26 : decode cX3_workOut 26 = .ok (.ifCond .eq 35, 3) := by decide +kernel
theorem dX3_workOut_29 : decode cX3_workOut 29 = .ok (.aload_n 0, 1) := by decide +kernel
theorem dX3_workOut_30 : decode cX3_workOut 30 = .ok (.getfield 42, 3) := by decide +kernel
theorem dX3_workOut_33 : decode cX3_workOut 33 = .ok (.bipush 10, 2) := by decide +kernel
theorem dX3_workOut_35 : decode cX3_workOut 35 = .ok (.iload_n 2, 1) := by decide +kernel
theorem dX3_workOut_36 : decode cX3_workOut 36 = .ok (.iconst (-1), 1) := by decide +kernel
theorem dX3_workOut_37 : decode cX3_workOut 37 = .ok (.invokestatic 90, 3) := by decide +kernel
theorem dX3_workOut_40 : decode cX3_workOut 40 = .ok (.imul, 1) := by decide +kernel
theorem dX3_workOut_41 : decode cX3_workOut 41 = .ok (.iload_n 1, 1) := by decide +kernel
theorem dX3_workOut_42 : decode cX3_workOut 42 = .ok (.iadd, 1) := by decide +kernel
theorem dX3_workOut_43 : decode cX3_workOut 43 = .ok (.baload, 1) := by decide +kernel
theorem dX3_workOut_44 : decode cX3_workOut 44 = .ok (.ifCond .eq 21, 3) := by decide +kernel
theorem dX3_workOut_47 : decode cX3_workOut 47 = .ok (.aload_n 0, 1) := by decide +kernel
theorem dX3_workOut_48 : decode cX3_workOut 48 = .ok (.getfield 54, 3) := by decide +kernel
theorem dX3_workOut_51 : decode cX3_workOut 51 = .ok (.aload_n 0, 1) := by decide +kernel
theorem dX3_workOut_52 : decode cX3_workOut 52 = .ok (.getfield 27, 3) := by decide +kernel
theorem dX3_workOut_55 : decode cX3_workOut 55 = .ok (.iload_n 2, 1) := by decide +kernel
theorem dX3_workOut_56 : decode cX3_workOut 56 = .ok (.iaload, 1) := by decide +kernel
theorem dX3_workOut_57 : decode cX3_workOut 57 = .ok (.baload, 1) := by decide +kernel
theorem dX3_workOut_58 : decode cX3_workOut 58 = .ok (.ifCond .eq 7, 3) := by decide +kernel
theorem dX3_workOut_61 : decode cX3_workOut 61 = .ok (.iconst 1, 1) := by decide +kernel
theorem dX3_workOut_62 : decode cX3_workOut 62 = .ok (.goto 4, 3) := by decide +kernel
theorem dX3_workOut_65 : decode cX3_workOut 65 = .ok (.iconst 0, 1) := by decide +kernel
theorem dX3_workOut_66 : decode cX3_workOut 66 = .ok (.bastore, 1) := by decide +kernel
theorem dX3_workOut_67 : decode cX3_workOut 67 = .ok (.aload_n 0, 1) := by decide +kernel
theorem dX3_workOut_68 : decode cX3_workOut 68 = .ok (.getfield 57, 3) := by decide +kernel
theorem dX3_workOut_71 : decode cX3_workOut 71 = .ok (.iload_n 2, 1) := by decide +kernel
theorem dX3_workOut_72 : decode cX3_workOut 72 = .ok (.iload_n 2, 1) := by decide +kernel
theorem dX3_workOut_73 : decode cX3_workOut 73 = .ok (.ifCond .eq 43, 3) := by decide +kernel
theorem dX3_workOut_76 : decode cX3_workOut 76 = .ok (.aload_n 0, 1) := by decide +kernel
theorem dX3_workOut_77 : decode cX3_workOut 77 = .ok (.getfield 54, 3) := by decide +kernel
theorem dX3_workOut_80 : decode cX3_workOut 80 = .ok (.iload_n 2, 1) := by decide +kernel
theorem dX3_workOut_81 : decode cX3_workOut 81 = .ok (.baload, 1) := by decide +kernel
theorem dX3_workOut_82 : decode cX3_workOut 82 = .ok (.ifCond .eq 38, 3) := by decide +kernel
theorem dX3_workOut_85 : decode cX3_workOut 85 = .ok (.aload_n 0, 1) := by decide +kernel
theorem dX3_workOut_86 : decode cX3_workOut 86 = .ok (.getfield 57, 3) := by decide +kernel
theorem dX3_workOut_89 : decode cX3_workOut 89 = .ok (.aload_n 0, 1) := by decide +kernel
theorem dX3_workOut_90 : decode cX3_workOut 90 = .ok (.getfield 27, 3) := by decide +kernel
theorem dX3_workOut_93 : decode cX3_workOut 93 = .ok (.iload_n 2, 1) := by decide +kernel
theorem dX3_workOut_94 : decode cX3_workOut 94 = .ok (.iaload, 1) := by decide +kernel
theorem dX3_workOut_95 : decode cX3_workOut 95 = .ok (.baload, 1) := by decide +kernel
theorem dX3_workOut_96 : decode cX3_workOut 96 = .ok (.ifCond .eq 24, 3) := by decide +kernel
theorem dX3_workOut_99 : decode cX3_workOut 99 = .ok (.iconst 3, 1) := by decide +kernel
theorem dX3_workOut_100 : decode cX3_workOut 100 = .ok (.aload_n 0, 1) := by decide +kernel
theorem dX3_workOut_101 : decode cX3_workOut 101 = .ok (.iload_n 1, 1) := by decide +kernel
theorem dX3_workOut_102 : decode cX3_workOut 102 = .ok (.iload_n 2, 1) := by decide +kernel
theorem dX3_workOut_103 : decode cX3_workOut 103 = .ok (.invokevirtual 100, 3) := by decide +kernel
theorem dX3_workOut_106 : decode cX3_workOut 106 = .ok (.imul, 1) := by decide +kernel
theorem dX3_workOut_107 : decode cX3_workOut 107 = .ok (.iconst 2, 1) := by decide +kernel
theorem dX3_workOut_108 : decode cX3_workOut 108 = .ok (.aload_n 0, 1) := by decide +kernel
theorem dX3_workOut_109 : decode cX3_workOut 109 = .ok (.getfield 69, 3) := by decide +kernel
theorem dX3_workOut_112 : decode cX3_workOut 112 = .ok (.imul, 1) := by decide +kernel
theorem dX3_workOut_113 : decode cX3_workOut 113 = .ok (.if_icmp .lt 7, 3) := by decide +kernel
theorem dX3_workOut_116 : decode cX3_workOut 116 = .ok (.iconst 1, 1) := by decide +kernel
theorem dX3_workOut_117 : decode cX3_workOut 117 = .ok (.goto 4, 3) := by decide +kernel
theorem dX3_workOut_120 : decode cX3_workOut 120 = .ok (.iconst 0, 1) := by decide +kernel
theorem dX3_workOut_121 : decode cX3_workOut 121 = .ok (.bastore, 1) := by decide +kernel
theorem dX3_workOut_122 : decode cX3_workOut 122 = .ok (.aload_n 0, 1) := by decide +kernel
theorem dX3_workOut_123 : decode cX3_workOut 123 = .ok (.getfield 60, 3) := by decide +kernel
theorem dX3_workOut_126 : decode cX3_workOut 126 = .ok (.iload_n 2, 1) := by decide +kernel
theorem dX3_workOut_127 : decode cX3_workOut 127 = .ok (.iload_n 2, 1) := by decide +kernel
theorem dX3_workOut_128 : decode cX3_workOut 128 = .ok (.ifCond .ne 7, 3) := by decide +kernel
theorem dX3_workOut_131 : decode cX3_workOut 131 = .ok (.iconst 1, 1) := by decide +kernel
theorem dX3_workOut_132 : decode cX3_workOut 132 = .ok (.goto 4, 3) := by decide +kernel
theorem dX3_workOut_135 : decode cX3_workOut 135 = .ok (.iconst 0, 1) := by decide +kernel
theorem dX3_workOut_136 : decode cX3_workOut 136 = .ok (.bastore, 1) := by decide +kernel
theorem dX3_workOut_137 : decode cX3_workOut 137 = .ok (.aload_n 0, 1) := by decide +kernel
theorem dX3_workOut_138 : decode cX3_workOut 138 = .ok (.getfield 57, 3) := by decide +kernel
theorem dX3_workOut_141 : decode cX3_workOut 141 = .ok (.iload_n 2, 1) := by decide +kernel
theorem dX3_workOut_142 : decode cX3_workOut 142 = .ok (.baload, 1) := by decide +kernel
theorem dX3_workOut_143 : decode cX3_workOut 143 = .ok (.ifCond .eq 62, 3) := by decide +kernel
theorem dX3_workOut_146 : decode cX3_workOut 146 = .ok (.aload_n 0, 1) := by decide +kernel
theorem dX3_workOut_147 : decode cX3_workOut 147 = .ok (.getfield 36, 3) := by decide +kernel
theorem dX3_workOut_150 : decode cX3_workOut 150 = .ok (.iload_n 2, 1) := by decide +kernel
theorem dX3_workOut_151 : decode cX3_workOut 151 = .ok (.iaload, 1) := by decide +kernel
theorem dX3_workOut_152 : decode cX3_workOut 152 = .ok (.aload_n 0, 1) := by decide +kernel
theorem dX3_workOut_153 : decode cX3_workOut 153 = .ok (.getfield 94, 3) := by decide +kernel
theorem dX3_workOut_156 : decode cX3_workOut 156 = .ok (.if_icmp .gt 34, 3) := by decide +kernel
theorem dX3_workOut_159 : decode cX3_workOut 159 = .ok (.aload_n 0, 1) := by decide +kernel
theorem dX3_workOut_160 : decode cX3_workOut 160 = .ok (.getfield 36, 3) := by decide +kernel
theorem dX3_workOut_163 : decode cX3_workOut 163 = .ok (.iload_n 2, 1) := by decide +kernel
theorem dX3_workOut_164 : decode cX3_workOut 164 = .ok (.iaload, 1) := by decide +kernel
theorem dX3_workOut_165 : decode cX3_workOut 165 = .ok (.aload_n 0, 1) := by decide +kernel
theorem dX3_workOut_166 : decode cX3_workOut 166 = .ok (.getfield 94, 3) := by decide +kernel
theorem dX3_workOut_169 : decode cX3_workOut 169 = .ok (.if_icmp .ne 36, 3) := by decide +kernel
theorem dX3_workOut_172 : decode cX3_workOut 172 = .ok (.aload_n 0, 1) := by decide +kernel
theorem dX3_workOut_173 : decode cX3_workOut 173 = .ok (.getfield 30, 3) := by decide +kernel
theorem dX3_workOut_176 : decode cX3_workOut 176 = .ok (.iload_n 2, 1) := by decide +kernel
theorem dX3_workOut_177 : decode cX3_workOut 177 = .ok (.iaload, 1) := by decide +kernel
theorem dX3_workOut_178 : decode cX3_workOut 178 = .ok (.aload_n 0, 1) := by decide +kernel
theorem dX3_workOut_179 : decode cX3_workOut 179 = .ok (.getfield 30, 3) := by decide +kernel
theorem dX3_workOut_182 : decode cX3_workOut 182 = .ok (.aload_n 0, 1) := by decide +kernel
theorem dX3_workOut_183 : decode cX3_workOut 183 = .ok (.getfield 97, 3) := by decide +kernel
theorem dX3_workOut_186 : decode cX3_workOut 186 = .ok (.iaload, 1) := by decide +kernel
theorem dX3_workOut_187 : decode cX3_workOut 187 = .ok (.if_icmp .le 18, 3) := by decide +kernel
theorem dX3_workOut_190 : decode cX3_workOut 190 = .ok (.aload_n 0, 1) := by decide +kernel
theorem dX3_workOut_191 : decode cX3_workOut 191 = .ok (.aload_n 0, 1) := by decide +kernel
theorem dX3_workOut_192 : decode cX3_workOut 192 = .ok (.getfield 36, 3) := by decide +kernel
theorem dX3_workOut_195 : decode cX3_workOut 195 = .ok (.iload_n 2, 1) := by decide +kernel
theorem dX3_workOut_196 : decode cX3_workOut 196 = .ok (.iaload, 1) := by decide +kernel
theorem dX3_workOut_197 : decode cX3_workOut 197 = .ok (.putfield 94, 3) := by decide +kernel
theorem dX3_workOut_200 : decode cX3_workOut 200 = .ok (.aload_n 0, 1) := by decide +kernel
theorem dX3_workOut_201 : decode cX3_workOut 201 = .ok (.iload_n 2, 1) := by decide +kernel
theorem dX3_workOut_202 : decode cX3_workOut 202 = .ok (.putfield 97, 3) := by decide +kernel
theorem dX3_workOut_205 : decode cX3_workOut 205 = .ok (.iinc 2 1, 3) := by decide +kernel
theorem dX3_workOut_208 : decode cX3_workOut 208 = .ok (.goto (-196), 3) := by decide +kernel
theorem dX3_workOut_211 : decode cX3_workOut 211 = .ok (.iconst 1, 1) := by decide +kernel
theorem dX3_workOut_212 : decode cX3_workOut 212 = .ok (.istore_n 2, 1) := by decide +kernel
theorem dX3_workOut_213 : decode cX3_workOut 213 = .ok (.iload_n 2, 1) := by decide +kernel
theorem dX3_workOut_214 : decode cX3_workOut 214 = .ok (.aload_n 0, 1) := by decide +kernel
theorem dX3_workOut_215 : decode cX3_workOut 215 = .ok (.getfield 24, 3) := by decide +kernel
theorem dX3_workOut_218 : decode cX3_workOut 218 = .ok (.if_icmp .ge 103, 3) := by decide +kernel
theorem dX3_workOut_221 : decode cX3_workOut 221 = .ok (.aload_n 0, 1) := by decide +kernel
theorem dX3_workOut_222 : decode cX3_workOut 222 = .ok (.getfield 27, 3) := by decide +kernel
theorem dX3_workOut_225 : decode cX3_workOut 225 = .ok (.iload_n 2, 1) := by decide +kernel
theorem dX3_workOut_226 : decode cX3_workOut 226 = .ok (.iaload, 1) := by decide +kernel
theorem dX3_workOut_227 : decode cX3_workOut 227 = .ok (.istore_n 3, 1) := by decide +kernel
theorem dX3_workOut_228 : decode cX3_workOut 228 = .ok (.aload_n 0, 1) := by decide +kernel
theorem dX3_workOut_229 : decode cX3_workOut 229 = .ok (.getfield 27, 3) := by decide +kernel
theorem dX3_workOut_232 : decode cX3_workOut 232 = .ok (.iload_n 3, 1) := by decide +kernel
theorem dX3_workOut_233 : decode cX3_workOut 233 = .ok (.iaload, 1) := by decide +kernel
theorem dX3_workOut_234 : decode cX3_workOut 234 = .ok (.istore 4, 2) := by decide +kernel
theorem dX3_workOut_236 : decode cX3_workOut 236 = .ok (.aload_n 0, 1) := by decide +kernel
theorem dX3_workOut_237 : decode cX3_workOut 237 = .ok (.getfield 57, 3) := by decide +kernel
theorem dX3_workOut_240 : decode cX3_workOut 240 = .ok (.iload_n 2, 1) := by decide +kernel
theorem dX3_workOut_241 : decode cX3_workOut 241 = .ok (.baload, 1) := by decide +kernel
theorem dX3_workOut_242 : decode cX3_workOut 242 = .ok (.ifCond .eq 73, 3) := by decide +kernel
theorem dX3_workOut_245 : decode cX3_workOut 245 = .ok (.iload 4, 2) := by decide +kernel
theorem dX3_workOut_247 : decode cX3_workOut 247 = .ok (.iconst (-1), 1) := by decide +kernel
theorem dX3_workOut_248 : decode cX3_workOut 248 = .ok (.if_icmp .eq 67, 3) := by decide +kernel
theorem dX3_workOut_251 : decode cX3_workOut 251 = .ok (.aload_n 0, 1) := by decide +kernel
theorem dX3_workOut_252 : decode cX3_workOut 252 = .ok (.getfield 30, 3) := by decide +kernel
theorem dX3_workOut_255 : decode cX3_workOut 255 = .ok (.iload_n 3, 1) := by decide +kernel
theorem dX3_workOut_256 : decode cX3_workOut 256 = .ok (.iaload, 1) := by decide +kernel
theorem dX3_workOut_257 : decode cX3_workOut 257 = .ok (.aload_n 0, 1) := by decide +kernel
theorem dX3_workOut_258 : decode cX3_workOut 258 = .ok (.getfield 30, 3) := by decide +kernel
theorem dX3_workOut_261 : decode cX3_workOut 261 = .ok (.iload 4, 2) := by decide +kernel
theorem dX3_workOut_263 : decode cX3_workOut 263 = .ok (.iaload, 1) := by decide +kernel
theorem dX3_workOut_264 : decode cX3_workOut 264 = .ok (.iconst 1, 1) := by decide +kernel
theorem dX3_workOut_265 : decode cX3_workOut 265 = .ok (.iadd, 1) := by decide +kernel
theorem dX3_workOut_266 : decode cX3_workOut 266 = .ok (.if_icmp .ne 49, 3) := by decide +kernel
theorem dX3_workOut_269 : decode cX3_workOut 269 = .ok (.aload_n 0, 1) := by decide +kernel
theorem dX3_workOut_270 : decode cX3_workOut 270 = .ok (.getfield 30, 3) := by decide +kernel
theorem dX3_workOut_273 : decode cX3_workOut 273 = .ok (.iload_n 2, 1) := by decide +kernel
theorem dX3_workOut_274 : decode cX3_workOut 274 = .ok (.iaload, 1) := by decide +kernel
theorem dX3_workOut_275 : decode cX3_workOut 275 = .ok (.aload_n 0, 1) := by decide +kernel
theorem dX3_workOut_276 : decode cX3_workOut 276 = .ok (.getfield 30, 3) := by decide +kernel
theorem dX3_workOut_279 : decode cX3_workOut 279 = .ok (.iload_n 3, 1) := by decide +kernel
theorem dX3_workOut_280 : decode cX3_workOut 280 = .ok (.iaload, 1) := by decide +kernel
theorem dX3_workOut_281 : decode cX3_workOut 281 = .ok (.iconst 1, 1) := by decide +kernel
theorem dX3_workOut_282 : decode cX3_workOut 282 = .ok (.iadd, 1) := by decide +kernel
theorem dX3_workOut_283 : decode cX3_workOut 283 = .ok (.if_icmp .ne 32, 3) := by decide +kernel
theorem dX3_workOut_286 : decode cX3_workOut 286 = .ok (.iload_n 3, 1) := by decide +kernel
theorem dX3_workOut_287 : decode cX3_workOut 287 = .ok (.istore 5, 2) := by decide +kernel
theorem dX3_workOut_289 : decode cX3_workOut 289 = .ok (.iload 5, 2) := by decide +kernel
theorem dX3_workOut_291 : decode cX3_workOut 291 = .ok (.iconst (-1), 1) := by decide +kernel
theorem dX3_workOut_292 : decode cX3_workOut 292 = .ok (.if_icmp .eq 23, 3) := by decide +kernel
theorem dX3_workOut_295 : decode cX3_workOut 295 = .ok (.aload_n 0, 1) := by decide +kernel
theorem dX3_workOut_296 : decode cX3_workOut 296 = .ok (.getfield 60, 3) := by decide +kernel
theorem dX3_workOut_299 : decode cX3_workOut 299 = .ok (.iload 5, 2) := by decide +kernel
theorem dX3_workOut_301 : decode cX3_workOut 301 = .ok (.iconst 1, 1) := by decide +kernel
theorem dX3_workOut_302 : decode cX3_workOut 302 = .ok (.bastore, 1) := by decide +kernel
theorem dX3_workOut_303 : decode cX3_workOut 303 = .ok (.aload_n 0, 1) := by decide +kernel
theorem dX3_workOut_304 : decode cX3_workOut 304 = .ok (.getfield 27, 3) := by decide +kernel
theorem dX3_workOut_307 : decode cX3_workOut 307 = .ok (.iload 5, 2) := by decide +kernel
theorem dX3_workOut_309 : decode cX3_workOut 309 = .ok (.iaload, 1) := by decide +kernel
theorem dX3_workOut_310 : decode cX3_workOut 310 = .ok (.istore 5, 2) := by decide +kernel
theorem dX3_workOut_312 : decode cX3_workOut 312 = .ok (.goto (-23), 3) := by decide +kernel
theorem dX3_workOut_315 : decode cX3_workOut 315 = .ok (.iinc 2 1, 3) := by decide +kernel
theorem dX3_workOut_318 : decode cX3_workOut 318 = .ok (.goto (-105), 3) := by decide +kernel
theorem dX3_workOut_321 : decode cX3_workOut 321 = .ok (.aload_n 0, 1) := by decide +kernel
theorem dX3_workOut_322 : decode cX3_workOut 322 = .ok (.iconst 0, 1) := by decide +kernel
theorem dX3_workOut_323 : decode cX3_workOut 323 = .ok (.putfield 103, 3) := by decide +kernel
theorem dX3_workOut_326 : decode cX3_workOut 326 = .ok (.iconst 0, 1) := by decide +kernel
theorem dX3_workOut_327 : decode cX3_workOut 327 = .ok (.istore_n 2, 1) := by decide +kernel
theorem dX3_workOut_328 : decode cX3_workOut 328 = .ok (.iload_n 2, 1) := by decide +kernel
theorem dX3_workOut_329 : decode cX3_workOut 329 = .ok (.aload_n 0, 1) := by decide +kernel
theorem dX3_workOut_330 : decode cX3_workOut 330 = .ok (.getfield 24, 3) := by decide +kernel
theorem dX3_workOut_333 : decode cX3_workOut 333 = .ok (.if_icmp .ge 48, 3) := by decide +kernel
theorem dX3_workOut_336 : decode cX3_workOut 336 = .ok (.aload_n 0, 1) := by decide +kernel
theorem dX3_workOut_337 : decode cX3_workOut 337 = .ok (.aload_n 0, 1) := by decide +kernel
theorem dX3_workOut_338 : decode cX3_workOut 338 = .ok (.getfield 60, 3) := by decide +kernel
theorem dX3_workOut_341 : decode cX3_workOut 341 = .ok (.iload_n 2, 1) := by decide +kernel
theorem dX3_workOut_342 : decode cX3_workOut 342 = .ok (.baload, 1) := by decide +kernel
theorem dX3_workOut_343 : decode cX3_workOut 343 = .ok (.ifCond .eq 25, 3) := by decide +kernel
theorem dX3_workOut_346 : decode cX3_workOut 346 = .ok (.aload_n 0, 1) := by decide +kernel
theorem dX3_workOut_347 : decode cX3_workOut 347 = .ok (.getfield 36, 3) := by decide +kernel
theorem dX3_workOut_350 : decode cX3_workOut 350 = .ok (.iload_n 2, 1) := by decide +kernel
theorem dX3_workOut_351 : decode cX3_workOut 351 = .ok (.iaload, 1) := by decide +kernel
theorem dX3_workOut_352 : decode cX3_workOut 352 = .ok (.aload_n 0, 1) := by decide +kernel
theorem dX3_workOut_353 : decode cX3_workOut 353 = .ok (.getfield 36, 3) := by decide +kernel
theorem dX3_workOut_356 : decode cX3_workOut 356 = .ok (.aload_n 0, 1) := by decide +kernel
theorem dX3_workOut_357 : decode cX3_workOut 357 = .ok (.getfield 103, 3) := by decide +kernel
theorem dX3_workOut_360 : decode cX3_workOut 360 = .ok (.iaload, 1) := by decide +kernel
theorem dX3_workOut_361 : decode cX3_workOut 361 = .ok (.if_icmp .le 7, 3) := by decide +kernel
theorem dX3_workOut_364 : decode cX3_workOut 364 = .ok (.iload_n 2, 1) := by decide +kernel
theorem dX3_workOut_365 : decode cX3_workOut 365 = .ok (.goto 7, 3) := by decide +kernel
theorem dX3_workOut_368 : decode cX3_workOut 368 = .ok (.aload_n 0, 1) := by decide +kernel
theorem dX3_workOut_369 : decode cX3_workOut 369 = .ok (.getfield 103, 3) := by decide +kernel
theorem dX3_workOut_372 : decode cX3_workOut 372 = .ok (.putfield 103, 3) := by decide +kernel
theorem dX3_workOut_375 : decode cX3_workOut 375 = .ok (.iinc 2 1, 3) := by decide +kernel
theorem dX3_workOut_378 : decode cX3_workOut 378 = .ok (.goto (-50), 3) := by decide +kernel
theorem dX3_workOut_381 : decode cX3_workOut 381 = .ok (.return_, 1) := by decide +kernel
theorem dX3_gain_0 : decode cX3_gain 0 = .ok (.aload_n 0, 1) := by decide +kernel
theorem dX3_gain_1 : decode cX3_gain 1 = .ok (.getfield 42, 3) := by decide +kernel
theorem dX3_gain_4 : decode cX3_gain 4 = .ok (.bipush 10, 2) := by decide +kernel
theorem dX3_gain_6 : decode cX3_gain 6 = .ok (.iload_n 2, 1) := by decide +kernel
theorem dX3_gain_7 : decode cX3_gain 7 = .ok (.imul, 1) := by decide +kernel
theorem dX3_gain_8 : decode cX3_gain 8 = .ok (.iload_n 1, 1) := by decide +kernel
theorem dX3_gain_9 : decode cX3_gain 9 = .ok (.iadd, 1) := by decide +kernel
theorem dX3_gain_10 : decode cX3_gain 10 = .ok (.iconst 1, 1) := by decide +kernel
theorem dX3_gain_11 : decode cX3_gain 11 = .ok (.bastore, 1) := by decide +kernel
theorem dX3_gain_12 : decode cX3_gain 12 = .ok (.aload_n 0, 1) := by decide +kernel
theorem dX3_gain_13 : decode cX3_gain 13 = .ok (.getfield 45, 3) := by decide +kernel
theorem dX3_gain_16 : decode cX3_gain 16 = .ok (.bipush 10, 2) := by decide +kernel
theorem dX3_gain_18 : decode cX3_gain 18 = .ok (.iload_n 2, 1) := by decide +kernel
theorem dX3_gain_19 : decode cX3_gain 19 = .ok (.imul, 1) := by decide +kernel
theorem dX3_gain_20 : decode cX3_gain 20 = .ok (.iload_n 1, 1) := by decide +kernel
theorem dX3_gain_21 : decode cX3_gain 21 = .ok (.iadd, 1) := by decide +kernel
theorem dX3_gain_22 : decode cX3_gain 22 = .ok (.iconst 0, 1) := by decide +kernel
theorem dX3_gain_23 : decode cX3_gain 23 = .ok (.bastore, 1) := by decide +kernel
theorem dX3_gain_24 : decode cX3_gain 24 = .ok (.iload_n 2, 1) := by decide +kernel
theorem dX3_gain_25 : decode cX3_gain 25 = .ok (.bipush 11, 2) := by decide +kernel
theorem dX3_gain_27 : decode cX3_gain 27 = .ok (.irem, 1) := by decide +kernel
theorem dX3_gain_28 : decode cX3_gain 28 = .ok (.ifCond .ne 31, 3) := by decide +kernel
theorem dX3_gain_31 : decode cX3_gain 31 = .ok (.aload_n 0, 1) := by decide +kernel
theorem dX3_gain_32 : decode cX3_gain 32 = .ok (.dup, 1) := by decide +kernel
theorem dX3_gain_33 : decode cX3_gain 33 = .ok (.getfield 106, 3) := by decide +kernel
theorem dX3_gain_36 : decode cX3_gain 36 = .ok (.iconst 1, 1) := by decide +kernel
theorem dX3_gain_37 : decode cX3_gain 37 = .ok (.iadd, 1) := by decide +kernel
theorem dX3_gain_38 : decode cX3_gain 38 = .ok (.putfield 106, 3) := by decide +kernel
theorem dX3_gain_41 : decode cX3_gain 41 = .ok (.aload_n 0, 1) := by decide +kernel
theorem dX3_gain_42 : decode cX3_gain 42 = .ok (.getfield 48, 3) := by decide +kernel
theorem dX3_gain_45 : decode cX3_gain 45 = .ok (.bipush 10, 2) := by decide +kernel
theorem dX3_gain_47 : decode cX3_gain 47 = .ok (.iload_n 2, 1) := by decide +kernel
theorem dX3_gain_48 : decode cX3_gain 48 = .ok (.bipush 11, 2) := by decide +kernel
theorem dX3_gain_50 : decode cX3_gain 50 = .ok (.idiv, 1) := by decide +kernel
theorem dX3_gain_51 : decode cX3_gain 51 = .ok (.imul, 1) := by decide +kernel
theorem dX3_gain_52 : decode cX3_gain 52 = .ok (.iload_n 1, 1) := by decide +kernel
theorem dX3_gain_53 : decode cX3_gain 53 = .ok (.iadd, 1) := by decide +kernel
theorem dX3_gain_54 : decode cX3_gain 54 = .ok (.aload_n 0, 1) := by decide +kernel
theorem dX3_gain_55 : decode cX3_gain 55 = .ok (.getfield 106, 3) := by decide +kernel
theorem dX3_gain_58 : decode cX3_gain 58 = .ok (.iastore, 1) := by decide +kernel
theorem dX3_gain_59 : decode cX3_gain 59 = .ok (.iconst 0, 1) := by decide +kernel
theorem dX3_gain_60 : decode cX3_gain 60 = .ok (.istore_n 3, 1) := by decide +kernel
theorem dX3_gain_61 : decode cX3_gain 61 = .ok (.iload_n 3, 1) := by decide +kernel
theorem dX3_gain_62 : decode cX3_gain 62 = .ok (.aload_n 0, 1) := by decide +kernel
theorem dX3_gain_63 : decode cX3_gain 63 = .ok (.getfield 69, 3) := by decide +kernel
theorem dX3_gain_66 : decode cX3_gain 66 = .ok (.if_icmp .ge 48, 3) := by decide +kernel
theorem dX3_gain_69 : decode cX3_gain 69 = .ok (.aload_n 0, 1) := by decide +kernel
theorem dX3_gain_70 : decode cX3_gain 70 = .ok (.getfield 13, 3) := by decide +kernel
theorem dX3_gain_73 : decode cX3_gain 73 = .ok (.iload_n 1, 1) := by decide +kernel
theorem dX3_gain_74 : decode cX3_gain 74 = .ok (.baload, 1) := by decide +kernel
theorem dX3_gain_75 : decode cX3_gain 75 = .ok (.ifCond .ne 39, 3) := by decide +kernel
theorem dX3_gain_78 : decode cX3_gain 78 = .ok (.aload_n 0, 1) := by decide +kernel
theorem dX3_gain_79 : decode cX3_gain 79 = .ok (.getfield 45, 3) := by decide +kernel
theorem dX3_gain_82 : decode cX3_gain 82 = .ok (.bipush 10, 2) := by decide +kernel
theorem dX3_gain_84 : decode cX3_gain 84 = .ok (.iload_n 2, 1) := by decide +kernel
theorem dX3_gain_85 : decode cX3_gain 85 = .ok (.imul, 1) := by decide +kernel
theorem dX3_gain_86 : decode cX3_gain 86 = .ok (.iload_n 3, 1) := by decide +kernel
theorem dX3_gain_87 : decode cX3_gain 87 = .ok (.iadd, 1) := by decide +kernel
theorem dX3_gain_88 : decode cX3_gain 88 = .ok (.aload_n 0, 1) := by decide +kernel
theorem dX3_gain_89 : decode cX3_gain 89 = .ok (.getfield 42, 3) := by decide +kernel
theorem dX3_gain_92 : decode cX3_gain 92 = .ok (.bipush 10, 2) := by decide +kernel
theorem dX3_gain_94 : decode cX3_gain 94 = .ok (.iload_n 2, 1) := by decide +kernel
theorem dX3_gain_95 : decode cX3_gain 95 = .ok (.imul, 1) := by decide +kernel
theorem dX3_gain_96 : decode cX3_gain 96 = .ok (.iload_n 3, 1) := by decide +kernel
theorem dX3_gain_97 : decode cX3_gain 97 = .ok (.iadd, 1) := by decide +kernel
theorem dX3_gain_98 : decode cX3_gain 98 = .ok (.baload, 1) := by decide +kernel
theorem dX3_gain_99 : decode cX3_gain 99 = .ok (.ifCond .ne 7, 3) := by decide +kernel
theorem dX3_gain_102 : decode cX3_gain 102 = .ok (.iconst 1, 1) := by decide +kernel
theorem dX3_gain_103 : decode cX3_gain 103 = .ok (.goto 4, 3) := by decide +kernel
theorem dX3_gain_106 : decode cX3_gain 106 = .ok (.iconst 0, 1) := by decide +kernel
theorem dX3_gain_107 : decode cX3_gain 107 = .ok (.bastore, 1) := by decide +kernel
theorem dX3_gain_108 : decode cX3_gain 108 = .ok (.iinc 3 1, 3) := by decide +kernel
theorem dX3_gain_111 : decode cX3_gain 111 = .ok (.goto (-50), 3) := by decide +kernel
theorem dX3_gain_114 : decode cX3_gain 114 = .ok (.return_, 1) := by decide +kernel
theorem dX3_look_0 : decode cX3_look 0 = .ok (.aload_n 0, 1) := by decide +kernel
theorem dX3_look_1 : decode cX3_look 1 = .ok (.getfield 13, 3) := by decide +kernel
theorem dX3_look_4 : decode cX3_look 4 = .ok (.iload_n 1, 1) := by decide +kernel
theorem dX3_look_5 : decode cX3_look 5 = .ok (.baload, 1) := by decide +kernel
theorem dX3_look_6 : decode cX3_look 6 = .ok (.ifCond .ne 28, 3) := by decide +kernel
theorem dX3_look_9 : decode cX3_look 9 = .ok (.aload_n 0, 1) := by decide +kernel
theorem dX3_look_10 : decode cX3_look 10 = .ok (.getfield 85, 3) := by decide +kernel
theorem dX3_look_13 : decode cX3_look 13 = .ok (.ifCond .eq 21, 3) := by decide +kernel
theorem dX3_look_16 : decode cX3_look 16 = .ok (.aload_n 0, 1) := by decide +kernel
theorem dX3_look_17 : decode cX3_look 17 = .ok (.getfield 51, 3) := by decide +kernel
theorem dX3_look_20 : decode cX3_look 20 = .ok (.bipush 41, 2) := by decide +kernel
theorem dX3_look_22 : decode cX3_look 22 = .ok (.iload_n 1, 1) := by decide +kernel
theorem dX3_look_23 : decode cX3_look 23 = .ok (.imul, 1) := by decide +kernel
theorem dX3_look_24 : decode cX3_look 24 = .ok (.aload_n 0, 1) := by decide +kernel
theorem dX3_look_25 : decode cX3_look 25 = .ok (.getfield 85, 3) := by decide +kernel
theorem dX3_look_28 : decode cX3_look 28 = .ok (.iadd, 1) := by decide +kernel
theorem dX3_look_29 : decode cX3_look 29 = .ok (.iaload, 1) := by decide +kernel
theorem dX3_look_30 : decode cX3_look 30 = .ok (.iconst (-1), 1) := by decide +kernel
theorem dX3_look_31 : decode cX3_look 31 = .ok (.if_icmp .eq 4, 3) := by decide +kernel
theorem dX3_look_34 : decode cX3_look 34 = .ok (.return_, 1) := by decide +kernel
theorem dX3_look_35 : decode cX3_look 35 = .ok (.iconst (-1), 1) := by decide +kernel
theorem dX3_look_36 : decode cX3_look 36 = .ok (.istore_n 2, 1) := by decide +kernel
theorem dX3_look_37 : decode cX3_look 37 = .ok (.iconst 1, 1) := by decide +kernel
theorem dX3_look_38 : decode cX3_look 38 = .ok (.istore_n 3, 1) := by decide +kernel
theorem dX3_look_39 : decode cX3_look 39 = .ok (.iload_n 3, 1) := by decide +kernel
theorem dX3_look_40 : decode cX3_look 40 = .ok (.aload_n 0, 1) := by decide +kernel
theorem dX3_look_41 : decode cX3_look 41 = .ok (.getfield 24, 3) := by decide +kernel
theorem dX3_look_44 : decode cX3_look 44 = .ok (.if_icmp .ge 72, 3) := by decide +kernel
theorem dX3_look_47 : decode cX3_look 47 = .ok (.aload_n 0, 1) := by decide +kernel
theorem dX3_look_48 : decode cX3_look 48 = .ok (.getfield 30, 3) := by decide +kernel
theorem dX3_look_51 : decode cX3_look 51 = .ok (.iload_n 3, 1) := by decide +kernel
theorem dX3_look_52 : decode cX3_look 52 = .ok (.iaload, 1) := by decide +kernel
theorem dX3_look_53 : decode cX3_look 53 = .ok (.aload_n 0, 1) := by decide +kernel
theorem dX3_look_54 : decode cX3_look 54 = .ok (.getfield 85, 3) := by decide +kernel
theorem dX3_look_57 : decode cX3_look 57 = .ok (.if_icmp .ne 53, 3) := by decide +kernel
theorem dX3_look_60 : decode cX3_look 60 = .ok (.aload_n 0, 1) := by decide +kernel
theorem dX3_look_61 : decode cX3_look 61 = .ok (.getfield 42, 3) := by decide +kernel
theorem dX3_look_64 : decode cX3_look 64 = .ok (.bipush 10, 2) := by decide +kernel
theorem dX3_look_66 : decode cX3_look 66 = .ok (.iload_n 3, 1) := by decide +kernel
theorem dX3_look_67 : decode cX3_look 67 = .ok (.iconst (-1), 1) := by decide +kernel
theorem dX3_look_68 : decode cX3_look 68 = .ok (.invokestatic 90, 3) := by decide +kernel
theorem dX3_look_71 : decode cX3_look 71 = .ok (.imul, 1) := by decide +kernel
theorem dX3_look_72 : decode cX3_look 72 = .ok (.iload_n 1, 1) := by decide +kernel
theorem dX3_look_73 : decode cX3_look 73 = .ok (.iadd, 1) := by decide +kernel
theorem dX3_look_74 : decode cX3_look 74 = .ok (.baload, 1) := by decide +kernel
theorem dX3_look_75 : decode cX3_look 75 = .ok (.ifCond .eq 35, 3) := by decide +kernel
theorem dX3_look_78 : decode cX3_look 78 = .ok (.iload_n 2, 1) := by decide +kernel
theorem dX3_look_79 : decode cX3_look 79 = .ok (.iconst (-1), 1) := by decide +kernel
theorem dX3_look_80 : decode cX3_look 80 = .ok (.if_icmp .eq 28, 3) := by decide +kernel
theorem dX3_look_83 : decode cX3_look 83 = .ok (.aload_n 0, 1) := by decide +kernel
theorem dX3_look_84 : decode cX3_look 84 = .ok (.getfield 48, 3) := by decide +kernel
theorem dX3_look_87 : decode cX3_look 87 = .ok (.bipush 10, 2) := by decide +kernel
theorem dX3_look_89 : decode cX3_look 89 = .ok (.iload_n 3, 1) := by decide +kernel
theorem dX3_look_90 : decode cX3_look 90 = .ok (.imul, 1) := by decide +kernel
theorem dX3_look_91 : decode cX3_look 91 = .ok (.iload_n 1, 1) := by decide +kernel
theorem dX3_look_92 : decode cX3_look 92 = .ok (.iadd, 1) := by decide +kernel
theorem dX3_look_93 : decode cX3_look 93 = .ok (.iaload, 1) := by decide +kernel
theorem dX3_look_94 : decode cX3_look 94 = .ok (.aload_n 0, 1) := by decide +kernel
theorem dX3_look_95 : decode cX3_look 95 = .ok (.getfield 48, 3) := by decide +kernel
theorem dX3_look_98 : decode cX3_look 98 = .ok (.bipush 10, 2) := by decide +kernel
theorem dX3_look_100 : decode cX3_look 100 = .ok (.iload_n 2, 1) := by decide +kernel
theorem dX3_look_101 : decode cX3_look 101 = .ok (.imul, 1) := by decide +kernel
theorem dX3_look_102 : decode cX3_look 102 = .ok (.iload_n 1, 1) := by decide +kernel
theorem dX3_look_103 : decode cX3_look 103 = .ok (.iadd, 1) := by decide +kernel
theorem dX3_look_104 : decode cX3_look 104 = .ok (.iaload, 1) := by decide +kernel
theorem dX3_look_105 : decode cX3_look 105 = .ok (.if_icmp .ge 5, 3) := by decide +kernel
theorem dX3_look_108 : decode cX3_look 108 = .ok (.iload_n 3, 1) := by decide +kernel
theorem dX3_look_109 : decode cX3_look 109 = .ok (.istore_n 2, 1) := by decide +kernel
theorem dX3_look_110 : decode cX3_look 110 = .ok (.iinc 3 1, 3) := by decide +kernel
theorem dX3_look_113 : decode cX3_look 113 = .ok (.goto (-74), 3) := by decide +kernel
theorem dX3_look_116 : decode cX3_look 116 = .ok (.iload_n 2, 1) := by decide +kernel
theorem dX3_look_117 : decode cX3_look 117 = .ok (.iconst (-1), 1) := by decide +kernel
theorem dX3_look_118 : decode cX3_look 118 = .ok (.if_icmp .ne 4, 3) := by decide +kernel
theorem dX3_look_121 : decode cX3_look 121 = .ok (.return_, 1) := by decide +kernel
theorem dX3_look_122 : decode cX3_look 122 = .ok (.aload_n 0, 1) := by decide +kernel
theorem dX3_look_123 : decode cX3_look 123 = .ok (.iload_n 1, 1) := by decide +kernel
theorem dX3_look_124 : decode cX3_look 124 = .ok (.invokevirtual 109, 3) := by decide +kernel
theorem dX3_look_127 : decode cX3_look 127 = .ok (.aload_n 0, 1) := by decide +kernel
theorem dX3_look_128 : decode cX3_look 128 = .ok (.getfield 54, 3) := by decide +kernel
theorem dX3_look_131 : decode cX3_look 131 = .ok (.iload_n 2, 1) := by decide +kernel
theorem dX3_look_132 : decode cX3_look 132 = .ok (.baload, 1) := by decide +kernel
theorem dX3_look_133 : decode cX3_look 133 = .ok (.ifCond .eq 88, 3) := by decide +kernel
theorem dX3_look_136 : decode cX3_look 136 = .ok (.aload_n 0, 1) := by decide +kernel
theorem dX3_look_137 : decode cX3_look 137 = .ok (.getfield 57, 3) := by decide +kernel
theorem dX3_look_140 : decode cX3_look 140 = .ok (.aload_n 0, 1) := by decide +kernel
theorem dX3_look_141 : decode cX3_look 141 = .ok (.getfield 27, 3) := by decide +kernel
theorem dX3_look_144 : decode cX3_look 144 = .ok (.iload_n 2, 1) := by decide +kernel
theorem dX3_look_145 : decode cX3_look 145 = .ok (.iaload, 1) := by decide +kernel
theorem dX3_look_146 : decode cX3_look 146 = .ok (.baload, 1) := by decide +kernel
theorem dX3_look_147 : decode cX3_look 147 = .ok (.ifCond .eq 74, 3) := by decide +kernel
theorem dX3_look_150 : decode cX3_look 150 = .ok (.aload_n 0, 1) := by decide +kernel
theorem dX3_look_151 : decode cX3_look 151 = .ok (.getfield 36, 3) := by decide +kernel
theorem dX3_look_154 : decode cX3_look 154 = .ok (.aload_n 0, 1) := by decide +kernel
theorem dX3_look_155 : decode cX3_look 155 = .ok (.getfield 27, 3) := by decide +kernel
theorem dX3_look_158 : decode cX3_look 158 = .ok (.iload_n 2, 1) := by decide +kernel
theorem dX3_look_159 : decode cX3_look 159 = .ok (.iaload, 1) := by decide +kernel
theorem dX3_look_160 : decode cX3_look 160 = .ok (.iaload, 1) := by decide +kernel
theorem dX3_look_161 : decode cX3_look 161 = .ok (.aload_n 0, 1) := by decide +kernel
theorem dX3_look_162 : decode cX3_look 162 = .ok (.getfield 94, 3) := by decide +kernel
theorem dX3_look_165 : decode cX3_look 165 = .ok (.if_icmp .ne 56, 3) := by decide +kernel
theorem dX3_look_168 : decode cX3_look 168 = .ok (.aload_n 0, 1) := by decide +kernel
theorem dX3_look_169 : decode cX3_look 169 = .ok (.getfield 51, 3) := by decide +kernel
theorem dX3_look_172 : decode cX3_look 172 = .ok (.bipush 41, 2) := by decide +kernel
theorem dX3_look_174 : decode cX3_look 174 = .ok (.iload_n 1, 1) := by decide +kernel
theorem dX3_look_175 : decode cX3_look 175 = .ok (.imul, 1) := by decide +kernel
theorem dX3_look_176 : decode cX3_look 176 = .ok (.aload_n 0, 1) := by decide +kernel
theorem dX3_look_177 : decode cX3_look 177 = .ok (.getfield 85, 3) := by decide +kernel
theorem dX3_look_180 : decode cX3_look 180 = .ok (.iadd, 1) := by decide +kernel
theorem dX3_look_181 : decode cX3_look 181 = .ok (.iload_n 2, 1) := by decide +kernel
theorem dX3_look_182 : decode cX3_look 182 = .ok (.iastore, 1) := by decide +kernel
theorem dX3_look_183 : decode cX3_look 183 = .ok (.aload_n 0, 1) := by decide +kernel
theorem dX3_look_184 : decode cX3_look 184 = .ok (.dup, 1) := by decide +kernel
theorem dX3_look_185 : decode cX3_look 185 = .ok (.getfield 113, 3) := by decide +kernel
theorem dX3_look_188 : decode cX3_look 188 = .ok (.iconst 1, 1) := by decide +kernel
theorem dX3_look_189 : decode cX3_look 189 = .ok (.iadd, 1) := by decide +kernel
theorem dX3_look_190 : decode cX3_look 190 = .ok (.putfield 113, 3) := by decide +kernel
theorem dX3_look_193 : decode cX3_look 193 = .ok (.aload_n 0, 1) := by decide +kernel
theorem dX3_look_194 : decode cX3_look 194 = .ok (.getfield 42, 3) := by decide +kernel
theorem dX3_look_197 : decode cX3_look 197 = .ok (.bipush 10, 2) := by decide +kernel
theorem dX3_look_199 : decode cX3_look 199 = .ok (.iload_n 2, 1) := by decide +kernel
theorem dX3_look_200 : decode cX3_look 200 = .ok (.iload_n 1, 1) := by decide +kernel
theorem dX3_look_201 : decode cX3_look 201 = .ok (.invokestatic 90, 3) := by decide +kernel
theorem dX3_look_204 : decode cX3_look 204 = .ok (.imul, 1) := by decide +kernel
theorem dX3_look_205 : decode cX3_look 205 = .ok (.iload_n 1, 1) := by decide +kernel
theorem dX3_look_206 : decode cX3_look 206 = .ok (.iadd, 1) := by decide +kernel
theorem dX3_look_207 : decode cX3_look 207 = .ok (.baload, 1) := by decide +kernel
theorem dX3_look_208 : decode cX3_look 208 = .ok (.ifCond .ne 13, 3) := by decide +kernel
theorem dX3_look_211 : decode cX3_look 211 = .ok (.aload_n 0, 1) := by decide +kernel
theorem dX3_look_212 : decode cX3_look 212 = .ok (.iload_n 1, 1) := by decide +kernel
theorem dX3_look_213 : decode cX3_look 213 = .ok (.iload_n 2, 1) := by decide +kernel
theorem dX3_look_214 : decode cX3_look 214 = .ok (.iload_n 1, 1) := by decide +kernel
theorem dX3_look_215 : decode cX3_look 215 = .ok (.invokestatic 90, 3) := by decide +kernel
theorem dX3_look_218 : decode cX3_look 218 = .ok (.invokevirtual 116, 3) := by decide +kernel
theorem dX3_look_221 : decode cX3_look 221 = .ok (.return_, 1) := by decide +kernel
theorem dX3_newBlock_0 : decode cX3_newBlock 0 = .ok (.aload_n 0, 1) := by decide +kernel
theorem dX3_newBlock_1 : decode cX3_newBlock 1 = .ok (.getfield 24, 3) := by decide +kernel
theorem dX3_newBlock_4 : decode cX3_newBlock 4 = .ok (.istore 5, 2) := by decide +kernel
theorem dX3_newBlock_6 : decode cX3_newBlock 6 = .ok (.aload_n 0, 1) := by decide +kernel
theorem dX3_newBlock_7 : decode cX3_newBlock 7 = .ok (.dup, 1) := by decide +kernel
theorem dX3_newBlock_8 : decode cX3_newBlock 8 = .ok (.getfield 24, 3) := by decide +kernel
theorem dX3_newBlock_11 : decode cX3_newBlock 11 = .ok (.iconst 1, 1) := by decide +kernel
theorem dX3_newBlock_12 : decode cX3_newBlock 12 = .ok (.iadd, 1) := by decide +kernel
theorem dX3_newBlock_13 : decode cX3_newBlock 13 = .ok (.putfield 24, 3) := by decide +kernel
theorem dX3_newBlock_16 : decode cX3_newBlock 16 = .ok (.aload_n 0, 1) := by decide +kernel
theorem dX3_newBlock_17 : decode cX3_newBlock 17 = .ok (.getfield 27, 3) := by decide +kernel
theorem dX3_newBlock_20 : decode cX3_newBlock 20 = .ok (.iload 5, 2) := by decide +kernel
theorem dX3_newBlock_22 : decode cX3_newBlock 22 = .ok (.iload_n 1, 1) := by decide +kernel
theorem dX3_newBlock_23 : decode cX3_newBlock 23 = .ok (.iastore, 1) := by decide +kernel
theorem dX3_newBlock_24 : decode cX3_newBlock 24 = .ok (.aload_n 0, 1) := by decide +kernel
theorem dX3_newBlock_25 : decode cX3_newBlock 25 = .ok (.getfield 30, 3) := by decide +kernel
theorem dX3_newBlock_28 : decode cX3_newBlock 28 = .ok (.iload 5, 2) := by decide +kernel
theorem dX3_newBlock_30 : decode cX3_newBlock 30 = .ok (.iload_n 2, 1) := by decide +kernel
theorem dX3_newBlock_31 : decode cX3_newBlock 31 = .ok (.iastore, 1) := by decide +kernel
theorem dX3_newBlock_32 : decode cX3_newBlock 32 = .ok (.aload_n 0, 1) := by decide +kernel
theorem dX3_newBlock_33 : decode cX3_newBlock 33 = .ok (.getfield 33, 3) := by decide +kernel
theorem dX3_newBlock_36 : decode cX3_newBlock 36 = .ok (.iload 5, 2) := by decide +kernel
theorem dX3_newBlock_38 : decode cX3_newBlock 38 = .ok (.iload_n 3, 1) := by decide +kernel
theorem dX3_newBlock_39 : decode cX3_newBlock 39 = .ok (.iastore, 1) := by decide +kernel
theorem dX3_newBlock_40 : decode cX3_newBlock 40 = .ok (.aload_n 0, 1) := by decide +kernel
theorem dX3_newBlock_41 : decode cX3_newBlock 41 = .ok (.getfield 36, 3) := by decide +kernel
theorem dX3_newBlock_44 : decode cX3_newBlock 44 = .ok (.iload 5, 2) := by decide +kernel
theorem dX3_newBlock_46 : decode cX3_newBlock 46 = .ok (.aload_n 0, 1) := by decide +kernel
theorem dX3_newBlock_47 : decode cX3_newBlock 47 = .ok (.getfield 36, 3) := by decide +kernel
theorem dX3_newBlock_50 : decode cX3_newBlock 50 = .ok (.iload_n 1, 1) := by decide +kernel
theorem dX3_newBlock_51 : decode cX3_newBlock 51 = .ok (.iaload, 1) := by decide +kernel
theorem dX3_newBlock_52 : decode cX3_newBlock 52 = .ok (.iconst 1, 1) := by decide +kernel
theorem dX3_newBlock_53 : decode cX3_newBlock 53 = .ok (.iadd, 1) := by decide +kernel
theorem dX3_newBlock_54 : decode cX3_newBlock 54 = .ok (.iastore, 1) := by decide +kernel
theorem dX3_newBlock_55 : decode cX3_newBlock 55 = .ok (.aload_n 0, 1) := by decide +kernel
theorem dX3_newBlock_56 : decode cX3_newBlock 56 = .ok (.getfield 39, 3) := by decide +kernel
theorem dX3_newBlock_59 : decode cX3_newBlock 59 = .ok (.iload 5, 2) := by decide +kernel
theorem dX3_newBlock_61 : decode cX3_newBlock 61 = .ok (.iload 4, 2) := by decide +kernel
theorem dX3_newBlock_63 : decode cX3_newBlock 63 = .ok (.iastore, 1) := by decide +kernel
theorem dX3_newBlock_64 : decode cX3_newBlock 64 = .ok (.iload 5, 2) := by decide +kernel
theorem dX3_newBlock_66 : decode cX3_newBlock 66 = .ok (.ireturn, 1) := by decide +kernel
theorem dX3_epoch_0 : decode cX3_epoch 0 = .ok (.aload_n 0, 1) := by decide +kernel
theorem dX3_epoch_1 : decode cX3_epoch 1 = .ok (.iconst 0, 1) := by decide +kernel
theorem dX3_epoch_2 : decode cX3_epoch 2 = .ok (.putfield 1, 3) := by decide +kernel
theorem dX3_epoch_5 : decode cX3_epoch 5 = .ok (.aload_n 0, 1) := by decide +kernel
theorem dX3_epoch_6 : decode cX3_epoch 6 = .ok (.getfield 85, 3) := by decide +kernel
theorem dX3_epoch_9 : decode cX3_epoch 9 = .ok (.bipush 40, 2) := by decide +kernel
theorem dX3_epoch_11 : decode cX3_epoch 11 = .ok (.if_icmp .ne 6, 3) := by decide +kernel
theorem dX3_epoch_14 : decode cX3_epoch 14 = .ok (.bipush (-3), 2) := by decide +kernel
theorem dX3_epoch_16 : decode cX3_epoch 16 = .ok (.ireturn, 1) := by decide +kernel
theorem dX3_epoch_17 : decode cX3_epoch 17 = .ok (.aload_n 0, 1) := by decide +kernel
theorem dX3_epoch_18 : decode cX3_epoch 18 = .ok (.getfield 21, 3) := by decide +kernel
theorem dX3_epoch_21 : decode cX3_epoch 21 = .ok (.aload_n 0, 1) := by decide +kernel
theorem dX3_epoch_22 : decode cX3_epoch 22 = .ok (.getfield 85, 3) := by decide +kernel
theorem dX3_epoch_25 : decode cX3_epoch 25 = .ok (.iconst 1, 1) := by decide +kernel
theorem dX3_epoch_26 : decode cX3_epoch 26 = .ok (.iadd, 1) := by decide +kernel
theorem dX3_epoch_27 : decode cX3_epoch 27 = .ok (.iaload, 1) := by decide +kernel
theorem dX3_epoch_28 : decode cX3_epoch 28 = .ok (.istore_n 1, 1) := by decide +kernel
theorem dX3_epoch_29 : decode cX3_epoch 29 = .ok (.aload_n 0, 1) := by decide +kernel
theorem dX3_epoch_30 : decode cX3_epoch 30 = .ok (.getfield 13, 3) := by decide +kernel
theorem dX3_epoch_33 : decode cX3_epoch 33 = .ok (.iload_n 1, 1) := by decide +kernel
theorem dX3_epoch_34 : decode cX3_epoch 34 = .ok (.baload, 1) := by decide +kernel
theorem dX3_epoch_35 : decode cX3_epoch 35 = .ok (.ifCond .ne 15, 3) := by decide +kernel
theorem dX3_epoch_38 : decode cX3_epoch 38 = .ok (.aload_n 0, 1) := by decide +kernel
theorem dX3_epoch_39 : decode cX3_epoch 39 = .ok (.getfield 24, 3) := by decide +kernel
theorem dX3_epoch_42 : decode cX3_epoch 42 = .ok (.bipush 61, 2) := by decide +kernel
theorem dX3_epoch_44 : decode cX3_epoch 44 = .ok (.if_icmp .ne 6, 3) := by decide +kernel
theorem dX3_epoch_47 : decode cX3_epoch 47 = .ok (.bipush (-4), 2) := by decide +kernel
theorem dX3_epoch_49 : decode cX3_epoch 49 = .ok (.ireturn, 1) := by decide +kernel
theorem dX3_epoch_50 : decode cX3_epoch 50 = .ok (.aload_n 0, 1) := by decide +kernel
theorem dX3_epoch_51 : decode cX3_epoch 51 = .ok (.dup, 1) := by decide +kernel
theorem dX3_epoch_52 : decode cX3_epoch 52 = .ok (.getfield 85, 3) := by decide +kernel
theorem dX3_epoch_55 : decode cX3_epoch 55 = .ok (.iconst 1, 1) := by decide +kernel
theorem dX3_epoch_56 : decode cX3_epoch 56 = .ok (.iadd, 1) := by decide +kernel
theorem dX3_epoch_57 : decode cX3_epoch 57 = .ok (.putfield 85, 3) := by decide +kernel
theorem dX3_epoch_60 : decode cX3_epoch 60 = .ok (.aload_n 0, 1) := by decide +kernel
theorem dX3_epoch_61 : decode cX3_epoch 61 = .ok (.getfield 13, 3) := by decide +kernel
theorem dX3_epoch_64 : decode cX3_epoch 64 = .ok (.iload_n 1, 1) := by decide +kernel
theorem dX3_epoch_65 : decode cX3_epoch 65 = .ok (.baload, 1) := by decide +kernel
theorem dX3_epoch_66 : decode cX3_epoch 66 = .ok (.ifCond .ne 71, 3) := by decide +kernel
theorem dX3_epoch_69 : decode cX3_epoch 69 = .ok (.aload_n 0, 1) := by decide +kernel
theorem dX3_epoch_70 : decode cX3_epoch 70 = .ok (.iload_n 1, 1) := by decide +kernel
theorem dX3_epoch_71 : decode cX3_epoch 71 = .ok (.invokevirtual 109, 3) := by decide +kernel
theorem dX3_epoch_74 : decode cX3_epoch 74 = .ok (.aload_n 0, 1) := by decide +kernel
theorem dX3_epoch_75 : decode cX3_epoch 75 = .ok (.getfield 17, 3) := by decide +kernel
theorem dX3_epoch_78 : decode cX3_epoch 78 = .ok (.iload_n 1, 1) := by decide +kernel
theorem dX3_epoch_79 : decode cX3_epoch 79 = .ok (.iaload, 1) := by decide +kernel
theorem dX3_epoch_80 : decode cX3_epoch 80 = .ok (.istore_n 2, 1) := by decide +kernel
theorem dX3_epoch_81 : decode cX3_epoch 81 = .ok (.aload_n 0, 1) := by decide +kernel
theorem dX3_epoch_82 : decode cX3_epoch 82 = .ok (.getfield 97, 3) := by decide +kernel
theorem dX3_epoch_85 : decode cX3_epoch 85 = .ok (.istore_n 3, 1) := by decide +kernel
theorem dX3_epoch_86 : decode cX3_epoch 86 = .ok (.iload_n 3, 1) := by decide +kernel
theorem dX3_epoch_87 : decode cX3_epoch 87 = .ok (.iconst (-1), 1) := by decide +kernel
theorem dX3_epoch_88 : decode cX3_epoch 88 = .ok (.if_icmp .eq 24, 3) := by decide +kernel
theorem dX3_epoch_91 : decode cX3_epoch 91 = .ok (.iload_n 2, 1) := by decide +kernel
theorem dX3_epoch_92 : decode cX3_epoch 92 = .ok (.aload_n 0, 1) := by decide +kernel
theorem dX3_epoch_93 : decode cX3_epoch 93 = .ok (.getfield 33, 3) := by decide +kernel
theorem dX3_epoch_96 : decode cX3_epoch 96 = .ok (.iload_n 3, 1) := by decide +kernel
theorem dX3_epoch_97 : decode cX3_epoch 97 = .ok (.iaload, 1) := by decide +kernel
theorem dX3_epoch_98 : decode cX3_epoch 98 = .ok (.iconst (-1), 1) := by decide +kernel
theorem dX3_epoch_99 : decode cX3_epoch 99 = .ok (.ixor, 1) := by decide +kernel
theorem dX3_epoch_100 : decode cX3_epoch 100 = .ok (.iand, 1) := by decide +kernel
theorem dX3_epoch_101 : decode cX3_epoch 101 = .ok (.istore_n 2, 1) := by decide +kernel
theorem dX3_epoch_102 : decode cX3_epoch 102 = .ok (.aload_n 0, 1) := by decide +kernel
theorem dX3_epoch_103 : decode cX3_epoch 103 = .ok (.getfield 27, 3) := by decide +kernel
theorem dX3_epoch_106 : decode cX3_epoch 106 = .ok (.iload_n 3, 1) := by decide +kernel
theorem dX3_epoch_107 : decode cX3_epoch 107 = .ok (.iaload, 1) := by decide +kernel
theorem dX3_epoch_108 : decode cX3_epoch 108 = .ok (.istore_n 3, 1) := by decide +kernel
theorem dX3_epoch_109 : decode cX3_epoch 109 = .ok (.goto (-23), 3) := by decide +kernel
theorem dX3_epoch_112 : decode cX3_epoch 112 = .ok (.aload_n 0, 1) := by decide +kernel
theorem dX3_epoch_113 : decode cX3_epoch 113 = .ok (.aload_n 0, 1) := by decide +kernel
theorem dX3_epoch_114 : decode cX3_epoch 114 = .ok (.getfield 97, 3) := by decide +kernel
theorem dX3_epoch_117 : decode cX3_epoch 117 = .ok (.aload_n 0, 1) := by decide +kernel
theorem dX3_epoch_118 : decode cX3_epoch 118 = .ok (.getfield 85, 3) := by decide +kernel
theorem dX3_epoch_121 : decode cX3_epoch 121 = .ok (.iload_n 2, 1) := by decide +kernel
theorem dX3_epoch_122 : decode cX3_epoch 122 = .ok (.iload_n 1, 1) := by decide +kernel
theorem dX3_epoch_123 : decode cX3_epoch 123 = .ok (.invokevirtual 120, 3) := by decide +kernel
theorem dX3_epoch_126 : decode cX3_epoch 126 = .ok (.istore_n 3, 1) := by decide +kernel
theorem dX3_epoch_127 : decode cX3_epoch 127 = .ok (.aload_n 0, 1) := by decide +kernel
theorem dX3_epoch_128 : decode cX3_epoch 128 = .ok (.iload_n 1, 1) := by decide +kernel
theorem dX3_epoch_129 : decode cX3_epoch 129 = .ok (.iload_n 3, 1) := by decide +kernel
theorem dX3_epoch_130 : decode cX3_epoch 130 = .ok (.iconst (-1), 1) := by decide +kernel
theorem dX3_epoch_131 : decode cX3_epoch 131 = .ok (.invokestatic 90, 3) := by decide +kernel
theorem dX3_epoch_134 : decode cX3_epoch 134 = .ok (.invokevirtual 116, 3) := by decide +kernel
theorem dX3_epoch_137 : decode cX3_epoch 137 = .ok (.iconst 0, 1) := by decide +kernel
theorem dX3_epoch_138 : decode cX3_epoch 138 = .ok (.istore_n 2, 1) := by decide +kernel
theorem dX3_epoch_139 : decode cX3_epoch 139 = .ok (.iload_n 2, 1) := by decide +kernel
theorem dX3_epoch_140 : decode cX3_epoch 140 = .ok (.aload_n 0, 1) := by decide +kernel
theorem dX3_epoch_141 : decode cX3_epoch 141 = .ok (.getfield 69, 3) := by decide +kernel
theorem dX3_epoch_144 : decode cX3_epoch 144 = .ok (.if_icmp .ge 14, 3) := by decide +kernel
theorem dX3_epoch_147 : decode cX3_epoch 147 = .ok (.aload_n 0, 1) := by decide +kernel
theorem dX3_epoch_148 : decode cX3_epoch 148 = .ok (.iload_n 2, 1) := by decide +kernel
theorem dX3_epoch_149 : decode cX3_epoch 149 = .ok (.invokevirtual 124, 3) := by decide +kernel
theorem dX3_epoch_152 : decode cX3_epoch 152 = .ok (.iinc 2 1, 3) := by decide +kernel
theorem dX3_epoch_155 : decode cX3_epoch 155 = .ok (.goto (-16), 3) := by decide +kernel
theorem dX3_epoch_158 : decode cX3_epoch 158 = .ok (.aload_n 0, 1) := by decide +kernel
theorem dX3_epoch_159 : decode cX3_epoch 159 = .ok (.getfield 85, 3) := by decide +kernel
theorem dX3_epoch_162 : decode cX3_epoch 162 = .ok (.ireturn, 1) := by decide +kernel
theorem dX3_comes_0 : decode cX3_comes 0 = .ok (.aload_n 0, 1) := by decide +kernel
theorem dX3_comes_1 : decode cX3_comes 1 = .ok (.dup, 1) := by decide +kernel
theorem dX3_comes_2 : decode cX3_comes 2 = .ok (.getfield 127, 3) := by decide +kernel
theorem dX3_comes_5 : decode cX3_comes 5 = .ok (.iconst 1, 1) := by decide +kernel
theorem dX3_comes_6 : decode cX3_comes 6 = .ok (.iadd, 1) := by decide +kernel
theorem dX3_comes_7 : decode cX3_comes 7 = .ok (.putfield 127, 3) := by decide +kernel
theorem dX3_comes_10 : decode cX3_comes 10 = .ok (.aload_n 0, 1) := by decide +kernel
theorem dX3_comes_11 : decode cX3_comes 11 = .ok (.iload_n 1, 1) := by decide +kernel
theorem dX3_comes_12 : decode cX3_comes 12 = .ok (.iload_n 2, 1) := by decide +kernel
theorem dX3_comes_13 : decode cX3_comes 13 = .ok (.invokevirtual 116, 3) := by decide +kernel
theorem dX3_comes_16 : decode cX3_comes 16 = .ok (.aload_n 0, 1) := by decide +kernel
theorem dX3_comes_17 : decode cX3_comes 17 = .ok (.iload_n 1, 1) := by decide +kernel
theorem dX3_comes_18 : decode cX3_comes 18 = .ok (.invokevirtual 124, 3) := by decide +kernel
theorem dX3_comes_21 : decode cX3_comes 21 = .ok (.return_, 1) := by decide +kernel
theorem dX3_bring_0 : decode cX3_bring 0 = .ok (.aload_n 0, 1) := by decide +kernel
theorem dX3_bring_1 : decode cX3_bring 1 = .ok (.iconst 0, 1) := by decide +kernel
theorem dX3_bring_2 : decode cX3_bring 2 = .ok (.putfield 1, 3) := by decide +kernel
theorem dX3_bring_5 : decode cX3_bring 5 = .ok (.aload_n 0, 1) := by decide +kernel
theorem dX3_bring_6 : decode cX3_bring 6 = .ok (.iload_n 1, 1) := by decide +kernel
theorem dX3_bring_7 : decode cX3_bring 7 = .ok (.invokevirtual 130, 3) := by decide +kernel
theorem dX3_bring_10 : decode cX3_bring 10 = .ok (.ifCond .eq 11, 3) := by decide +kernel
theorem dX3_bring_13 : decode cX3_bring 13 = .ok (.aload_n 0, 1) := by decide +kernel
theorem dX3_bring_14 : decode cX3_bring 14 = .ok (.iload_n 2, 1) := by decide +kernel
theorem dX3_bring_15 : decode cX3_bring 15 = .ok (.invokevirtual 82, 3) := by decide +kernel
theorem dX3_bring_18 : decode cX3_bring 18 = .ok (.ifCond .ne 6, 3) := by decide +kernel
theorem dX3_bring_21 : decode cX3_bring 21 = .ok (.bipush (-2), 2) := by decide +kernel
theorem dX3_bring_23 : decode cX3_bring 23 = .ok (.ireturn, 1) := by decide +kernel
theorem dX3_bring_24 : decode cX3_bring 24 = .ok (.aload_n 0, 1) := by decide +kernel
theorem dX3_bring_25 : decode cX3_bring 25 = .ok (.getfield 45, 3) := by decide +kernel
theorem dX3_bring_28 : decode cX3_bring 28 = .ok (.bipush 10, 2) := by decide +kernel
theorem dX3_bring_30 : decode cX3_bring 30 = .ok (.iload_n 1, 1) := by decide +kernel
theorem dX3_bring_31 : decode cX3_bring 31 = .ok (.iconst (-1), 1) := by decide +kernel
theorem dX3_bring_32 : decode cX3_bring 32 = .ok (.invokestatic 90, 3) := by decide +kernel
theorem dX3_bring_35 : decode cX3_bring 35 = .ok (.imul, 1) := by decide +kernel
theorem dX3_bring_36 : decode cX3_bring 36 = .ok (.iload_n 2, 1) := by decide +kernel
theorem dX3_bring_37 : decode cX3_bring 37 = .ok (.iadd, 1) := by decide +kernel
theorem dX3_bring_38 : decode cX3_bring 38 = .ok (.baload, 1) := by decide +kernel
theorem dX3_bring_39 : decode cX3_bring 39 = .ok (.ifCond .ne 6, 3) := by decide +kernel
theorem dX3_bring_42 : decode cX3_bring 42 = .ok (.bipush (-3), 2) := by decide +kernel
theorem dX3_bring_44 : decode cX3_bring 44 = .ok (.ireturn, 1) := by decide +kernel
theorem dX3_bring_45 : decode cX3_bring 45 = .ok (.aload_n 0, 1) := by decide +kernel
theorem dX3_bring_46 : decode cX3_bring 46 = .ok (.iload_n 2, 1) := by decide +kernel
theorem dX3_bring_47 : decode cX3_bring 47 = .ok (.iload_n 1, 1) := by decide +kernel
theorem dX3_bring_48 : decode cX3_bring 48 = .ok (.iconst (-1), 1) := by decide +kernel
theorem dX3_bring_49 : decode cX3_bring 49 = .ok (.invokestatic 90, 3) := by decide +kernel
theorem dX3_bring_52 : decode cX3_bring 52 = .ok (.invokevirtual 133, 3) := by decide +kernel
theorem dX3_bring_55 : decode cX3_bring 55 = .ok (.iconst 1, 1) := by decide +kernel
theorem dX3_bring_56 : decode cX3_bring 56 = .ok (.ireturn, 1) := by decide +kernel
theorem dX3_bringVote_0 : decode cX3_bringVote 0 = .ok (.aload_n 0, 1) := by decide +kernel
theorem dX3_bringVote_1 : decode cX3_bringVote 1 = .ok (.iconst 0, 1) := by decide +kernel
theorem dX3_bringVote_2 : decode cX3_bringVote 2 = .ok (.putfield 1, 3) := by decide +kernel
theorem dX3_bringVote_5 : decode cX3_bringVote 5 = .ok (.aload_n 0, 1) := by decide +kernel
theorem dX3_bringVote_6 : decode cX3_bringVote 6 = .ok (.iload_n 1, 1) := by decide +kernel
theorem dX3_bringVote_7 : decode cX3_bringVote 7 = .ok (.invokevirtual 82, 3) := by decide +kernel
theorem dX3_bringVote_10 : decode cX3_bringVote 10 = .ok (.ifCond .eq 19, 3) := by decide +kernel
theorem dX3_bringVote_13 : decode cX3_bringVote 13 = .ok (.aload_n 0, 1) := by decide +kernel
theorem dX3_bringVote_14 : decode cX3_bringVote 14 = .ok (.iload_n 2, 1) := by decide +kernel
theorem dX3_bringVote_15 : decode cX3_bringVote 15 = .ok (.invokevirtual 130, 3) := by decide +kernel
theorem dX3_bringVote_18 : decode cX3_bringVote 18 = .ok (.ifCond .eq 11, 3) := by decide +kernel
theorem dX3_bringVote_21 : decode cX3_bringVote 21 = .ok (.aload_n 0, 1) := by decide +kernel
theorem dX3_bringVote_22 : decode cX3_bringVote 22 = .ok (.iload_n 3, 1) := by decide +kernel
theorem dX3_bringVote_23 : decode cX3_bringVote 23 = .ok (.invokevirtual 82, 3) := by decide +kernel
theorem dX3_bringVote_26 : decode cX3_bringVote 26 = .ok (.ifCond .ne 6, 3) := by decide +kernel
theorem dX3_bringVote_29 : decode cX3_bringVote 29 = .ok (.bipush (-2), 2) := by decide +kernel
theorem dX3_bringVote_31 : decode cX3_bringVote 31 = .ok (.ireturn, 1) := by decide +kernel
theorem dX3_bringVote_32 : decode cX3_bringVote 32 = .ok (.aload_n 0, 1) := by decide +kernel
theorem dX3_bringVote_33 : decode cX3_bringVote 33 = .ok (.getfield 45, 3) := by decide +kernel
theorem dX3_bringVote_36 : decode cX3_bringVote 36 = .ok (.bipush 10, 2) := by decide +kernel
theorem dX3_bringVote_38 : decode cX3_bringVote 38 = .ok (.iload_n 2, 1) := by decide +kernel
theorem dX3_bringVote_39 : decode cX3_bringVote 39 = .ok (.iload_n 1, 1) := by decide +kernel
theorem dX3_bringVote_40 : decode cX3_bringVote 40 = .ok (.invokestatic 90, 3) := by decide +kernel
theorem dX3_bringVote_43 : decode cX3_bringVote 43 = .ok (.imul, 1) := by decide +kernel
theorem dX3_bringVote_44 : decode cX3_bringVote 44 = .ok (.iload_n 3, 1) := by decide +kernel
theorem dX3_bringVote_45 : decode cX3_bringVote 45 = .ok (.iadd, 1) := by decide +kernel
theorem dX3_bringVote_46 : decode cX3_bringVote 46 = .ok (.baload, 1) := by decide +kernel
theorem dX3_bringVote_47 : decode cX3_bringVote 47 = .ok (.ifCond .ne 6, 3) := by decide +kernel
theorem dX3_bringVote_50 : decode cX3_bringVote 50 = .ok (.bipush (-3), 2) := by decide +kernel
theorem dX3_bringVote_52 : decode cX3_bringVote 52 = .ok (.ireturn, 1) := by decide +kernel
theorem dX3_bringVote_53 : decode cX3_bringVote 53 = .ok (.aload_n 0, 1) := by decide +kernel
theorem dX3_bringVote_54 : decode cX3_bringVote 54 = .ok (.iload_n 3, 1) := by decide +kernel
theorem dX3_bringVote_55 : decode cX3_bringVote 55 = .ok (.iload_n 2, 1) := by decide +kernel
theorem dX3_bringVote_56 : decode cX3_bringVote 56 = .ok (.iload_n 1, 1) := by decide +kernel
theorem dX3_bringVote_57 : decode cX3_bringVote 57 = .ok (.invokestatic 90, 3) := by decide +kernel
theorem dX3_bringVote_60 : decode cX3_bringVote 60 = .ok (.invokevirtual 133, 3) := by decide +kernel
theorem dX3_bringVote_63 : decode cX3_bringVote 63 = .ok (.iconst 1, 1) := by decide +kernel
theorem dX3_bringVote_64 : decode cX3_bringVote 64 = .ok (.ireturn, 1) := by decide +kernel
theorem dX3_flowTo_0 : decode cX3_flowTo 0 = .ok (.iconst 0, 1) := by decide +kernel
theorem dX3_flowTo_1 : decode cX3_flowTo 1 = .ok (.istore_n 2, 1) := by decide +kernel
theorem dX3_flowTo_2 : decode cX3_flowTo 2 = .ok (.iconst 0, 1) := by decide +kernel
theorem dX3_flowTo_3 : decode cX3_flowTo 3 = .ok (.istore_n 3, 1) := by decide +kernel
theorem dX3_flowTo_4 : decode cX3_flowTo 4 = .ok (.iload_n 3, 1) := by decide +kernel
theorem dX3_flowTo_5 : decode cX3_flowTo 5 = .ok (.bipush 11, 2) := by decide +kernel
theorem dX3_flowTo_7 : decode cX3_flowTo 7 = .ok (.aload_n 0, 1) := by decide +kernel
theorem dX3_flowTo_8 : decode cX3_flowTo 8 = .ok (.getfield 24, 3) := by decide +kernel
theorem dX3_flowTo_11 : decode cX3_flowTo 11 = .ok (.imul, 1) := by decide +kernel
theorem dX3_flowTo_12 : decode cX3_flowTo 12 = .ok (.if_icmp .ge 26, 3) := by decide +kernel
theorem dX3_flowTo_15 : decode cX3_flowTo 15 = .ok (.aload_n 0, 1) := by decide +kernel
theorem dX3_flowTo_16 : decode cX3_flowTo 16 = .ok (.getfield 63, 3) := by decide +kernel
theorem dX3_flowTo_19 : decode cX3_flowTo 19 = .ok (.iload_n 3, 1) := by decide +kernel
theorem dX3_flowTo_20 : decode cX3_flowTo 20 = .ok (.aload_n 0, 1) := by decide +kernel
theorem dX3_flowTo_21 : decode cX3_flowTo 21 = .ok (.getfield 45, 3) := by decide +kernel
theorem dX3_flowTo_24 : decode cX3_flowTo 24 = .ok (.bipush 10, 2) := by decide +kernel
theorem dX3_flowTo_26 : decode cX3_flowTo 26 = .ok (.iload_n 3, 1) := by decide +kernel
theorem dX3_flowTo_27 : decode cX3_flowTo 27 = .ok (.imul, 1) := by decide +kernel
theorem dX3_flowTo_28 : decode cX3_flowTo 28 = .ok (.iload_n 1, 1) := by decide +kernel
theorem dX3_flowTo_29 : decode cX3_flowTo 29 = .ok (.iadd, 1) := by decide +kernel
theorem dX3_flowTo_30 : decode cX3_flowTo 30 = .ok (.baload, 1) := by decide +kernel
theorem dX3_flowTo_31 : decode cX3_flowTo 31 = .ok (.bastore, 1) := by decide +kernel
theorem dX3_flowTo_32 : decode cX3_flowTo 32 = .ok (.iinc 3 1, 3) := by decide +kernel
theorem dX3_flowTo_35 : decode cX3_flowTo 35 = .ok (.goto (-31), 3) := by decide +kernel
theorem dX3_flowTo_38 : decode cX3_flowTo 38 = .ok (.iconst 0, 1) := by decide +kernel
theorem dX3_flowTo_39 : decode cX3_flowTo 39 = .ok (.istore_n 3, 1) := by decide +kernel
theorem dX3_flowTo_40 : decode cX3_flowTo 40 = .ok (.iload_n 3, 1) := by decide +kernel
theorem dX3_flowTo_41 : decode cX3_flowTo 41 = .ok (.bipush 11, 2) := by decide +kernel
theorem dX3_flowTo_43 : decode cX3_flowTo 43 = .ok (.aload_n 0, 1) := by decide +kernel
theorem dX3_flowTo_44 : decode cX3_flowTo 44 = .ok (.getfield 24, 3) := by decide +kernel
theorem dX3_flowTo_47 : decode cX3_flowTo 47 = .ok (.imul, 1) := by decide +kernel
theorem dX3_flowTo_48 : decode cX3_flowTo 48 = .ok (.if_icmp .ge 27, 3) := by decide +kernel
theorem dX3_flowTo_51 : decode cX3_flowTo 51 = .ok (.aload_n 0, 1) := by decide +kernel
theorem dX3_flowTo_52 : decode cX3_flowTo 52 = .ok (.getfield 63, 3) := by decide +kernel
theorem dX3_flowTo_55 : decode cX3_flowTo 55 = .ok (.iload_n 3, 1) := by decide +kernel
theorem dX3_flowTo_56 : decode cX3_flowTo 56 = .ok (.baload, 1) := by decide +kernel
theorem dX3_flowTo_57 : decode cX3_flowTo 57 = .ok (.ifCond .eq 12, 3) := by decide +kernel
theorem dX3_flowTo_60 : decode cX3_flowTo 60 = .ok (.iinc 2 1, 3) := by decide +kernel
theorem dX3_flowTo_63 : decode cX3_flowTo 63 = .ok (.aload_n 0, 1) := by decide +kernel
theorem dX3_flowTo_64 : decode cX3_flowTo 64 = .ok (.iload_n 1, 1) := by decide +kernel
theorem dX3_flowTo_65 : decode cX3_flowTo 65 = .ok (.iload_n 3, 1) := by decide +kernel
theorem dX3_flowTo_66 : decode cX3_flowTo 66 = .ok (.invokevirtual 133, 3) := by decide +kernel
theorem dX3_flowTo_69 : decode cX3_flowTo 69 = .ok (.iinc 3 1, 3) := by decide +kernel
theorem dX3_flowTo_72 : decode cX3_flowTo 72 = .ok (.goto (-32), 3) := by decide +kernel
theorem dX3_flowTo_75 : decode cX3_flowTo 75 = .ok (.iload_n 2, 1) := by decide +kernel
theorem dX3_flowTo_76 : decode cX3_flowTo 76 = .ok (.ireturn, 1) := by decide +kernel
theorem dX3_flow_0 : decode cX3_flow 0 = .ok (.aload_n 0, 1) := by decide +kernel
theorem dX3_flow_1 : decode cX3_flow 1 = .ok (.iconst 0, 1) := by decide +kernel
theorem dX3_flow_2 : decode cX3_flow 2 = .ok (.putfield 1, 3) := by decide +kernel
theorem dX3_flow_5 : decode cX3_flow 5 = .ok (.aload_n 0, 1) := by decide +kernel
theorem dX3_flow_6 : decode cX3_flow 6 = .ok (.iload_n 1, 1) := by decide +kernel
theorem dX3_flow_7 : decode cX3_flow 7 = .ok (.invokevirtual 82, 3) := by decide +kernel
theorem dX3_flow_10 : decode cX3_flow 10 = .ok (.ifCond .eq 11, 3) := by decide +kernel
theorem dX3_flow_13 : decode cX3_flow 13 = .ok (.aload_n 0, 1) := by decide +kernel
theorem dX3_flow_14 : decode cX3_flow 14 = .ok (.iload_n 1, 1) := by decide +kernel
theorem dX3_flow_15 : decode cX3_flow 15 = .ok (.invokevirtual 136, 3) := by decide +kernel
theorem dX3_flow_18 : decode cX3_flow 18 = .ok (.goto 5, 3) := by decide +kernel
theorem dX3_flow_21 : decode cX3_flow 21 = .ok (.bipush (-2), 2) := by decide +kernel
theorem dX3_flow_23 : decode cX3_flow 23 = .ok (.ireturn, 1) := by decide +kernel
theorem dX3_settle_0 : decode cX3_settle 0 = .ok (.aload_n 0, 1) := by decide +kernel
theorem dX3_settle_1 : decode cX3_settle 1 = .ok (.iconst 0, 1) := by decide +kernel
theorem dX3_settle_2 : decode cX3_settle 2 = .ok (.putfield 1, 3) := by decide +kernel
theorem dX3_settle_5 : decode cX3_settle 5 = .ok (.iconst 0, 1) := by decide +kernel
theorem dX3_settle_6 : decode cX3_settle 6 = .ok (.istore_n 1, 1) := by decide +kernel
theorem dX3_settle_7 : decode cX3_settle 7 = .ok (.iconst 1, 1) := by decide +kernel
theorem dX3_settle_8 : decode cX3_settle 8 = .ok (.istore_n 2, 1) := by decide +kernel
theorem dX3_settle_9 : decode cX3_settle 9 = .ok (.iload_n 2, 1) := by decide +kernel
theorem dX3_settle_10 : decode cX3_settle 10 = .ok (.ifCond .eq 46, 3) := by decide +kernel
theorem dX3_settle_13 : decode cX3_settle 13 = .ok (.iload_n 1, 1) := by decide +kernel
theorem dX3_settle_14 : decode cX3_settle 14 = .ok (.istore_n 3, 1) := by decide +kernel
theorem dX3_settle_15 : decode cX3_settle 15 = .ok (.iconst 0, 1) := by decide +kernel
theorem dX3_settle_16 : decode cX3_settle 16 = .ok (.istore 4, 2) := by decide +kernel
theorem dX3_settle_18 : decode cX3_settle 18 = .ok (.iload 4, 2) := by decide +kernel
theorem dX3_settle_20 : decode cX3_settle 20 = .ok (.aload_n 0, 1) := by decide +kernel
theorem dX3_settle_21 : decode cX3_settle 21 = .ok (.getfield 69, 3) := by decide +kernel
theorem dX3_settle_24 : decode cX3_settle 24 = .ok (.if_icmp .ge 18, 3) := by decide +kernel
theorem dX3_settle_27 : decode cX3_settle 27 = .ok (.iload_n 1, 1) := by decide +kernel
theorem dX3_settle_28 : decode cX3_settle 28 = .ok (.aload_n 0, 1) := by decide +kernel
theorem dX3_settle_29 : decode cX3_settle 29 = .ok (.iload 4, 2) := by decide +kernel
theorem dX3_settle_31 : decode cX3_settle 31 = .ok (.invokevirtual 136, 3) := by decide +kernel
theorem dX3_settle_34 : decode cX3_settle 34 = .ok (.iadd, 1) := by decide +kernel
theorem dX3_settle_35 : decode cX3_settle 35 = .ok (.istore_n 1, 1) := by decide +kernel
theorem dX3_settle_36 : decode cX3_settle 36 = .ok (.iinc 4 1, 3) := by decide +kernel
theorem dX3_settle_39 : decode cX3_settle 39 = .ok (.goto (-21), 3) := by decide +kernel
theorem dX3_settle_42 : decode cX3_settle 42 = .ok (.iload_n 1, 1) := by decide +kernel
theorem dX3_settle_43 : decode cX3_settle 43 = .ok (.iload_n 3, 1) := by decide +kernel
theorem dX3_settle_44 : decode cX3_settle 44 = .ok (.if_icmp .le 7, 3) := by decide +kernel
theorem dX3_settle_47 : decode cX3_settle 47 = .ok (.iconst 1, 1) := by decide +kernel
theorem dX3_settle_48 : decode cX3_settle 48 = .ok (.goto 4, 3) := by decide +kernel
theorem dX3_settle_51 : decode cX3_settle 51 = .ok (.iconst 0, 1) := by decide +kernel
theorem dX3_settle_52 : decode cX3_settle 52 = .ok (.istore_n 2, 1) := by decide +kernel
theorem dX3_settle_53 : decode cX3_settle 53 = .ok (.goto (-44), 3) := by decide +kernel
theorem dX3_settle_56 : decode cX3_settle 56 = .ok (.iload_n 1, 1) := by decide +kernel
theorem dX3_settle_57 : decode cX3_settle 57 = .ok (.ireturn, 1) := by decide +kernel
theorem dX3_isTo_0 : decode cX3_isTo 0 = .ok (.iload_n 1, 1) := by decide +kernel
theorem dX3_isTo_1 : decode cX3_isTo 1 = .ok (.ifCond .lt 16, 3) := by decide +kernel
theorem dX3_isTo_4 : decode cX3_isTo 4 = .ok (.iload_n 1, 1) := by decide +kernel
theorem dX3_isTo_5 : decode cX3_isTo 5 = .ok (.aload_n 0, 1) := by decide +kernel
theorem dX3_isTo_6 : decode cX3_isTo 6 = .ok (.getfield 69, 3) := by decide +kernel
theorem dX3_isTo_9 : decode cX3_isTo 9 = .ok (.ishr, 1) := by decide +kernel
theorem dX3_isTo_10 : decode cX3_isTo 10 = .ok (.ifCond .ne 7, 3) := by decide +kernel
theorem dX3_isTo_13 : decode cX3_isTo 13 = .ok (.iconst 1, 1) := by decide +kernel
theorem dX3_isTo_14 : decode cX3_isTo 14 = .ok (.goto 4, 3) := by decide +kernel
theorem dX3_isTo_17 : decode cX3_isTo 17 = .ok (.iconst 0, 1) := by decide +kernel
theorem dX3_isTo_18 : decode cX3_isTo 18 = .ok (.ireturn, 1) := by decide +kernel
theorem dX3_send_0 : decode cX3_send 0 = .ok (.iconst 0, 1) := by decide +kernel
theorem dX3_send_1 : decode cX3_send 1 = .ok (.istore_n 3, 1) := by decide +kernel
theorem dX3_send_2 : decode cX3_send 2 = .ok (.iconst 0, 1) := by decide +kernel
theorem dX3_send_3 : decode cX3_send 3 = .ok (.istore 4, 2) := by decide +kernel
theorem dX3_send_5 : decode cX3_send 5 = .ok (.iload 4, 2) := by decide +kernel
theorem dX3_send_7 : decode cX3_send 7 = .ok (.aload_n 0, 1) := by decide +kernel
theorem dX3_send_8 : decode cX3_send 8 = .ok (.getfield 69, 3) := by decide +kernel
theorem dX3_send_11 : decode cX3_send 11 = .ok (.if_icmp .ge 65, 3) := by decide +kernel
theorem dX3_send_14 : decode cX3_send 14 = .ok (.iload_n 2, 1) := by decide +kernel
theorem dX3_send_15 : decode cX3_send 15 = .ok (.iload 4, 2) := by decide +kernel
theorem dX3_send_17 : decode cX3_send 17 = .ok (.ishr, 1) := by decide +kernel
theorem dX3_send_18 : decode cX3_send 18 = .ok (.iconst 1, 1) := by decide +kernel
theorem dX3_send_19 : decode cX3_send 19 = .ok (.iand, 1) := by decide +kernel
theorem dX3_send_20 : decode cX3_send 20 = .ok (.iconst 1, 1) := by decide +kernel
theorem dX3_send_21 : decode cX3_send 21 = .ok (.if_icmp .ne 49, 3) := by decide +kernel
theorem dX3_send_24 : decode cX3_send 24 = .ok (.aload_n 0, 1) := by decide +kernel
theorem dX3_send_25 : decode cX3_send 25 = .ok (.getfield 42, 3) := by decide +kernel
theorem dX3_send_28 : decode cX3_send 28 = .ok (.bipush 10, 2) := by decide +kernel
theorem dX3_send_30 : decode cX3_send 30 = .ok (.iload_n 1, 1) := by decide +kernel
theorem dX3_send_31 : decode cX3_send 31 = .ok (.imul, 1) := by decide +kernel
theorem dX3_send_32 : decode cX3_send 32 = .ok (.iload 4, 2) := by decide +kernel
theorem dX3_send_34 : decode cX3_send 34 = .ok (.iadd, 1) := by decide +kernel
theorem dX3_send_35 : decode cX3_send 35 = .ok (.baload, 1) := by decide +kernel
theorem dX3_send_36 : decode cX3_send 36 = .ok (.ifCond .ne 34, 3) := by decide +kernel
theorem dX3_send_39 : decode cX3_send 39 = .ok (.aload_n 0, 1) := by decide +kernel
theorem dX3_send_40 : decode cX3_send 40 = .ok (.getfield 45, 3) := by decide +kernel
theorem dX3_send_43 : decode cX3_send 43 = .ok (.bipush 10, 2) := by decide +kernel
theorem dX3_send_45 : decode cX3_send 45 = .ok (.iload_n 1, 1) := by decide +kernel
theorem dX3_send_46 : decode cX3_send 46 = .ok (.imul, 1) := by decide +kernel
theorem dX3_send_47 : decode cX3_send 47 = .ok (.iload 4, 2) := by decide +kernel
theorem dX3_send_49 : decode cX3_send 49 = .ok (.iadd, 1) := by decide +kernel
theorem dX3_send_50 : decode cX3_send 50 = .ok (.baload, 1) := by decide +kernel
theorem dX3_send_51 : decode cX3_send 51 = .ok (.ifCond .ne 19, 3) := by decide +kernel
theorem dX3_send_54 : decode cX3_send 54 = .ok (.aload_n 0, 1) := by decide +kernel
theorem dX3_send_55 : decode cX3_send 55 = .ok (.getfield 45, 3) := by decide +kernel
theorem dX3_send_58 : decode cX3_send 58 = .ok (.bipush 10, 2) := by decide +kernel
theorem dX3_send_60 : decode cX3_send 60 = .ok (.iload_n 1, 1) := by decide +kernel
theorem dX3_send_61 : decode cX3_send 61 = .ok (.imul, 1) := by decide +kernel
theorem dX3_send_62 : decode cX3_send 62 = .ok (.iload 4, 2) := by decide +kernel
theorem dX3_send_64 : decode cX3_send 64 = .ok (.iadd, 1) := by decide +kernel
theorem dX3_send_65 : decode cX3_send 65 = .ok (.iconst 1, 1) := by decide +kernel
theorem dX3_send_66 : decode cX3_send 66 = .ok (.bastore, 1) := by decide +kernel
theorem dX3_send_67 : decode cX3_send 67 = .ok (.iinc 3 1, 3) := by decide +kernel
theorem dX3_send_70 : decode cX3_send 70 = .ok (.iinc 4 1, 3) := by decide +kernel
theorem dX3_send_73 : decode cX3_send 73 = .ok (.goto (-68), 3) := by decide +kernel
theorem dX3_send_76 : decode cX3_send 76 = .ok (.iload_n 3, 1) := by decide +kernel
theorem dX3_send_77 : decode cX3_send 77 = .ok (.ireturn, 1) := by decide +kernel
theorem dX3_propose_0 : decode cX3_propose 0 = .ok (.aload_n 0, 1) := by decide +kernel
theorem dX3_propose_1 : decode cX3_propose 1 = .ok (.iconst 0, 1) := by decide +kernel
theorem dX3_propose_2 : decode cX3_propose 2 = .ok (.putfield 1, 3) := by decide +kernel
theorem dX3_propose_5 : decode cX3_propose 5 = .ok (.aload_n 0, 1) := by decide +kernel
theorem dX3_propose_6 : decode cX3_propose 6 = .ok (.iload_n 1, 1) := by decide +kernel
theorem dX3_propose_7 : decode cX3_propose 7 = .ok (.invokevirtual 82, 3) := by decide +kernel
theorem dX3_propose_10 : decode cX3_propose 10 = .ok (.ifCond .eq 27, 3) := by decide +kernel
theorem dX3_propose_13 : decode cX3_propose 13 = .ok (.aload_n 0, 1) := by decide +kernel
theorem dX3_propose_14 : decode cX3_propose 14 = .ok (.iload_n 2, 1) := by decide +kernel
theorem dX3_propose_15 : decode cX3_propose 15 = .ok (.invokevirtual 130, 3) := by decide +kernel
theorem dX3_propose_18 : decode cX3_propose 18 = .ok (.ifCond .eq 19, 3) := by decide +kernel
theorem dX3_propose_21 : decode cX3_propose 21 = .ok (.iload_n 3, 1) := by decide +kernel
theorem dX3_propose_22 : decode cX3_propose 22 = .ok (.invokestatic 78, 3) := by decide +kernel
theorem dX3_propose_25 : decode cX3_propose 25 = .ok (.ifCond .eq 12, 3) := by decide +kernel
theorem dX3_propose_28 : decode cX3_propose 28 = .ok (.aload_n 0, 1) := by decide +kernel
theorem dX3_propose_29 : decode cX3_propose 29 = .ok (.iload 5, 2) := by decide +kernel
theorem dX3_propose_31 : decode cX3_propose 31 = .ok (.invokevirtual 140, 3) := by decide +kernel
theorem dX3_propose_34 : decode cX3_propose 34 = .ok (.ifCond .ne 6, 3) := by decide +kernel
theorem dX3_propose_37 : decode cX3_propose 37 = .ok (.bipush (-2), 2) := by decide +kernel
theorem dX3_propose_39 : decode cX3_propose 39 = .ok (.ireturn, 1) := by decide +kernel
theorem dX3_propose_40 : decode cX3_propose 40 = .ok (.aload_n 0, 1) := by decide +kernel
theorem dX3_propose_41 : decode cX3_propose 41 = .ok (.getfield 13, 3) := by decide +kernel
theorem dX3_propose_44 : decode cX3_propose 44 = .ok (.iload_n 1, 1) := by decide +kernel
theorem dX3_propose_45 : decode cX3_propose 45 = .ok (.baload, 1) := by decide +kernel
theorem dX3_propose_46 : decode cX3_propose 46 = .ok (.ifCond .eq 13, 3) := by decide +kernel
theorem dX3_propose_49 : decode cX3_propose 49 = .ok (.aload_n 0, 1) := by decide +kernel
theorem dX3_propose_50 : decode cX3_propose 50 = .ok (.getfield 21, 3) := by decide +kernel
theorem dX3_propose_53 : decode cX3_propose 53 = .ok (.iload_n 3, 1) := by decide +kernel
theorem dX3_propose_54 : decode cX3_propose 54 = .ok (.iaload, 1) := by decide +kernel
theorem dX3_propose_55 : decode cX3_propose 55 = .ok (.iload_n 1, 1) := by decide +kernel
theorem dX3_propose_56 : decode cX3_propose 56 = .ok (.if_icmp .eq 6, 3) := by decide +kernel
theorem dX3_propose_59 : decode cX3_propose 59 = .ok (.bipush (-3), 2) := by decide +kernel
theorem dX3_propose_61 : decode cX3_propose 61 = .ok (.ireturn, 1) := by decide +kernel
theorem dX3_propose_62 : decode cX3_propose 62 = .ok (.aload_n 0, 1) := by decide +kernel
theorem dX3_propose_63 : decode cX3_propose 63 = .ok (.getfield 24, 3) := by decide +kernel
theorem dX3_propose_66 : decode cX3_propose 66 = .ok (.bipush 61, 2) := by decide +kernel
theorem dX3_propose_68 : decode cX3_propose 68 = .ok (.if_icmp .ne 6, 3) := by decide +kernel
theorem dX3_propose_71 : decode cX3_propose 71 = .ok (.bipush (-4), 2) := by decide +kernel
theorem dX3_propose_73 : decode cX3_propose 73 = .ok (.ireturn, 1) := by decide +kernel
theorem dX3_propose_74 : decode cX3_propose 74 = .ok (.aload_n 0, 1) := by decide +kernel
theorem dX3_propose_75 : decode cX3_propose 75 = .ok (.iload_n 2, 1) := by decide +kernel
theorem dX3_propose_76 : decode cX3_propose 76 = .ok (.iload_n 3, 1) := by decide +kernel
theorem dX3_propose_77 : decode cX3_propose 77 = .ok (.iload 4, 2) := by decide +kernel
theorem dX3_propose_79 : decode cX3_propose 79 = .ok (.iload_n 1, 1) := by decide +kernel
theorem dX3_propose_80 : decode cX3_propose 80 = .ok (.invokevirtual 120, 3) := by decide +kernel
theorem dX3_propose_83 : decode cX3_propose 83 = .ok (.istore 6, 2) := by decide +kernel
theorem dX3_propose_85 : decode cX3_propose 85 = .ok (.aload_n 0, 1) := by decide +kernel
theorem dX3_propose_86 : decode cX3_propose 86 = .ok (.iload_n 1, 1) := by decide +kernel
theorem dX3_propose_87 : decode cX3_propose 87 = .ok (.iload 6, 2) := by decide +kernel
theorem dX3_propose_89 : decode cX3_propose 89 = .ok (.iconst (-1), 1) := by decide +kernel
theorem dX3_propose_90 : decode cX3_propose 90 = .ok (.invokestatic 90, 3) := by decide +kernel
theorem dX3_propose_93 : decode cX3_propose 93 = .ok (.invokevirtual 116, 3) := by decide +kernel
theorem dX3_propose_96 : decode cX3_propose 96 = .ok (.aload_n 0, 1) := by decide +kernel
theorem dX3_propose_97 : decode cX3_propose 97 = .ok (.iload 6, 2) := by decide +kernel
theorem dX3_propose_99 : decode cX3_propose 99 = .ok (.iconst (-1), 1) := by decide +kernel
theorem dX3_propose_100 : decode cX3_propose 100 = .ok (.invokestatic 90, 3) := by decide +kernel
theorem dX3_propose_103 : decode cX3_propose 103 = .ok (.iload 5, 2) := by decide +kernel
theorem dX3_propose_105 : decode cX3_propose 105 = .ok (.invokevirtual 143, 3) := by decide +kernel
theorem dX3_propose_108 : decode cX3_propose 108 = .ok (.istore 7, 2) := by decide +kernel
theorem dX3_propose_110 : decode cX3_propose 110 = .ok (.iload 6, 2) := by decide +kernel
theorem dX3_propose_112 : decode cX3_propose 112 = .ok (.ireturn, 1) := by decide +kernel
theorem dX3_lie_0 : decode cX3_lie 0 = .ok (.aload_n 0, 1) := by decide +kernel
theorem dX3_lie_1 : decode cX3_lie 1 = .ok (.iconst 0, 1) := by decide +kernel
theorem dX3_lie_2 : decode cX3_lie 2 = .ok (.putfield 1, 3) := by decide +kernel
theorem dX3_lie_5 : decode cX3_lie 5 = .ok (.aload_n 0, 1) := by decide +kernel
theorem dX3_lie_6 : decode cX3_lie 6 = .ok (.iload_n 1, 1) := by decide +kernel
theorem dX3_lie_7 : decode cX3_lie 7 = .ok (.invokevirtual 82, 3) := by decide +kernel
theorem dX3_lie_10 : decode cX3_lie 10 = .ok (.ifCond .eq 27, 3) := by decide +kernel
theorem dX3_lie_13 : decode cX3_lie 13 = .ok (.iload_n 2, 1) := by decide +kernel
theorem dX3_lie_14 : decode cX3_lie 14 = .ok (.i2l, 1) := by decide +kernel
theorem dX3_lie_15 : decode cX3_lie 15 = .ok (.lconst 1, 1) := by decide +kernel
theorem dX3_lie_16 : decode cX3_lie 16 = .ok (.aload_n 0, 1) := by decide +kernel
theorem dX3_lie_17 : decode cX3_lie 17 = .ok (.getfield 24, 3) := by decide +kernel
theorem dX3_lie_20 : decode cX3_lie 20 = .ok (.iconst 1, 1) := by decide +kernel
theorem dX3_lie_21 : decode cX3_lie 21 = .ok (.isub, 1) := by decide +kernel
theorem dX3_lie_22 : decode cX3_lie 22 = .ok (.i2l, 1) := by decide +kernel
theorem dX3_lie_23 : decode cX3_lie 23 = .ok (.invokestatic 72, 3) := by decide +kernel
theorem dX3_lie_26 : decode cX3_lie 26 = .ok (.ifCond .eq 11, 3) := by decide +kernel
theorem dX3_lie_29 : decode cX3_lie 29 = .ok (.aload_n 0, 1) := by decide +kernel
theorem dX3_lie_30 : decode cX3_lie 30 = .ok (.iload_n 3, 1) := by decide +kernel
theorem dX3_lie_31 : decode cX3_lie 31 = .ok (.invokevirtual 140, 3) := by decide +kernel
theorem dX3_lie_34 : decode cX3_lie 34 = .ok (.ifCond .ne 6, 3) := by decide +kernel
theorem dX3_lie_37 : decode cX3_lie 37 = .ok (.bipush (-2), 2) := by decide +kernel
theorem dX3_lie_39 : decode cX3_lie 39 = .ok (.ireturn, 1) := by decide +kernel
theorem dX3_lie_40 : decode cX3_lie 40 = .ok (.aload_n 0, 1) := by decide +kernel
theorem dX3_lie_41 : decode cX3_lie 41 = .ok (.getfield 13, 3) := by decide +kernel
theorem dX3_lie_44 : decode cX3_lie 44 = .ok (.iload_n 1, 1) := by decide +kernel
theorem dX3_lie_45 : decode cX3_lie 45 = .ok (.baload, 1) := by decide +kernel
theorem dX3_lie_46 : decode cX3_lie 46 = .ok (.ifCond .ne 6, 3) := by decide +kernel
theorem dX3_lie_49 : decode cX3_lie 49 = .ok (.bipush (-3), 2) := by decide +kernel
theorem dX3_lie_51 : decode cX3_lie 51 = .ok (.ireturn, 1) := by decide +kernel
theorem dX3_lie_52 : decode cX3_lie 52 = .ok (.iload_n 2, 1) := by decide +kernel
theorem dX3_lie_53 : decode cX3_lie 53 = .ok (.iload_n 1, 1) := by decide +kernel
theorem dX3_lie_54 : decode cX3_lie 54 = .ok (.invokestatic 90, 3) := by decide +kernel
theorem dX3_lie_57 : decode cX3_lie 57 = .ok (.istore 4, 2) := by decide +kernel
theorem dX3_lie_59 : decode cX3_lie 59 = .ok (.aload_n 0, 1) := by decide +kernel
theorem dX3_lie_60 : decode cX3_lie 60 = .ok (.getfield 42, 3) := by decide +kernel
theorem dX3_lie_63 : decode cX3_lie 63 = .ok (.bipush 10, 2) := by decide +kernel
theorem dX3_lie_65 : decode cX3_lie 65 = .ok (.iload 4, 2) := by decide +kernel
theorem dX3_lie_67 : decode cX3_lie 67 = .ok (.imul, 1) := by decide +kernel
theorem dX3_lie_68 : decode cX3_lie 68 = .ok (.iload_n 1, 1) := by decide +kernel
theorem dX3_lie_69 : decode cX3_lie 69 = .ok (.iadd, 1) := by decide +kernel
theorem dX3_lie_70 : decode cX3_lie 70 = .ok (.baload, 1) := by decide +kernel
theorem dX3_lie_71 : decode cX3_lie 71 = .ok (.ifCond .ne 10, 3) := by decide +kernel
theorem dX3_lie_74 : decode cX3_lie 74 = .ok (.aload_n 0, 1) := by decide +kernel
theorem dX3_lie_75 : decode cX3_lie 75 = .ok (.iload_n 1, 1) := by decide +kernel
theorem dX3_lie_76 : decode cX3_lie 76 = .ok (.iload 4, 2) := by decide +kernel
theorem dX3_lie_78 : decode cX3_lie 78 = .ok (.invokevirtual 116, 3) := by decide +kernel
theorem dX3_lie_81 : decode cX3_lie 81 = .ok (.aload_n 0, 1) := by decide +kernel
theorem dX3_lie_82 : decode cX3_lie 82 = .ok (.iload 4, 2) := by decide +kernel
theorem dX3_lie_84 : decode cX3_lie 84 = .ok (.iload_n 3, 1) := by decide +kernel
theorem dX3_lie_85 : decode cX3_lie 85 = .ok (.invokevirtual 143, 3) := by decide +kernel
theorem dX3_lie_88 : decode cX3_lie 88 = .ok (.ireturn, 1) := by decide +kernel
theorem dX3_pass_0 : decode cX3_pass 0 = .ok (.aload_n 0, 1) := by decide +kernel
theorem dX3_pass_1 : decode cX3_pass 1 = .ok (.iconst 0, 1) := by decide +kernel
theorem dX3_pass_2 : decode cX3_pass 2 = .ok (.putfield 1, 3) := by decide +kernel
theorem dX3_pass_5 : decode cX3_pass 5 = .ok (.aload_n 0, 1) := by decide +kernel
theorem dX3_pass_6 : decode cX3_pass 6 = .ok (.iload_n 1, 1) := by decide +kernel
theorem dX3_pass_7 : decode cX3_pass 7 = .ok (.invokevirtual 82, 3) := by decide +kernel
theorem dX3_pass_10 : decode cX3_pass 10 = .ok (.ifCond .eq 27, 3) := by decide +kernel
theorem dX3_pass_13 : decode cX3_pass 13 = .ok (.iload_n 2, 1) := by decide +kernel
theorem dX3_pass_14 : decode cX3_pass 14 = .ok (.i2l, 1) := by decide +kernel
theorem dX3_pass_15 : decode cX3_pass 15 = .ok (.lconst 1, 1) := by decide +kernel
theorem dX3_pass_16 : decode cX3_pass 16 = .ok (.aload_n 0, 1) := by decide +kernel
theorem dX3_pass_17 : decode cX3_pass 17 = .ok (.getfield 24, 3) := by decide +kernel
theorem dX3_pass_20 : decode cX3_pass 20 = .ok (.iconst 1, 1) := by decide +kernel
theorem dX3_pass_21 : decode cX3_pass 21 = .ok (.isub, 1) := by decide +kernel
theorem dX3_pass_22 : decode cX3_pass 22 = .ok (.i2l, 1) := by decide +kernel
theorem dX3_pass_23 : decode cX3_pass 23 = .ok (.invokestatic 72, 3) := by decide +kernel
theorem dX3_pass_26 : decode cX3_pass 26 = .ok (.ifCond .eq 11, 3) := by decide +kernel
theorem dX3_pass_29 : decode cX3_pass 29 = .ok (.aload_n 0, 1) := by decide +kernel
theorem dX3_pass_30 : decode cX3_pass 30 = .ok (.iload_n 3, 1) := by decide +kernel
theorem dX3_pass_31 : decode cX3_pass 31 = .ok (.invokevirtual 140, 3) := by decide +kernel
theorem dX3_pass_34 : decode cX3_pass 34 = .ok (.ifCond .ne 6, 3) := by decide +kernel
theorem dX3_pass_37 : decode cX3_pass 37 = .ok (.bipush (-2), 2) := by decide +kernel
theorem dX3_pass_39 : decode cX3_pass 39 = .ok (.ireturn, 1) := by decide +kernel
theorem dX3_pass_40 : decode cX3_pass 40 = .ok (.iload_n 2, 1) := by decide +kernel
theorem dX3_pass_41 : decode cX3_pass 41 = .ok (.iconst (-1), 1) := by decide +kernel
theorem dX3_pass_42 : decode cX3_pass 42 = .ok (.invokestatic 90, 3) := by decide +kernel
theorem dX3_pass_45 : decode cX3_pass 45 = .ok (.istore 4, 2) := by decide +kernel
theorem dX3_pass_47 : decode cX3_pass 47 = .ok (.aload_n 0, 1) := by decide +kernel
theorem dX3_pass_48 : decode cX3_pass 48 = .ok (.getfield 13, 3) := by decide +kernel
theorem dX3_pass_51 : decode cX3_pass 51 = .ok (.iload_n 1, 1) := by decide +kernel
theorem dX3_pass_52 : decode cX3_pass 52 = .ok (.baload, 1) := by decide +kernel
theorem dX3_pass_53 : decode cX3_pass 53 = .ok (.ifCond .eq 18, 3) := by decide +kernel
theorem dX3_pass_56 : decode cX3_pass 56 = .ok (.aload_n 0, 1) := by decide +kernel
theorem dX3_pass_57 : decode cX3_pass 57 = .ok (.getfield 42, 3) := by decide +kernel
theorem dX3_pass_60 : decode cX3_pass 60 = .ok (.bipush 10, 2) := by decide +kernel
theorem dX3_pass_62 : decode cX3_pass 62 = .ok (.iload 4, 2) := by decide +kernel
theorem dX3_pass_64 : decode cX3_pass 64 = .ok (.imul, 1) := by decide +kernel
theorem dX3_pass_65 : decode cX3_pass 65 = .ok (.iload_n 1, 1) := by decide +kernel
theorem dX3_pass_66 : decode cX3_pass 66 = .ok (.iadd, 1) := by decide +kernel
theorem dX3_pass_67 : decode cX3_pass 67 = .ok (.baload, 1) := by decide +kernel
theorem dX3_pass_68 : decode cX3_pass 68 = .ok (.ifCond .ne 8, 3) := by decide +kernel
theorem dX3_pass_71 : decode cX3_pass 71 = .ok (.bipush (-3), 2) := by decide +kernel
theorem dX3_pass_73 : decode cX3_pass 73 = .ok (.goto 10, 3) := by decide +kernel
theorem dX3_pass_76 : decode cX3_pass 76 = .ok (.aload_n 0, 1) := by decide +kernel
theorem dX3_pass_77 : decode cX3_pass 77 = .ok (.iload 4, 2) := by decide +kernel
theorem dX3_pass_79 : decode cX3_pass 79 = .ok (.iload_n 3, 1) := by decide +kernel
theorem dX3_pass_80 : decode cX3_pass 80 = .ok (.invokevirtual 143, 3) := by decide +kernel
theorem dX3_pass_83 : decode cX3_pass 83 = .ok (.ireturn, 1) := by decide +kernel
theorem dX3_about_0 : decode cX3_about 0 = .ok (.aload_n 0, 1) := by decide +kernel
theorem dX3_about_1 : decode cX3_about 1 = .ok (.iconst 0, 1) := by decide +kernel
theorem dX3_about_2 : decode cX3_about 2 = .ok (.putfield 1, 3) := by decide +kernel
theorem dX3_about_5 : decode cX3_about 5 = .ok (.aload_n 0, 1) := by decide +kernel
theorem dX3_about_6 : decode cX3_about 6 = .ok (.iload_n 1, 1) := by decide +kernel
theorem dX3_about_7 : decode cX3_about 7 = .ok (.invokevirtual 130, 3) := by decide +kernel
theorem dX3_about_10 : decode cX3_about 10 = .ok (.ifCond .eq 15, 3) := by decide +kernel
theorem dX3_about_13 : decode cX3_about 13 = .ok (.iload_n 2, 1) := by decide +kernel
theorem dX3_about_14 : decode cX3_about 14 = .ok (.i2l, 1) := by decide +kernel
theorem dX3_about_15 : decode cX3_about 15 = .ok (.lconst 0, 1) := by decide +kernel
theorem dX3_about_16 : decode cX3_about 16 = .ok (.ldc2_w 146, 3) := by decide +kernel
theorem dX3_about_19 : decode cX3_about 19 = .ok (.invokestatic 72, 3) := by decide +kernel
theorem dX3_about_22 : decode cX3_about 22 = .ok (.ifCond .ne 6, 3) := by decide +kernel
theorem dX3_about_25 : decode cX3_about 25 = .ok (.bipush (-2), 2) := by decide +kernel
theorem dX3_about_27 : decode cX3_about 27 = .ok (.ireturn, 1) := by decide +kernel
theorem dX3_about_28 : decode cX3_about 28 = .ok (.iload_n 2, 1) := by decide +kernel
theorem dX3_about_29 : decode cX3_about 29 = .ok (.ifCond .ne 12, 3) := by decide +kernel
theorem dX3_about_32 : decode cX3_about 32 = .ok (.aload_n 0, 1) := by decide +kernel
theorem dX3_about_33 : decode cX3_about 33 = .ok (.getfield 27, 3) := by decide +kernel
theorem dX3_about_36 : decode cX3_about 36 = .ok (.iload_n 1, 1) := by decide +kernel
theorem dX3_about_37 : decode cX3_about 37 = .ok (.iaload, 1) := by decide +kernel
theorem dX3_about_38 : decode cX3_about 38 = .ok (.goto 51, 3) := by decide +kernel
theorem dX3_about_41 : decode cX3_about 41 = .ok (.iload_n 2, 1) := by decide +kernel
theorem dX3_about_42 : decode cX3_about 42 = .ok (.iconst 1, 1) := by decide +kernel
theorem dX3_about_43 : decode cX3_about 43 = .ok (.if_icmp .ne 12, 3) := by decide +kernel
theorem dX3_about_46 : decode cX3_about 46 = .ok (.aload_n 0, 1) := by decide +kernel
theorem dX3_about_47 : decode cX3_about 47 = .ok (.getfield 30, 3) := by decide +kernel
theorem dX3_about_50 : decode cX3_about 50 = .ok (.iload_n 1, 1) := by decide +kernel
theorem dX3_about_51 : decode cX3_about 51 = .ok (.iaload, 1) := by decide +kernel
theorem dX3_about_52 : decode cX3_about 52 = .ok (.goto 37, 3) := by decide +kernel
theorem dX3_about_55 : decode cX3_about 55 = .ok (.iload_n 2, 1) := by decide +kernel
theorem dX3_about_56 : decode cX3_about 56 = .ok (.iconst 2, 1) := by decide +kernel
theorem dX3_about_57 : decode cX3_about 57 = .ok (.if_icmp .ne 12, 3) := by decide +kernel
theorem dX3_about_60 : decode cX3_about 60 = .ok (.aload_n 0, 1) := by decide +kernel
theorem dX3_about_61 : decode cX3_about 61 = .ok (.getfield 33, 3) := by decide +kernel
theorem dX3_about_64 : decode cX3_about 64 = .ok (.iload_n 1, 1) := by decide +kernel
theorem dX3_about_65 : decode cX3_about 65 = .ok (.iaload, 1) := by decide +kernel
theorem dX3_about_66 : decode cX3_about 66 = .ok (.goto 23, 3) := by decide +kernel
theorem dX3_about_69 : decode cX3_about 69 = .ok (.iload_n 2, 1) := by decide +kernel
theorem dX3_about_70 : decode cX3_about 70 = .ok (.iconst 3, 1) := by decide +kernel
theorem dX3_about_71 : decode cX3_about 71 = .ok (.if_icmp .ne 12, 3) := by decide +kernel
theorem dX3_about_74 : decode cX3_about 74 = .ok (.aload_n 0, 1) := by decide +kernel
theorem dX3_about_75 : decode cX3_about 75 = .ok (.getfield 36, 3) := by decide +kernel
theorem dX3_about_78 : decode cX3_about 78 = .ok (.iload_n 1, 1) := by decide +kernel
theorem dX3_about_79 : decode cX3_about 79 = .ok (.iaload, 1) := by decide +kernel
theorem dX3_about_80 : decode cX3_about 80 = .ok (.goto 9, 3) := by decide +kernel
theorem dX3_about_83 : decode cX3_about 83 = .ok (.aload_n 0, 1) := by decide +kernel
theorem dX3_about_84 : decode cX3_about 84 = .ok (.getfield 39, 3) := by decide +kernel
theorem dX3_about_87 : decode cX3_about 87 = .ok (.iload_n 1, 1) := by decide +kernel
theorem dX3_about_88 : decode cX3_about 88 = .ok (.iaload, 1) := by decide +kernel
theorem dX3_about_89 : decode cX3_about 89 = .ok (.ireturn, 1) := by decide +kernel
theorem dX3_seen_0 : decode cX3_seen 0 = .ok (.aload_n 0, 1) := by decide +kernel
theorem dX3_seen_1 : decode cX3_seen 1 = .ok (.iconst 0, 1) := by decide +kernel
theorem dX3_seen_2 : decode cX3_seen 2 = .ok (.putfield 1, 3) := by decide +kernel
theorem dX3_seen_5 : decode cX3_seen 5 = .ok (.aload_n 0, 1) := by decide +kernel
theorem dX3_seen_6 : decode cX3_seen 6 = .ok (.iload_n 1, 1) := by decide +kernel
theorem dX3_seen_7 : decode cX3_seen 7 = .ok (.invokevirtual 82, 3) := by decide +kernel
theorem dX3_seen_10 : decode cX3_seen 10 = .ok (.ifCond .eq 11, 3) := by decide +kernel
theorem dX3_seen_13 : decode cX3_seen 13 = .ok (.aload_n 0, 1) := by decide +kernel
theorem dX3_seen_14 : decode cX3_seen 14 = .ok (.iload_n 2, 1) := by decide +kernel
theorem dX3_seen_15 : decode cX3_seen 15 = .ok (.invokevirtual 130, 3) := by decide +kernel
theorem dX3_seen_18 : decode cX3_seen 18 = .ok (.ifCond .ne 6, 3) := by decide +kernel
theorem dX3_seen_21 : decode cX3_seen 21 = .ok (.bipush (-2), 2) := by decide +kernel
theorem dX3_seen_23 : decode cX3_seen 23 = .ok (.ireturn, 1) := by decide +kernel
theorem dX3_seen_24 : decode cX3_seen 24 = .ok (.aload_n 0, 1) := by decide +kernel
theorem dX3_seen_25 : decode cX3_seen 25 = .ok (.iload_n 1, 1) := by decide +kernel
theorem dX3_seen_26 : decode cX3_seen 26 = .ok (.invokevirtual 109, 3) := by decide +kernel
theorem dX3_seen_29 : decode cX3_seen 29 = .ok (.aload_n 0, 1) := by decide +kernel
theorem dX3_seen_30 : decode cX3_seen 30 = .ok (.getfield 60, 3) := by decide +kernel
theorem dX3_seen_33 : decode cX3_seen 33 = .ok (.iload_n 2, 1) := by decide +kernel
theorem dX3_seen_34 : decode cX3_seen 34 = .ok (.baload, 1) := by decide +kernel
theorem dX3_seen_35 : decode cX3_seen 35 = .ok (.ifCond .eq 7, 3) := by decide +kernel
theorem dX3_seen_38 : decode cX3_seen 38 = .ok (.iconst 4, 1) := by decide +kernel
theorem dX3_seen_39 : decode cX3_seen 39 = .ok (.goto 52, 3) := by decide +kernel
theorem dX3_seen_42 : decode cX3_seen 42 = .ok (.aload_n 0, 1) := by decide +kernel
theorem dX3_seen_43 : decode cX3_seen 43 = .ok (.getfield 57, 3) := by decide +kernel
theorem dX3_seen_46 : decode cX3_seen 46 = .ok (.iload_n 2, 1) := by decide +kernel
theorem dX3_seen_47 : decode cX3_seen 47 = .ok (.baload, 1) := by decide +kernel
theorem dX3_seen_48 : decode cX3_seen 48 = .ok (.ifCond .eq 7, 3) := by decide +kernel
theorem dX3_seen_51 : decode cX3_seen 51 = .ok (.iconst 3, 1) := by decide +kernel
theorem dX3_seen_52 : decode cX3_seen 52 = .ok (.goto 39, 3) := by decide +kernel
theorem dX3_seen_55 : decode cX3_seen 55 = .ok (.aload_n 0, 1) := by decide +kernel
theorem dX3_seen_56 : decode cX3_seen 56 = .ok (.getfield 54, 3) := by decide +kernel
theorem dX3_seen_59 : decode cX3_seen 59 = .ok (.iload_n 2, 1) := by decide +kernel
theorem dX3_seen_60 : decode cX3_seen 60 = .ok (.baload, 1) := by decide +kernel
theorem dX3_seen_61 : decode cX3_seen 61 = .ok (.ifCond .eq 7, 3) := by decide +kernel
theorem dX3_seen_64 : decode cX3_seen 64 = .ok (.iconst 2, 1) := by decide +kernel
theorem dX3_seen_65 : decode cX3_seen 65 = .ok (.goto 26, 3) := by decide +kernel
theorem dX3_seen_68 : decode cX3_seen 68 = .ok (.aload_n 0, 1) := by decide +kernel
theorem dX3_seen_69 : decode cX3_seen 69 = .ok (.getfield 42, 3) := by decide +kernel
theorem dX3_seen_72 : decode cX3_seen 72 = .ok (.bipush 10, 2) := by decide +kernel
theorem dX3_seen_74 : decode cX3_seen 74 = .ok (.iload_n 2, 1) := by decide +kernel
theorem dX3_seen_75 : decode cX3_seen 75 = .ok (.iconst (-1), 1) := by decide +kernel
theorem dX3_seen_76 : decode cX3_seen 76 = .ok (.invokestatic 90, 3) := by decide +kernel
theorem dX3_seen_79 : decode cX3_seen 79 = .ok (.imul, 1) := by decide +kernel
theorem dX3_seen_80 : decode cX3_seen 80 = .ok (.iload_n 1, 1) := by decide +kernel
theorem dX3_seen_81 : decode cX3_seen 81 = .ok (.iadd, 1) := by decide +kernel
theorem dX3_seen_82 : decode cX3_seen 82 = .ok (.baload, 1) := by decide +kernel
theorem dX3_seen_83 : decode cX3_seen 83 = .ok (.ifCond .eq 7, 3) := by decide +kernel
theorem dX3_seen_86 : decode cX3_seen 86 = .ok (.iconst 1, 1) := by decide +kernel
theorem dX3_seen_87 : decode cX3_seen 87 = .ok (.goto 4, 3) := by decide +kernel
theorem dX3_seen_90 : decode cX3_seen 90 = .ok (.iconst 0, 1) := by decide +kernel
theorem dX3_seen_91 : decode cX3_seen 91 = .ok (.ireturn, 1) := by decide +kernel
theorem dX3_votes_0 : decode cX3_votes 0 = .ok (.aload_n 0, 1) := by decide +kernel
theorem dX3_votes_1 : decode cX3_votes 1 = .ok (.iconst 0, 1) := by decide +kernel
theorem dX3_votes_2 : decode cX3_votes 2 = .ok (.putfield 1, 3) := by decide +kernel
theorem dX3_votes_5 : decode cX3_votes 5 = .ok (.aload_n 0, 1) := by decide +kernel
theorem dX3_votes_6 : decode cX3_votes 6 = .ok (.iload_n 1, 1) := by decide +kernel
theorem dX3_votes_7 : decode cX3_votes 7 = .ok (.invokevirtual 82, 3) := by decide +kernel
theorem dX3_votes_10 : decode cX3_votes 10 = .ok (.ifCond .eq 20, 3) := by decide +kernel
theorem dX3_votes_13 : decode cX3_votes 13 = .ok (.aload_n 0, 1) := by decide +kernel
theorem dX3_votes_14 : decode cX3_votes 14 = .ok (.iload_n 2, 1) := by decide +kernel
theorem dX3_votes_15 : decode cX3_votes 15 = .ok (.invokevirtual 130, 3) := by decide +kernel
theorem dX3_votes_18 : decode cX3_votes 18 = .ok (.ifCond .eq 12, 3) := by decide +kernel
theorem dX3_votes_21 : decode cX3_votes 21 = .ok (.aload_n 0, 1) := by decide +kernel
theorem dX3_votes_22 : decode cX3_votes 22 = .ok (.iload_n 1, 1) := by decide +kernel
theorem dX3_votes_23 : decode cX3_votes 23 = .ok (.iload_n 2, 1) := by decide +kernel
theorem dX3_votes_24 : decode cX3_votes 24 = .ok (.invokevirtual 100, 3) := by decide +kernel
theorem dX3_votes_27 : decode cX3_votes 27 = .ok (.goto 5, 3) := by decide +kernel
theorem dX3_votes_30 : decode cX3_votes 30 = .ok (.bipush (-2), 2) := by decide +kernel
theorem dX3_votes_32 : decode cX3_votes 32 = .ok (.ireturn, 1) := by decide +kernel
theorem dX3_voted_0 : decode cX3_voted 0 = .ok (.aload_n 0, 1) := by decide +kernel
theorem dX3_voted_1 : decode cX3_voted 1 = .ok (.iconst 0, 1) := by decide +kernel
theorem dX3_voted_2 : decode cX3_voted 2 = .ok (.putfield 1, 3) := by decide +kernel
theorem dX3_voted_5 : decode cX3_voted 5 = .ok (.aload_n 0, 1) := by decide +kernel
theorem dX3_voted_6 : decode cX3_voted 6 = .ok (.iload_n 1, 1) := by decide +kernel
theorem dX3_voted_7 : decode cX3_voted 7 = .ok (.invokevirtual 82, 3) := by decide +kernel
theorem dX3_voted_10 : decode cX3_voted 10 = .ok (.ifCond .eq 24, 3) := by decide +kernel
theorem dX3_voted_13 : decode cX3_voted 13 = .ok (.iload_n 2, 1) := by decide +kernel
theorem dX3_voted_14 : decode cX3_voted 14 = .ok (.invokestatic 78, 3) := by decide +kernel
theorem dX3_voted_17 : decode cX3_voted 17 = .ok (.ifCond .eq 17, 3) := by decide +kernel
theorem dX3_voted_20 : decode cX3_voted 20 = .ok (.aload_n 0, 1) := by decide +kernel
theorem dX3_voted_21 : decode cX3_voted 21 = .ok (.getfield 51, 3) := by decide +kernel
theorem dX3_voted_24 : decode cX3_voted 24 = .ok (.bipush 41, 2) := by decide +kernel
theorem dX3_voted_26 : decode cX3_voted 26 = .ok (.iload_n 1, 1) := by decide +kernel
theorem dX3_voted_27 : decode cX3_voted 27 = .ok (.imul, 1) := by decide +kernel
theorem dX3_voted_28 : decode cX3_voted 28 = .ok (.iload_n 2, 1) := by decide +kernel
theorem dX3_voted_29 : decode cX3_voted 29 = .ok (.iadd, 1) := by decide +kernel
theorem dX3_voted_30 : decode cX3_voted 30 = .ok (.iaload, 1) := by decide +kernel
theorem dX3_voted_31 : decode cX3_voted 31 = .ok (.goto 5, 3) := by decide +kernel
theorem dX3_voted_34 : decode cX3_voted 34 = .ok (.bipush (-2), 2) := by decide +kernel
theorem dX3_voted_36 : decode cX3_voted 36 = .ok (.ireturn, 1) := by decide +kernel
theorem dX3_reach_0 : decode cX3_reach 0 = .ok (.aload_n 0, 1) := by decide +kernel
theorem dX3_reach_1 : decode cX3_reach 1 = .ok (.iconst 0, 1) := by decide +kernel
theorem dX3_reach_2 : decode cX3_reach 2 = .ok (.putfield 1, 3) := by decide +kernel
theorem dX3_reach_5 : decode cX3_reach 5 = .ok (.aload_n 0, 1) := by decide +kernel
theorem dX3_reach_6 : decode cX3_reach 6 = .ok (.iload_n 1, 1) := by decide +kernel
theorem dX3_reach_7 : decode cX3_reach 7 = .ok (.invokevirtual 82, 3) := by decide +kernel
theorem dX3_reach_10 : decode cX3_reach 10 = .ok (.ifCond .eq 15, 3) := by decide +kernel
theorem dX3_reach_13 : decode cX3_reach 13 = .ok (.iload_n 2, 1) := by decide +kernel
theorem dX3_reach_14 : decode cX3_reach 14 = .ok (.i2l, 1) := by decide +kernel
theorem dX3_reach_15 : decode cX3_reach 15 = .ok (.lconst 0, 1) := by decide +kernel
theorem dX3_reach_16 : decode cX3_reach 16 = .ok (.ldc2_w 148, 3) := by decide +kernel
theorem dX3_reach_19 : decode cX3_reach 19 = .ok (.invokestatic 72, 3) := by decide +kernel
theorem dX3_reach_22 : decode cX3_reach 22 = .ok (.ifCond .ne 6, 3) := by decide +kernel
theorem dX3_reach_25 : decode cX3_reach 25 = .ok (.bipush (-2), 2) := by decide +kernel
theorem dX3_reach_27 : decode cX3_reach 27 = .ok (.ireturn, 1) := by decide +kernel
theorem dX3_reach_28 : decode cX3_reach 28 = .ok (.aload_n 0, 1) := by decide +kernel
theorem dX3_reach_29 : decode cX3_reach 29 = .ok (.iload_n 1, 1) := by decide +kernel
theorem dX3_reach_30 : decode cX3_reach 30 = .ok (.invokevirtual 109, 3) := by decide +kernel
theorem dX3_reach_33 : decode cX3_reach 33 = .ok (.iload_n 2, 1) := by decide +kernel
theorem dX3_reach_34 : decode cX3_reach 34 = .ok (.ifCond .ne 10, 3) := by decide +kernel
theorem dX3_reach_37 : decode cX3_reach 37 = .ok (.aload_n 0, 1) := by decide +kernel
theorem dX3_reach_38 : decode cX3_reach 38 = .ok (.getfield 94, 3) := by decide +kernel
theorem dX3_reach_41 : decode cX3_reach 41 = .ok (.goto 19, 3) := by decide +kernel
theorem dX3_reach_44 : decode cX3_reach 44 = .ok (.iload_n 2, 1) := by decide +kernel
theorem dX3_reach_45 : decode cX3_reach 45 = .ok (.iconst 1, 1) := by decide +kernel
theorem dX3_reach_46 : decode cX3_reach 46 = .ok (.if_icmp .ne 10, 3) := by decide +kernel
theorem dX3_reach_49 : decode cX3_reach 49 = .ok (.aload_n 0, 1) := by decide +kernel
theorem dX3_reach_50 : decode cX3_reach 50 = .ok (.getfield 97, 3) := by decide +kernel
theorem dX3_reach_53 : decode cX3_reach 53 = .ok (.goto 7, 3) := by decide +kernel
theorem dX3_reach_56 : decode cX3_reach 56 = .ok (.aload_n 0, 1) := by decide +kernel
theorem dX3_reach_57 : decode cX3_reach 57 = .ok (.getfield 103, 3) := by decide +kernel
theorem dX3_reach_60 : decode cX3_reach 60 = .ok (.ireturn, 1) := by decide +kernel
theorem dX3_ledger_0 : decode cX3_ledger 0 = .ok (.aload_n 0, 1) := by decide +kernel
theorem dX3_ledger_1 : decode cX3_ledger 1 = .ok (.iconst 0, 1) := by decide +kernel
theorem dX3_ledger_2 : decode cX3_ledger 2 = .ok (.putfield 1, 3) := by decide +kernel
theorem dX3_ledger_5 : decode cX3_ledger 5 = .ok (.aload_n 0, 1) := by decide +kernel
theorem dX3_ledger_6 : decode cX3_ledger 6 = .ok (.iload_n 1, 1) := by decide +kernel
theorem dX3_ledger_7 : decode cX3_ledger 7 = .ok (.invokevirtual 82, 3) := by decide +kernel
theorem dX3_ledger_10 : decode cX3_ledger 10 = .ok (.ifCond .ne 6, 3) := by decide +kernel
theorem dX3_ledger_13 : decode cX3_ledger 13 = .ok (.bipush (-2), 2) := by decide +kernel
theorem dX3_ledger_15 : decode cX3_ledger 15 = .ok (.ireturn, 1) := by decide +kernel
theorem dX3_ledger_16 : decode cX3_ledger 16 = .ok (.aload_n 0, 1) := by decide +kernel
theorem dX3_ledger_17 : decode cX3_ledger 17 = .ok (.iload_n 1, 1) := by decide +kernel
theorem dX3_ledger_18 : decode cX3_ledger 18 = .ok (.invokevirtual 109, 3) := by decide +kernel
theorem dX3_ledger_21 : decode cX3_ledger 21 = .ok (.iconst 0, 1) := by decide +kernel
theorem dX3_ledger_22 : decode cX3_ledger 22 = .ok (.istore_n 3, 1) := by decide +kernel
theorem dX3_ledger_23 : decode cX3_ledger 23 = .ok (.aload_n 0, 1) := by decide +kernel
theorem dX3_ledger_24 : decode cX3_ledger 24 = .ok (.getfield 103, 3) := by decide +kernel
theorem dX3_ledger_27 : decode cX3_ledger 27 = .ok (.istore 4, 2) := by decide +kernel
theorem dX3_ledger_29 : decode cX3_ledger 29 = .ok (.iload 4, 2) := by decide +kernel
theorem dX3_ledger_31 : decode cX3_ledger 31 = .ok (.iconst (-1), 1) := by decide +kernel
theorem dX3_ledger_32 : decode cX3_ledger 32 = .ok (.if_icmp .eq 26, 3) := by decide +kernel
theorem dX3_ledger_35 : decode cX3_ledger 35 = .ok (.aload_n 0, 1) := by decide +kernel
theorem dX3_ledger_36 : decode cX3_ledger 36 = .ok (.getfield 66, 3) := by decide +kernel
theorem dX3_ledger_39 : decode cX3_ledger 39 = .ok (.iload_n 3, 1) := by decide +kernel
theorem dX3_ledger_40 : decode cX3_ledger 40 = .ok (.iload 4, 2) := by decide +kernel
theorem dX3_ledger_42 : decode cX3_ledger 42 = .ok (.iastore, 1) := by decide +kernel
theorem dX3_ledger_43 : decode cX3_ledger 43 = .ok (.iinc 3 1, 3) := by decide +kernel
theorem dX3_ledger_46 : decode cX3_ledger 46 = .ok (.aload_n 0, 1) := by decide +kernel
theorem dX3_ledger_47 : decode cX3_ledger 47 = .ok (.getfield 27, 3) := by decide +kernel
theorem dX3_ledger_50 : decode cX3_ledger 50 = .ok (.iload 4, 2) := by decide +kernel
theorem dX3_ledger_52 : decode cX3_ledger 52 = .ok (.iaload, 1) := by decide +kernel
theorem dX3_ledger_53 : decode cX3_ledger 53 = .ok (.istore 4, 2) := by decide +kernel
theorem dX3_ledger_55 : decode cX3_ledger 55 = .ok (.goto (-26), 3) := by decide +kernel
theorem dX3_ledger_58 : decode cX3_ledger 58 = .ok (.iconst 0, 1) := by decide +kernel
theorem dX3_ledger_59 : decode cX3_ledger 59 = .ok (.istore 4, 2) := by decide +kernel
theorem dX3_ledger_61 : decode cX3_ledger 61 = .ok (.iload_n 2, 1) := by decide +kernel
theorem dX3_ledger_62 : decode cX3_ledger 62 = .ok (.istore 5, 2) := by decide +kernel
theorem dX3_ledger_64 : decode cX3_ledger 64 = .ok (.iload_n 3, 1) := by decide +kernel
theorem dX3_ledger_65 : decode cX3_ledger 65 = .ok (.iconst 1, 1) := by decide +kernel
theorem dX3_ledger_66 : decode cX3_ledger 66 = .ok (.isub, 1) := by decide +kernel
theorem dX3_ledger_67 : decode cX3_ledger 67 = .ok (.istore 6, 2) := by decide +kernel
theorem dX3_ledger_69 : decode cX3_ledger 69 = .ok (.iload 6, 2) := by decide +kernel
theorem dX3_ledger_71 : decode cX3_ledger 71 = .ok (.ifCond .lt 73, 3) := by decide +kernel
theorem dX3_ledger_74 : decode cX3_ledger 74 = .ok (.aload_n 0, 1) := by decide +kernel
theorem dX3_ledger_75 : decode cX3_ledger 75 = .ok (.getfield 33, 3) := by decide +kernel
theorem dX3_ledger_78 : decode cX3_ledger 78 = .ok (.aload_n 0, 1) := by decide +kernel
theorem dX3_ledger_79 : decode cX3_ledger 79 = .ok (.getfield 66, 3) := by decide +kernel
theorem dX3_ledger_82 : decode cX3_ledger 82 = .ok (.iload 6, 2) := by decide +kernel
theorem dX3_ledger_84 : decode cX3_ledger 84 = .ok (.iaload, 1) := by decide +kernel
theorem dX3_ledger_85 : decode cX3_ledger 85 = .ok (.iaload, 1) := by decide +kernel
theorem dX3_ledger_86 : decode cX3_ledger 86 = .ok (.iload 4, 2) := by decide +kernel
theorem dX3_ledger_88 : decode cX3_ledger 88 = .ok (.iconst (-1), 1) := by decide +kernel
theorem dX3_ledger_89 : decode cX3_ledger 89 = .ok (.ixor, 1) := by decide +kernel
theorem dX3_ledger_90 : decode cX3_ledger 90 = .ok (.iand, 1) := by decide +kernel
theorem dX3_ledger_91 : decode cX3_ledger 91 = .ok (.istore 7, 2) := by decide +kernel
theorem dX3_ledger_93 : decode cX3_ledger 93 = .ok (.iload 4, 2) := by decide +kernel
theorem dX3_ledger_95 : decode cX3_ledger 95 = .ok (.iload 7, 2) := by decide +kernel
theorem dX3_ledger_97 : decode cX3_ledger 97 = .ok (.ior, 1) := by decide +kernel
theorem dX3_ledger_98 : decode cX3_ledger 98 = .ok (.istore 4, 2) := by decide +kernel
theorem dX3_ledger_100 : decode cX3_ledger 100 = .ok (.iconst 0, 1) := by decide +kernel
theorem dX3_ledger_101 : decode cX3_ledger 101 = .ok (.istore 8, 2) := by decide +kernel
theorem dX3_ledger_103 : decode cX3_ledger 103 = .ok (.iload 8, 2) := by decide +kernel
theorem dX3_ledger_105 : decode cX3_ledger 105 = .ok (.bipush 32, 2) := by decide +kernel
theorem dX3_ledger_107 : decode cX3_ledger 107 = .ok (.if_icmp .ge 31, 3) := by decide +kernel
theorem dX3_ledger_110 : decode cX3_ledger 110 = .ok (.iload 7, 2) := by decide +kernel
theorem dX3_ledger_112 : decode cX3_ledger 112 = .ok (.iload 8, 2) := by decide +kernel
theorem dX3_ledger_114 : decode cX3_ledger 114 = .ok (.iushr, 1) := by decide +kernel
theorem dX3_ledger_115 : decode cX3_ledger 115 = .ok (.iconst 1, 1) := by decide +kernel
theorem dX3_ledger_116 : decode cX3_ledger 116 = .ok (.iand, 1) := by decide +kernel
theorem dX3_ledger_117 : decode cX3_ledger 117 = .ok (.iconst 1, 1) := by decide +kernel
theorem dX3_ledger_118 : decode cX3_ledger 118 = .ok (.if_icmp .ne 14, 3) := by decide +kernel
theorem dX3_ledger_121 : decode cX3_ledger 121 = .ok (.iload 5, 2) := by decide +kernel
theorem dX3_ledger_123 : decode cX3_ledger 123 = .ok (.ifCond .ne 6, 3) := by decide +kernel
theorem dX3_ledger_126 : decode cX3_ledger 126 = .ok (.iload 8, 2) := by decide +kernel
theorem dX3_ledger_128 : decode cX3_ledger 128 = .ok (.ireturn, 1) := by decide +kernel
theorem dX3_ledger_129 : decode cX3_ledger 129 = .ok (.iinc 5 (-1), 3) := by decide +kernel
theorem dX3_ledger_132 : decode cX3_ledger 132 = .ok (.iinc 8 1, 3) := by decide +kernel
theorem dX3_ledger_135 : decode cX3_ledger 135 = .ok (.goto (-32), 3) := by decide +kernel
theorem dX3_ledger_138 : decode cX3_ledger 138 = .ok (.iinc 6 (-1), 3) := by decide +kernel
theorem dX3_ledger_141 : decode cX3_ledger 141 = .ok (.goto (-72), 3) := by decide +kernel
theorem dX3_ledger_144 : decode cX3_ledger 144 = .ok (.iconst (-1), 1) := by decide +kernel
theorem dX3_ledger_145 : decode cX3_ledger 145 = .ok (.ireturn, 1) := by decide +kernel
theorem dX3_isInChain_0 : decode cX3_isInChain 0 = .ok (.iload_n 2, 1) := by decide +kernel
theorem dX3_isInChain_1 : decode cX3_isInChain 1 = .ok (.istore_n 3, 1) := by decide +kernel
theorem dX3_isInChain_2 : decode cX3_isInChain 2 = .ok (.iload_n 3, 1) := by decide +kernel
theorem dX3_isInChain_3 : decode cX3_isInChain 3 = .ok (.iconst (-1), 1) := by decide +kernel
theorem dX3_isInChain_4 : decode cX3_isInChain 4 = .ok (.if_icmp .eq 18, 3) := by decide +kernel
theorem dX3_isInChain_7 : decode cX3_isInChain 7 = .ok (.iload_n 3, 1) := by decide +kernel
theorem dX3_isInChain_8 : decode cX3_isInChain 8 = .ok (.iload_n 1, 1) := by decide +kernel
theorem dX3_isInChain_9 : decode cX3_isInChain 9 = .ok (.if_icmp .eq 13, 3) := by decide +kernel
theorem dX3_isInChain_12 : decode cX3_isInChain 12 = .ok (.aload_n 0, 1) := by decide +kernel
theorem dX3_isInChain_13 : decode cX3_isInChain 13 = .ok (.getfield 27, 3) := by decide +kernel
theorem dX3_isInChain_16 : decode cX3_isInChain 16 = .ok (.iload_n 3, 1) := by decide +kernel
theorem dX3_isInChain_17 : decode cX3_isInChain 17 = .ok (.iaload, 1) := by decide +kernel
theorem dX3_isInChain_18 : decode cX3_isInChain 18 = .ok (.istore_n 3, 1) := by decide +kernel
theorem dX3_isInChain_19 : decode cX3_isInChain 19 = .ok (.goto (-17), 3) := by decide +kernel
theorem dX3_isInChain_22 : decode cX3_isInChain 22 = .ok (.iload_n 3, 1) := by decide +kernel
theorem dX3_isInChain_23 : decode cX3_isInChain 23 = .ok (.iload_n 1, 1) := by decide +kernel
theorem dX3_isInChain_24 : decode cX3_isInChain 24 = .ok (.if_icmp .ne 7, 3) := by decide +kernel
theorem dX3_isInChain_27 : decode cX3_isInChain 27 = .ok (.iconst 1, 1) := by decide +kernel
theorem dX3_isInChain_28 : decode cX3_isInChain 28 = .ok (.goto 4, 3) := by decide +kernel
theorem dX3_isInChain_31 : decode cX3_isInChain 31 = .ok (.iconst 0, 1) := by decide +kernel
theorem dX3_isInChain_32 : decode cX3_isInChain 32 = .ok (.ireturn, 1) := by decide +kernel
theorem dX3_agree_0 : decode cX3_agree 0 = .ok (.aload_n 0, 1) := by decide +kernel
theorem dX3_agree_1 : decode cX3_agree 1 = .ok (.iconst 0, 1) := by decide +kernel
theorem dX3_agree_2 : decode cX3_agree 2 = .ok (.putfield 1, 3) := by decide +kernel
theorem dX3_agree_5 : decode cX3_agree 5 = .ok (.iconst 0, 1) := by decide +kernel
theorem dX3_agree_6 : decode cX3_agree 6 = .ok (.istore_n 1, 1) := by decide +kernel
theorem dX3_agree_7 : decode cX3_agree 7 = .ok (.iconst 0, 1) := by decide +kernel
theorem dX3_agree_8 : decode cX3_agree 8 = .ok (.istore_n 2, 1) := by decide +kernel
theorem dX3_agree_9 : decode cX3_agree 9 = .ok (.iload_n 2, 1) := by decide +kernel
theorem dX3_agree_10 : decode cX3_agree 10 = .ok (.aload_n 0, 1) := by decide +kernel
theorem dX3_agree_11 : decode cX3_agree 11 = .ok (.getfield 69, 3) := by decide +kernel
theorem dX3_agree_14 : decode cX3_agree 14 = .ok (.if_icmp .ge 57, 3) := by decide +kernel
theorem dX3_agree_17 : decode cX3_agree 17 = .ok (.aload_n 0, 1) := by decide +kernel
theorem dX3_agree_18 : decode cX3_agree 18 = .ok (.getfield 13, 3) := by decide +kernel
theorem dX3_agree_21 : decode cX3_agree 21 = .ok (.iload_n 2, 1) := by decide +kernel
theorem dX3_agree_22 : decode cX3_agree 22 = .ok (.baload, 1) := by decide +kernel
theorem dX3_agree_23 : decode cX3_agree 23 = .ok (.ifCond .ne 42, 3) := by decide +kernel
theorem dX3_agree_26 : decode cX3_agree 26 = .ok (.aload_n 0, 1) := by decide +kernel
theorem dX3_agree_27 : decode cX3_agree 27 = .ok (.iload_n 2, 1) := by decide +kernel
theorem dX3_agree_28 : decode cX3_agree 28 = .ok (.invokevirtual 109, 3) := by decide +kernel
theorem dX3_agree_31 : decode cX3_agree 31 = .ok (.aload_n 0, 1) := by decide +kernel
theorem dX3_agree_32 : decode cX3_agree 32 = .ok (.iload_n 1, 1) := by decide +kernel
theorem dX3_agree_33 : decode cX3_agree 33 = .ok (.aload_n 0, 1) := by decide +kernel
theorem dX3_agree_34 : decode cX3_agree 34 = .ok (.getfield 103, 3) := by decide +kernel
theorem dX3_agree_37 : decode cX3_agree 37 = .ok (.invokevirtual 150, 3) := by decide +kernel
theorem dX3_agree_40 : decode cX3_agree 40 = .ok (.ifCond .eq 11, 3) := by decide +kernel
theorem dX3_agree_43 : decode cX3_agree 43 = .ok (.aload_n 0, 1) := by decide +kernel
theorem dX3_agree_44 : decode cX3_agree 44 = .ok (.getfield 103, 3) := by decide +kernel
theorem dX3_agree_47 : decode cX3_agree 47 = .ok (.istore_n 1, 1) := by decide +kernel
theorem dX3_agree_48 : decode cX3_agree 48 = .ok (.goto 17, 3) := by decide +kernel
theorem dX3_agree_51 : decode cX3_agree 51 = .ok (.aload_n 0, 1) := by decide +kernel
theorem dX3_agree_52 : decode cX3_agree 52 = .ok (.aload_n 0, 1) := by decide +kernel
theorem dX3_agree_53 : decode cX3_agree 53 = .ok (.getfield 103, 3) := by decide +kernel
theorem dX3_agree_56 : decode cX3_agree 56 = .ok (.iload_n 1, 1) := by decide +kernel
theorem dX3_agree_57 : decode cX3_agree 57 = .ok (.invokevirtual 150, 3) := by decide +kernel
theorem dX3_agree_60 : decode cX3_agree 60 = .ok (.ifCond .ne 5, 3) := by decide +kernel
theorem dX3_agree_63 : decode cX3_agree 63 = .ok (.iconst 0, 1) := by decide +kernel
theorem dX3_agree_64 : decode cX3_agree 64 = .ok (.ireturn, 1) := by decide +kernel
theorem dX3_agree_65 : decode cX3_agree 65 = .ok (.iinc 2 1, 3) := by decide +kernel
theorem dX3_agree_68 : decode cX3_agree 68 = .ok (.goto (-59), 3) := by decide +kernel
theorem dX3_agree_71 : decode cX3_agree 71 = .ok (.iconst 1, 1) := by decide +kernel
theorem dX3_agree_72 : decode cX3_agree 72 = .ok (.ireturn, 1) := by decide +kernel
theorem dX3_count_0 : decode cX3_count 0 = .ok (.aload_n 0, 1) := by decide +kernel
theorem dX3_count_1 : decode cX3_count 1 = .ok (.iconst 0, 1) := by decide +kernel
theorem dX3_count_2 : decode cX3_count 2 = .ok (.putfield 1, 3) := by decide +kernel
theorem dX3_count_5 : decode cX3_count 5 = .ok (.iconst 0, 1) := by decide +kernel
theorem dX3_count_6 : decode cX3_count 6 = .ok (.istore_n 2, 1) := by decide +kernel
theorem dX3_count_7 : decode cX3_count 7 = .ok (.iload_n 1, 1) := by decide +kernel
theorem dX3_count_8 : decode cX3_count 8 = .ok (.tableswitch 142 0 6 #[44, 49, 54, 59, 94, 132, 137], 44) := by decide +kernel
theorem dX3_count_52 : decode cX3_count 52 = .ok (.aload_n 0, 1) := by decide +kernel
theorem dX3_count_53 : decode cX3_count 53 = .ok (.getfield 69, 3) := by decide +kernel
theorem dX3_count_56 : decode cX3_count 56 = .ok (.ireturn, 1) := by decide +kernel
theorem dX3_count_57 : decode cX3_count 57 = .ok (.aload_n 0, 1) := by decide +kernel
theorem dX3_count_58 : decode cX3_count 58 = .ok (.getfield 85, 3) := by decide +kernel
theorem dX3_count_61 : decode cX3_count 61 = .ok (.ireturn, 1) := by decide +kernel
theorem dX3_count_62 : decode cX3_count 62 = .ok (.aload_n 0, 1) := by decide +kernel
theorem dX3_count_63 : decode cX3_count 63 = .ok (.getfield 24, 3) := by decide +kernel
theorem dX3_count_66 : decode cX3_count 66 = .ok (.ireturn, 1) := by decide +kernel
theorem dX3_count_67 : decode cX3_count 67 = .ok (.iconst 0, 1) := by decide +kernel
theorem dX3_count_68 : decode cX3_count 68 = .ok (.istore_n 3, 1) := by decide +kernel
theorem dX3_count_69 : decode cX3_count 69 = .ok (.iload_n 3, 1) := by decide +kernel
theorem dX3_count_70 : decode cX3_count 70 = .ok (.aload_n 0, 1) := by decide +kernel
theorem dX3_count_71 : decode cX3_count 71 = .ok (.getfield 69, 3) := by decide +kernel
theorem dX3_count_74 : decode cX3_count 74 = .ok (.if_icmp .ge 26, 3) := by decide +kernel
theorem dX3_count_77 : decode cX3_count 77 = .ok (.iload_n 2, 1) := by decide +kernel
theorem dX3_count_78 : decode cX3_count 78 = .ok (.aload_n 0, 1) := by decide +kernel
theorem dX3_count_79 : decode cX3_count 79 = .ok (.getfield 13, 3) := by decide +kernel
theorem dX3_count_82 : decode cX3_count 82 = .ok (.iload_n 3, 1) := by decide +kernel
theorem dX3_count_83 : decode cX3_count 83 = .ok (.baload, 1) := by decide +kernel
theorem dX3_count_84 : decode cX3_count 84 = .ok (.ifCond .eq 7, 3) := by decide +kernel
theorem dX3_count_87 : decode cX3_count 87 = .ok (.iconst 1, 1) := by decide +kernel
theorem dX3_count_88 : decode cX3_count 88 = .ok (.goto 4, 3) := by decide +kernel
theorem dX3_count_91 : decode cX3_count 91 = .ok (.iconst 0, 1) := by decide +kernel
theorem dX3_count_92 : decode cX3_count 92 = .ok (.iadd, 1) := by decide +kernel
theorem dX3_count_93 : decode cX3_count 93 = .ok (.istore_n 2, 1) := by decide +kernel
theorem dX3_count_94 : decode cX3_count 94 = .ok (.iinc 3 1, 3) := by decide +kernel
theorem dX3_count_97 : decode cX3_count 97 = .ok (.goto (-28), 3) := by decide +kernel
theorem dX3_count_100 : decode cX3_count 100 = .ok (.iload_n 2, 1) := by decide +kernel
theorem dX3_count_101 : decode cX3_count 101 = .ok (.ireturn, 1) := by decide +kernel
theorem dX3_count_102 : decode cX3_count 102 = .ok (.iconst 0, 1) := by decide +kernel
theorem dX3_count_103 : decode cX3_count 103 = .ok (.istore_n 3, 1) := by decide +kernel
theorem dX3_count_104 : decode cX3_count 104 = .ok (.iload_n 3, 1) := by decide +kernel
theorem dX3_count_105 : decode cX3_count 105 = .ok (.bipush 110, 2) := by decide +kernel
theorem dX3_count_107 : decode cX3_count 107 = .ok (.aload_n 0, 1) := by decide +kernel
theorem dX3_count_108 : decode cX3_count 108 = .ok (.getfield 24, 3) := by decide +kernel
theorem dX3_count_111 : decode cX3_count 111 = .ok (.imul, 1) := by decide +kernel
theorem dX3_count_112 : decode cX3_count 112 = .ok (.if_icmp .ge 26, 3) := by decide +kernel
theorem dX3_count_115 : decode cX3_count 115 = .ok (.iload_n 2, 1) := by decide +kernel
theorem dX3_count_116 : decode cX3_count 116 = .ok (.aload_n 0, 1) := by decide +kernel
theorem dX3_count_117 : decode cX3_count 117 = .ok (.getfield 45, 3) := by decide +kernel
theorem dX3_count_120 : decode cX3_count 120 = .ok (.iload_n 3, 1) := by decide +kernel
theorem dX3_count_121 : decode cX3_count 121 = .ok (.baload, 1) := by decide +kernel
theorem dX3_count_122 : decode cX3_count 122 = .ok (.ifCond .eq 7, 3) := by decide +kernel
theorem dX3_count_125 : decode cX3_count 125 = .ok (.iconst 1, 1) := by decide +kernel
theorem dX3_count_126 : decode cX3_count 126 = .ok (.goto 4, 3) := by decide +kernel
theorem dX3_count_129 : decode cX3_count 129 = .ok (.iconst 0, 1) := by decide +kernel
theorem dX3_count_130 : decode cX3_count 130 = .ok (.iadd, 1) := by decide +kernel
theorem dX3_count_131 : decode cX3_count 131 = .ok (.istore_n 2, 1) := by decide +kernel
theorem dX3_count_132 : decode cX3_count 132 = .ok (.iinc 3 1, 3) := by decide +kernel
theorem dX3_count_135 : decode cX3_count 135 = .ok (.goto (-31), 3) := by decide +kernel
theorem dX3_count_138 : decode cX3_count 138 = .ok (.iload_n 2, 1) := by decide +kernel
theorem dX3_count_139 : decode cX3_count 139 = .ok (.ireturn, 1) := by decide +kernel
theorem dX3_count_140 : decode cX3_count 140 = .ok (.aload_n 0, 1) := by decide +kernel
theorem dX3_count_141 : decode cX3_count 141 = .ok (.getfield 113, 3) := by decide +kernel
theorem dX3_count_144 : decode cX3_count 144 = .ok (.ireturn, 1) := by decide +kernel
theorem dX3_count_145 : decode cX3_count 145 = .ok (.aload_n 0, 1) := by decide +kernel
theorem dX3_count_146 : decode cX3_count 146 = .ok (.getfield 127, 3) := by decide +kernel
theorem dX3_count_149 : decode cX3_count 149 = .ok (.ireturn, 1) := by decide +kernel
theorem dX3_count_150 : decode cX3_count 150 = .ok (.bipush (-2), 2) := by decide +kernel
theorem dX3_count_152 : decode cX3_count 152 = .ok (.ireturn, 1) := by decide +kernel
end
section
theorem dJ6_bitCount_0f7a4_0 : decode cJ6_bitCount_0f7a4 0 = .ok (.iload_n 0, 1) := by decide +kernel
theorem dJ6_bitCount_0f7a4_1 : decode cJ6_bitCount_0f7a4 1 = .ok (.iload_n 0, 1) := by decide +kernel
theorem dJ6_bitCount_0f7a4_2 : decode cJ6_bitCount_0f7a4 2 = .ok (.iconst 1, 1) := by decide +kernel
theorem dJ6_bitCount_0f7a4_3 : decode cJ6_bitCount_0f7a4 3 = .ok (.iushr, 1) := by decide +kernel
theorem dJ6_bitCount_0f7a4_4 : decode cJ6_bitCount_0f7a4 4 = .ok (.ldc_w 265, 3) := by decide +kernel
theorem dJ6_bitCount_0f7a4_7 : decode cJ6_bitCount_0f7a4 7 = .ok (.iand, 1) := by decide +kernel
theorem dJ6_bitCount_0f7a4_8 : decode cJ6_bitCount_0f7a4 8 = .ok (.isub, 1) := by decide +kernel
theorem dJ6_bitCount_0f7a4_9 : decode cJ6_bitCount_0f7a4 9 = .ok (.istore_n 0, 1) := by decide +kernel
theorem dJ6_bitCount_0f7a4_10 : decode cJ6_bitCount_0f7a4 10 = .ok (.iload_n 0, 1) := by decide +kernel
theorem dJ6_bitCount_0f7a4_11 : decode cJ6_bitCount_0f7a4 11 = .ok (.ldc_w 266, 3) := by decide +kernel
theorem dJ6_bitCount_0f7a4_14 : decode cJ6_bitCount_0f7a4 14 = .ok (.iand, 1) := by decide +kernel
theorem dJ6_bitCount_0f7a4_15 : decode cJ6_bitCount_0f7a4 15 = .ok (.iload_n 0, 1) := by decide +kernel
theorem dJ6_bitCount_0f7a4_16 : decode cJ6_bitCount_0f7a4 16 = .ok (.iconst 2, 1) := by decide +kernel
theorem dJ6_bitCount_0f7a4_17 : decode cJ6_bitCount_0f7a4 17 = .ok (.iushr, 1) := by decide +kernel
theorem dJ6_bitCount_0f7a4_18 : decode cJ6_bitCount_0f7a4 18 = .ok (.ldc_w 266, 3) := by decide +kernel
theorem dJ6_bitCount_0f7a4_21 : decode cJ6_bitCount_0f7a4 21 = .ok (.iand, 1) := by decide +kernel
theorem dJ6_bitCount_0f7a4_22 : decode cJ6_bitCount_0f7a4 22 = .ok (.iadd, 1) := by decide +kernel
theorem dJ6_bitCount_0f7a4_23 : decode cJ6_bitCount_0f7a4 23 = .ok (.istore_n 0, 1) := by decide +kernel
theorem dJ6_bitCount_0f7a4_24 : decode cJ6_bitCount_0f7a4 24 = .ok (.iload_n 0, 1) := by decide +kernel
theorem dJ6_bitCount_0f7a4_25 : decode cJ6_bitCount_0f7a4 25 = .ok (.iload_n 0, 1) := by decide +kernel
theorem dJ6_bitCount_0f7a4_26 : decode cJ6_bitCount_0f7a4 26 = .ok (.iconst 4, 1) := by decide +kernel
theorem dJ6_bitCount_0f7a4_27 : decode cJ6_bitCount_0f7a4 27 = .ok (.iushr, 1) := by decide +kernel
theorem dJ6_bitCount_0f7a4_28 : decode cJ6_bitCount_0f7a4 28 = .ok (.iadd, 1) := by decide +kernel
theorem dJ6_bitCount_0f7a4_29 : decode cJ6_bitCount_0f7a4 29 = .ok (.ldc_w 267, 3) := by decide +kernel
theorem dJ6_bitCount_0f7a4_32 : decode cJ6_bitCount_0f7a4 32 = .ok (.iand, 1) := by decide +kernel
theorem dJ6_bitCount_0f7a4_33 : decode cJ6_bitCount_0f7a4 33 = .ok (.istore_n 0, 1) := by decide +kernel
theorem dJ6_bitCount_0f7a4_34 : decode cJ6_bitCount_0f7a4 34 = .ok (.iload_n 0, 1) := by decide +kernel
theorem dJ6_bitCount_0f7a4_35 : decode cJ6_bitCount_0f7a4 35 = .ok (.iload_n 0, 1) := by decide +kernel
theorem dJ6_bitCount_0f7a4_36 : decode cJ6_bitCount_0f7a4 36 = .ok (.bipush 8, 2) := by decide +kernel
theorem dJ6_bitCount_0f7a4_38 : decode cJ6_bitCount_0f7a4 38 = .ok (.iushr, 1) := by decide +kernel
theorem dJ6_bitCount_0f7a4_39 : decode cJ6_bitCount_0f7a4 39 = .ok (.iadd, 1) := by decide +kernel
theorem dJ6_bitCount_0f7a4_40 : decode cJ6_bitCount_0f7a4 40 = .ok (.istore_n 0, 1) := by decide +kernel
theorem dJ6_bitCount_0f7a4_41 : decode cJ6_bitCount_0f7a4 41 = .ok (.iload_n 0, 1) := by decide +kernel
theorem dJ6_bitCount_0f7a4_42 : decode cJ6_bitCount_0f7a4 42 = .ok (.iload_n 0, 1) := by decide +kernel
theorem dJ6_bitCount_0f7a4_43 : decode cJ6_bitCount_0f7a4 43 = .ok (.bipush 16, 2) := by decide +kernel
theorem dJ6_bitCount_0f7a4_45 : decode cJ6_bitCount_0f7a4 45 = .ok (.iushr, 1) := by decide +kernel
theorem dJ6_bitCount_0f7a4_46 : decode cJ6_bitCount_0f7a4 46 = .ok (.iadd, 1) := by decide +kernel
theorem dJ6_bitCount_0f7a4_47 : decode cJ6_bitCount_0f7a4 47 = .ok (.istore_n 0, 1) := by decide +kernel
theorem dJ6_bitCount_0f7a4_48 : decode cJ6_bitCount_0f7a4 48 = .ok (.iload_n 0, 1) := by decide +kernel
theorem dJ6_bitCount_0f7a4_49 : decode cJ6_bitCount_0f7a4 49 = .ok (.bipush 63, 2) := by decide +kernel
theorem dJ6_bitCount_0f7a4_51 : decode cJ6_bitCount_0f7a4 51 = .ok (.iand, 1) := by decide +kernel
theorem dJ6_bitCount_0f7a4_52 : decode cJ6_bitCount_0f7a4 52 = .ok (.ireturn, 1) := by decide +kernel
theorem dJ13_bitCount_95d88_0 : decode cJ13_bitCount_95d88 0 = .ok (.lload_n 0, 1) := by decide +kernel
theorem dJ13_bitCount_95d88_1 : decode cJ13_bitCount_95d88 1 = .ok (.lload_n 0, 1) := by decide +kernel
theorem dJ13_bitCount_95d88_2 : decode cJ13_bitCount_95d88 2 = .ok (.iconst 1, 1) := by decide +kernel
theorem dJ13_bitCount_95d88_3 : decode cJ13_bitCount_95d88 3 = .ok (.lushr, 1) := by decide +kernel
theorem dJ13_bitCount_95d88_4 : decode cJ13_bitCount_95d88 4 = .ok (.ldc2_w 314, 3) := by decide +kernel
theorem dJ13_bitCount_95d88_7 : decode cJ13_bitCount_95d88 7 = .ok (.land, 1) := by decide +kernel
theorem dJ13_bitCount_95d88_8 : decode cJ13_bitCount_95d88 8 = .ok (.lsub, 1) := by decide +kernel
theorem dJ13_bitCount_95d88_9 : decode cJ13_bitCount_95d88 9 = .ok (.lstore_n 0, 1) := by decide +kernel
theorem dJ13_bitCount_95d88_10 : decode cJ13_bitCount_95d88 10 = .ok (.lload_n 0, 1) := by decide +kernel
theorem dJ13_bitCount_95d88_11 : decode cJ13_bitCount_95d88 11 = .ok (.ldc2_w 316, 3) := by decide +kernel
theorem dJ13_bitCount_95d88_14 : decode cJ13_bitCount_95d88 14 = .ok (.land, 1) := by decide +kernel
theorem dJ13_bitCount_95d88_15 : decode cJ13_bitCount_95d88 15 = .ok (.lload_n 0, 1) := by decide +kernel
theorem dJ13_bitCount_95d88_16 : decode cJ13_bitCount_95d88 16 = .ok (.iconst 2, 1) := by decide +kernel
theorem dJ13_bitCount_95d88_17 : decode cJ13_bitCount_95d88 17 = .ok (.lushr, 1) := by decide +kernel
theorem dJ13_bitCount_95d88_18 : decode cJ13_bitCount_95d88 18 = .ok (.ldc2_w 316, 3) := by decide +kernel
theorem dJ13_bitCount_95d88_21 : decode cJ13_bitCount_95d88 21 = .ok (.land, 1) := by decide +kernel
theorem dJ13_bitCount_95d88_22 : decode cJ13_bitCount_95d88 22 = .ok (.ladd, 1) := by decide +kernel
theorem dJ13_bitCount_95d88_23 : decode cJ13_bitCount_95d88 23 = .ok (.lstore_n 0, 1) := by decide +kernel
theorem dJ13_bitCount_95d88_24 : decode cJ13_bitCount_95d88 24 = .ok (.lload_n 0, 1) := by decide +kernel
theorem dJ13_bitCount_95d88_25 : decode cJ13_bitCount_95d88 25 = .ok (.lload_n 0, 1) := by decide +kernel
theorem dJ13_bitCount_95d88_26 : decode cJ13_bitCount_95d88 26 = .ok (.iconst 4, 1) := by decide +kernel
theorem dJ13_bitCount_95d88_27 : decode cJ13_bitCount_95d88 27 = .ok (.lushr, 1) := by decide +kernel
theorem dJ13_bitCount_95d88_28 : decode cJ13_bitCount_95d88 28 = .ok (.ladd, 1) := by decide +kernel
theorem dJ13_bitCount_95d88_29 : decode cJ13_bitCount_95d88 29 = .ok (.ldc2_w 318, 3) := by decide +kernel
theorem dJ13_bitCount_95d88_32 : decode cJ13_bitCount_95d88 32 = .ok (.land, 1) := by decide +kernel
theorem dJ13_bitCount_95d88_33 : decode cJ13_bitCount_95d88 33 = .ok (.lstore_n 0, 1) := by decide +kernel
theorem dJ13_bitCount_95d88_34 : decode cJ13_bitCount_95d88 34 = .ok (.lload_n 0, 1) := by decide +kernel
theorem dJ13_bitCount_95d88_35 : decode cJ13_bitCount_95d88 35 = .ok (.lload_n 0, 1) := by decide +kernel
theorem dJ13_bitCount_95d88_36 : decode cJ13_bitCount_95d88 36 = .ok (.bipush 8, 2) := by decide +kernel
theorem dJ13_bitCount_95d88_38 : decode cJ13_bitCount_95d88 38 = .ok (.lushr, 1) := by decide +kernel
theorem dJ13_bitCount_95d88_39 : decode cJ13_bitCount_95d88 39 = .ok (.ladd, 1) := by decide +kernel
theorem dJ13_bitCount_95d88_40 : decode cJ13_bitCount_95d88 40 = .ok (.lstore_n 0, 1) := by decide +kernel
theorem dJ13_bitCount_95d88_41 : decode cJ13_bitCount_95d88 41 = .ok (.lload_n 0, 1) := by decide +kernel
theorem dJ13_bitCount_95d88_42 : decode cJ13_bitCount_95d88 42 = .ok (.lload_n 0, 1) := by decide +kernel
theorem dJ13_bitCount_95d88_43 : decode cJ13_bitCount_95d88 43 = .ok (.bipush 16, 2) := by decide +kernel
theorem dJ13_bitCount_95d88_45 : decode cJ13_bitCount_95d88 45 = .ok (.lushr, 1) := by decide +kernel
theorem dJ13_bitCount_95d88_46 : decode cJ13_bitCount_95d88 46 = .ok (.ladd, 1) := by decide +kernel
theorem dJ13_bitCount_95d88_47 : decode cJ13_bitCount_95d88 47 = .ok (.lstore_n 0, 1) := by decide +kernel
theorem dJ13_bitCount_95d88_48 : decode cJ13_bitCount_95d88 48 = .ok (.lload_n 0, 1) := by decide +kernel
theorem dJ13_bitCount_95d88_49 : decode cJ13_bitCount_95d88 49 = .ok (.lload_n 0, 1) := by decide +kernel
theorem dJ13_bitCount_95d88_50 : decode cJ13_bitCount_95d88 50 = .ok (.bipush 32, 2) := by decide +kernel
theorem dJ13_bitCount_95d88_52 : decode cJ13_bitCount_95d88 52 = .ok (.lushr, 1) := by decide +kernel
theorem dJ13_bitCount_95d88_53 : decode cJ13_bitCount_95d88 53 = .ok (.ladd, 1) := by decide +kernel
theorem dJ13_bitCount_95d88_54 : decode cJ13_bitCount_95d88 54 = .ok (.lstore_n 0, 1) := by decide +kernel
theorem dJ13_bitCount_95d88_55 : decode cJ13_bitCount_95d88 55 = .ok (.lload_n 0, 1) := by decide +kernel
theorem dJ13_bitCount_95d88_56 : decode cJ13_bitCount_95d88 56 = .ok (.l2i, 1) := by decide +kernel
theorem dJ13_bitCount_95d88_57 : decode cJ13_bitCount_95d88 57 = .ok (.bipush 127, 2) := by decide +kernel
theorem dJ13_bitCount_95d88_59 : decode cJ13_bitCount_95d88 59 = .ok (.iand, 1) := by decide +kernel
theorem dJ13_bitCount_95d88_60 : decode cJ13_bitCount_95d88 60 = .ok (.ireturn, 1) := by decide +kernel
theorem dJ9_max_7cf53_0 : decode cJ9_max_7cf53 0 = .ok (.iload_n 0, 1) := by decide +kernel
theorem dJ9_max_7cf53_1 : decode cJ9_max_7cf53 1 = .ok (.iload_n 1, 1) := by decide +kernel
theorem dJ9_max_7cf53_2 : decode cJ9_max_7cf53 2 = .ok (.if_icmp .lt 7, 3) := by decide +kernel
theorem dJ9_max_7cf53_5 : decode cJ9_max_7cf53 5 = .ok (.iload_n 0, 1) := by decide +kernel
theorem dJ9_max_7cf53_6 : decode cJ9_max_7cf53 6 = .ok (.goto 4, 3) := by decide +kernel
theorem dJ9_max_7cf53_9 : decode cJ9_max_7cf53 9 = .ok (.iload_n 1, 1) := by decide +kernel
theorem dJ9_max_7cf53_10 : decode cJ9_max_7cf53 10 = .ok (.ireturn, 1) := by decide +kernel
theorem dJ9_min_7cf53_0 : decode cJ9_min_7cf53 0 = .ok (.iload_n 0, 1) := by decide +kernel
theorem dJ9_min_7cf53_1 : decode cJ9_min_7cf53 1 = .ok (.iload_n 1, 1) := by decide +kernel
theorem dJ9_min_7cf53_2 : decode cJ9_min_7cf53 2 = .ok (.if_icmp .gt 7, 3) := by decide +kernel
theorem dJ9_min_7cf53_5 : decode cJ9_min_7cf53 5 = .ok (.iload_n 0, 1) := by decide +kernel
theorem dJ9_min_7cf53_6 : decode cJ9_min_7cf53 6 = .ok (.goto 4, 3) := by decide +kernel
theorem dJ9_min_7cf53_9 : decode cJ9_min_7cf53 9 = .ok (.iload_n 1, 1) := by decide +kernel
theorem dJ9_min_7cf53_10 : decode cJ9_min_7cf53 10 = .ok (.ireturn, 1) := by decide +kernel
theorem dJ7_fill_53178_0 : decode cJ7_fill_53178 0 = .ok (.iconst 0, 1) := by decide +kernel
theorem dJ7_fill_53178_1 : decode cJ7_fill_53178 1 = .ok (.istore_n 2, 1) := by decide +kernel
theorem dJ7_fill_53178_2 : decode cJ7_fill_53178 2 = .ok (.aload_n 0, 1) := by decide +kernel
theorem dJ7_fill_53178_3 : decode cJ7_fill_53178 3 = .ok (.arraylength, 1) := by decide +kernel
theorem dJ7_fill_53178_4 : decode cJ7_fill_53178 4 = .ok (.istore_n 3, 1) := by decide +kernel
theorem dJ7_fill_53178_5 : decode cJ7_fill_53178 5 = .ok (.iload_n 2, 1) := by decide +kernel
theorem dJ7_fill_53178_6 : decode cJ7_fill_53178 6 = .ok (.iload_n 3, 1) := by decide +kernel
theorem dJ7_fill_53178_7 : decode cJ7_fill_53178 7 = .ok (.if_icmp .ge 13, 3) := by decide +kernel
theorem dJ7_fill_53178_10 : decode cJ7_fill_53178 10 = .ok (.aload_n 0, 1) := by decide +kernel
theorem dJ7_fill_53178_11 : decode cJ7_fill_53178 11 = .ok (.iload_n 2, 1) := by decide +kernel
theorem dJ7_fill_53178_12 : decode cJ7_fill_53178 12 = .ok (.iload_n 1, 1) := by decide +kernel
theorem dJ7_fill_53178_13 : decode cJ7_fill_53178 13 = .ok (.iastore, 1) := by decide +kernel
theorem dJ7_fill_53178_14 : decode cJ7_fill_53178 14 = .ok (.iinc 2 1, 3) := by decide +kernel
theorem dJ7_fill_53178_17 : decode cJ7_fill_53178 17 = .ok (.goto (-12), 3) := by decide +kernel
theorem dJ7_fill_53178_20 : decode cJ7_fill_53178 20 = .ok (.return_, 1) := by decide +kernel
end
section
theorem dL_cell_0 : decode cL_cell 0 = .ok (.iload_n 1, 1) := by decide +kernel
theorem dL_cell_1 : decode cL_cell 1 = .ok (.aload_n 0, 1) := by decide +kernel
theorem dL_cell_2 : decode cL_cell 2 = .ok (.arraylength, 1) := by decide +kernel
theorem dL_cell_3 : decode cL_cell 3 = .ok (.if_icmp .ge 9, 3) := by decide +kernel
theorem dL_cell_6 : decode cL_cell 6 = .ok (.aload_n 0, 1) := by decide +kernel
theorem dL_cell_7 : decode cL_cell 7 = .ok (.iload_n 1, 1) := by decide +kernel
theorem dL_cell_8 : decode cL_cell 8 = .ok (.iaload, 1) := by decide +kernel
theorem dL_cell_9 : decode cL_cell 9 = .ok (.goto 4, 3) := by decide +kernel
theorem dL_cell_12 : decode cL_cell 12 = .ok (.iconst 0, 1) := by decide +kernel
theorem dL_cell_13 : decode cL_cell 13 = .ok (.ireturn, 1) := by decide +kernel
theorem dL_law_0 : decode cL_law 0 = .ok (.new 7, 3) := by decide +kernel
theorem dL_law_3 : decode cL_law 3 = .ok (.dup, 1) := by decide +kernel
theorem dL_law_4 : decode cL_law 4 = .ok (.aload_n 0, 1) := by decide +kernel
theorem dL_law_5 : decode cL_law 5 = .ok (.iconst 0, 1) := by decide +kernel
theorem dL_law_6 : decode cL_law 6 = .ok (.invokestatic 9, 3) := by decide +kernel
theorem dL_law_9 : decode cL_law 9 = .ok (.invokespecial 15, 3) := by decide +kernel
theorem dL_law_12 : decode cL_law 12 = .ok (.astore_n 1, 1) := by decide +kernel
theorem dL_law_13 : decode cL_law 13 = .ok (.new 18, 3) := by decide +kernel
theorem dL_law_16 : decode cL_law 16 = .ok (.dup, 1) := by decide +kernel
theorem dL_law_17 : decode cL_law 17 = .ok (.aload_n 0, 1) := by decide +kernel
theorem dL_law_18 : decode cL_law 18 = .ok (.iconst 0, 1) := by decide +kernel
theorem dL_law_19 : decode cL_law 19 = .ok (.invokestatic 9, 3) := by decide +kernel
theorem dL_law_22 : decode cL_law 22 = .ok (.invokespecial 20, 3) := by decide +kernel
theorem dL_law_25 : decode cL_law 25 = .ok (.astore_n 2, 1) := by decide +kernel
theorem dL_law_26 : decode cL_law 26 = .ok (.iconst 1, 1) := by decide +kernel
theorem dL_law_27 : decode cL_law 27 = .ok (.istore_n 3, 1) := by decide +kernel
theorem dL_law_28 : decode cL_law 28 = .ok (.iload_n 3, 1) := by decide +kernel
theorem dL_law_29 : decode cL_law 29 = .ok (.aload_n 0, 1) := by decide +kernel
theorem dL_law_30 : decode cL_law 30 = .ok (.arraylength, 1) := by decide +kernel
theorem dL_law_31 : decode cL_law 31 = .ok (.bipush 6, 2) := by decide +kernel
theorem dL_law_33 : decode cL_law 33 = .ok (.isub, 1) := by decide +kernel
theorem dL_law_34 : decode cL_law 34 = .ok (.if_icmp .gt 701, 3) := by decide +kernel
theorem dL_law_37 : decode cL_law 37 = .ok (.aload_n 0, 1) := by decide +kernel
theorem dL_law_38 : decode cL_law 38 = .ok (.iload_n 3, 1) := by decide +kernel
theorem dL_law_39 : decode cL_law 39 = .ok (.iaload, 1) := by decide +kernel
theorem dL_law_40 : decode cL_law 40 = .ok (.bipush 31, 2) := by decide +kernel
theorem dL_law_42 : decode cL_law 42 = .ok (.iand, 1) := by decide +kernel
theorem dL_law_43 : decode cL_law 43 = .ok (.tableswitch 686 0 18 #[89, 122, 145, 178, 191, 224, 267, 290, 303, 366, 409, 452, 485, 518, 551, 584, 617, 650, 663], 89) := by decide +kernel
theorem dL_law_132 : decode cL_law 132 = .ok (.aload_n 1, 1) := by decide +kernel
theorem dL_law_133 : decode cL_law 133 = .ok (.aload_n 0, 1) := by decide +kernel
theorem dL_law_134 : decode cL_law 134 = .ok (.iload_n 3, 1) := by decide +kernel
theorem dL_law_135 : decode cL_law 135 = .ok (.iconst 1, 1) := by decide +kernel
theorem dL_law_136 : decode cL_law 136 = .ok (.iadd, 1) := by decide +kernel
theorem dL_law_137 : decode cL_law 137 = .ok (.iaload, 1) := by decide +kernel
theorem dL_law_138 : decode cL_law 138 = .ok (.aload_n 0, 1) := by decide +kernel
theorem dL_law_139 : decode cL_law 139 = .ok (.iload_n 3, 1) := by decide +kernel
theorem dL_law_140 : decode cL_law 140 = .ok (.iconst 2, 1) := by decide +kernel
theorem dL_law_141 : decode cL_law 141 = .ok (.iadd, 1) := by decide +kernel
theorem dL_law_142 : decode cL_law 142 = .ok (.iaload, 1) := by decide +kernel
theorem dL_law_143 : decode cL_law 143 = .ok (.invokevirtual 21, 3) := by decide +kernel
theorem dL_law_146 : decode cL_law 146 = .ok (.aload_n 2, 1) := by decide +kernel
theorem dL_law_147 : decode cL_law 147 = .ok (.aload_n 0, 1) := by decide +kernel
theorem dL_law_148 : decode cL_law 148 = .ok (.iload_n 3, 1) := by decide +kernel
theorem dL_law_149 : decode cL_law 149 = .ok (.iconst 1, 1) := by decide +kernel
theorem dL_law_150 : decode cL_law 150 = .ok (.iadd, 1) := by decide +kernel
theorem dL_law_151 : decode cL_law 151 = .ok (.iaload, 1) := by decide +kernel
theorem dL_law_152 : decode cL_law 152 = .ok (.aload_n 0, 1) := by decide +kernel
theorem dL_law_153 : decode cL_law 153 = .ok (.iload_n 3, 1) := by decide +kernel
theorem dL_law_154 : decode cL_law 154 = .ok (.iconst 2, 1) := by decide +kernel
theorem dL_law_155 : decode cL_law 155 = .ok (.iadd, 1) := by decide +kernel
theorem dL_law_156 : decode cL_law 156 = .ok (.iaload, 1) := by decide +kernel
theorem dL_law_157 : decode cL_law 157 = .ok (.invokevirtual 25, 3) := by decide +kernel
theorem dL_law_160 : decode cL_law 160 = .ok (.if_icmp .eq 569, 3) := by decide +kernel
theorem dL_law_163 : decode cL_law 163 = .ok (.iconst 0, 1) := by decide +kernel
theorem dL_law_164 : decode cL_law 164 = .ok (.ireturn, 1) := by decide +kernel
theorem dL_law_165 : decode cL_law 165 = .ok (.aload_n 1, 1) := by decide +kernel
theorem dL_law_166 : decode cL_law 166 = .ok (.aload_n 0, 1) := by decide +kernel
theorem dL_law_167 : decode cL_law 167 = .ok (.iload_n 3, 1) := by decide +kernel
theorem dL_law_168 : decode cL_law 168 = .ok (.iconst 1, 1) := by decide +kernel
theorem dL_law_169 : decode cL_law 169 = .ok (.iadd, 1) := by decide +kernel
theorem dL_law_170 : decode cL_law 170 = .ok (.iaload, 1) := by decide +kernel
theorem dL_law_171 : decode cL_law 171 = .ok (.invokevirtual 26, 3) := by decide +kernel
theorem dL_law_174 : decode cL_law 174 = .ok (.aload_n 2, 1) := by decide +kernel
theorem dL_law_175 : decode cL_law 175 = .ok (.aload_n 0, 1) := by decide +kernel
theorem dL_law_176 : decode cL_law 176 = .ok (.iload_n 3, 1) := by decide +kernel
theorem dL_law_177 : decode cL_law 177 = .ok (.iconst 1, 1) := by decide +kernel
theorem dL_law_178 : decode cL_law 178 = .ok (.iadd, 1) := by decide +kernel
theorem dL_law_179 : decode cL_law 179 = .ok (.iaload, 1) := by decide +kernel
theorem dL_law_180 : decode cL_law 180 = .ok (.invokevirtual 30, 3) := by decide +kernel
theorem dL_law_183 : decode cL_law 183 = .ok (.if_icmp .eq 546, 3) := by decide +kernel
theorem dL_law_186 : decode cL_law 186 = .ok (.iconst 0, 1) := by decide +kernel
theorem dL_law_187 : decode cL_law 187 = .ok (.ireturn, 1) := by decide +kernel
theorem dL_law_188 : decode cL_law 188 = .ok (.aload_n 1, 1) := by decide +kernel
theorem dL_law_189 : decode cL_law 189 = .ok (.aload_n 0, 1) := by decide +kernel
theorem dL_law_190 : decode cL_law 190 = .ok (.iload_n 3, 1) := by decide +kernel
theorem dL_law_191 : decode cL_law 191 = .ok (.iconst 1, 1) := by decide +kernel
theorem dL_law_192 : decode cL_law 192 = .ok (.iadd, 1) := by decide +kernel
theorem dL_law_193 : decode cL_law 193 = .ok (.iaload, 1) := by decide +kernel
theorem dL_law_194 : decode cL_law 194 = .ok (.aload_n 0, 1) := by decide +kernel
theorem dL_law_195 : decode cL_law 195 = .ok (.iload_n 3, 1) := by decide +kernel
theorem dL_law_196 : decode cL_law 196 = .ok (.iconst 2, 1) := by decide +kernel
theorem dL_law_197 : decode cL_law 197 = .ok (.iadd, 1) := by decide +kernel
theorem dL_law_198 : decode cL_law 198 = .ok (.iaload, 1) := by decide +kernel
theorem dL_law_199 : decode cL_law 199 = .ok (.invokevirtual 31, 3) := by decide +kernel
theorem dL_law_202 : decode cL_law 202 = .ok (.aload_n 2, 1) := by decide +kernel
theorem dL_law_203 : decode cL_law 203 = .ok (.aload_n 0, 1) := by decide +kernel
theorem dL_law_204 : decode cL_law 204 = .ok (.iload_n 3, 1) := by decide +kernel
theorem dL_law_205 : decode cL_law 205 = .ok (.iconst 1, 1) := by decide +kernel
theorem dL_law_206 : decode cL_law 206 = .ok (.iadd, 1) := by decide +kernel
theorem dL_law_207 : decode cL_law 207 = .ok (.iaload, 1) := by decide +kernel
theorem dL_law_208 : decode cL_law 208 = .ok (.aload_n 0, 1) := by decide +kernel
theorem dL_law_209 : decode cL_law 209 = .ok (.iload_n 3, 1) := by decide +kernel
theorem dL_law_210 : decode cL_law 210 = .ok (.iconst 2, 1) := by decide +kernel
theorem dL_law_211 : decode cL_law 211 = .ok (.iadd, 1) := by decide +kernel
theorem dL_law_212 : decode cL_law 212 = .ok (.iaload, 1) := by decide +kernel
theorem dL_law_213 : decode cL_law 213 = .ok (.invokevirtual 34, 3) := by decide +kernel
theorem dL_law_216 : decode cL_law 216 = .ok (.if_icmp .eq 513, 3) := by decide +kernel
theorem dL_law_219 : decode cL_law 219 = .ok (.iconst 0, 1) := by decide +kernel
theorem dL_law_220 : decode cL_law 220 = .ok (.ireturn, 1) := by decide +kernel
theorem dL_law_221 : decode cL_law 221 = .ok (.aload_n 1, 1) := by decide +kernel
theorem dL_law_222 : decode cL_law 222 = .ok (.invokevirtual 35, 3) := by decide +kernel
theorem dL_law_225 : decode cL_law 225 = .ok (.aload_n 2, 1) := by decide +kernel
theorem dL_law_226 : decode cL_law 226 = .ok (.invokevirtual 39, 3) := by decide +kernel
theorem dL_law_229 : decode cL_law 229 = .ok (.if_icmp .eq 500, 3) := by decide +kernel
theorem dL_law_232 : decode cL_law 232 = .ok (.iconst 0, 1) := by decide +kernel
theorem dL_law_233 : decode cL_law 233 = .ok (.ireturn, 1) := by decide +kernel
theorem dL_law_234 : decode cL_law 234 = .ok (.aload_n 1, 1) := by decide +kernel
theorem dL_law_235 : decode cL_law 235 = .ok (.aload_n 0, 1) := by decide +kernel
theorem dL_law_236 : decode cL_law 236 = .ok (.iload_n 3, 1) := by decide +kernel
theorem dL_law_237 : decode cL_law 237 = .ok (.iconst 1, 1) := by decide +kernel
theorem dL_law_238 : decode cL_law 238 = .ok (.iadd, 1) := by decide +kernel
theorem dL_law_239 : decode cL_law 239 = .ok (.iaload, 1) := by decide +kernel
theorem dL_law_240 : decode cL_law 240 = .ok (.aload_n 0, 1) := by decide +kernel
theorem dL_law_241 : decode cL_law 241 = .ok (.iload_n 3, 1) := by decide +kernel
theorem dL_law_242 : decode cL_law 242 = .ok (.iconst 2, 1) := by decide +kernel
theorem dL_law_243 : decode cL_law 243 = .ok (.iadd, 1) := by decide +kernel
theorem dL_law_244 : decode cL_law 244 = .ok (.iaload, 1) := by decide +kernel
theorem dL_law_245 : decode cL_law 245 = .ok (.invokevirtual 40, 3) := by decide +kernel
theorem dL_law_248 : decode cL_law 248 = .ok (.aload_n 2, 1) := by decide +kernel
theorem dL_law_249 : decode cL_law 249 = .ok (.aload_n 0, 1) := by decide +kernel
theorem dL_law_250 : decode cL_law 250 = .ok (.iload_n 3, 1) := by decide +kernel
theorem dL_law_251 : decode cL_law 251 = .ok (.iconst 1, 1) := by decide +kernel
theorem dL_law_252 : decode cL_law 252 = .ok (.iadd, 1) := by decide +kernel
theorem dL_law_253 : decode cL_law 253 = .ok (.iaload, 1) := by decide +kernel
theorem dL_law_254 : decode cL_law 254 = .ok (.aload_n 0, 1) := by decide +kernel
theorem dL_law_255 : decode cL_law 255 = .ok (.iload_n 3, 1) := by decide +kernel
theorem dL_law_256 : decode cL_law 256 = .ok (.iconst 2, 1) := by decide +kernel
theorem dL_law_257 : decode cL_law 257 = .ok (.iadd, 1) := by decide +kernel
theorem dL_law_258 : decode cL_law 258 = .ok (.iaload, 1) := by decide +kernel
theorem dL_law_259 : decode cL_law 259 = .ok (.invokevirtual 43, 3) := by decide +kernel
theorem dL_law_262 : decode cL_law 262 = .ok (.if_icmp .eq 467, 3) := by decide +kernel
theorem dL_law_265 : decode cL_law 265 = .ok (.iconst 0, 1) := by decide +kernel
theorem dL_law_266 : decode cL_law 266 = .ok (.ireturn, 1) := by decide +kernel
theorem dL_law_267 : decode cL_law 267 = .ok (.aload_n 1, 1) := by decide +kernel
theorem dL_law_268 : decode cL_law 268 = .ok (.aload_n 0, 1) := by decide +kernel
theorem dL_law_269 : decode cL_law 269 = .ok (.iload_n 3, 1) := by decide +kernel
theorem dL_law_270 : decode cL_law 270 = .ok (.iconst 1, 1) := by decide +kernel
theorem dL_law_271 : decode cL_law 271 = .ok (.iadd, 1) := by decide +kernel
theorem dL_law_272 : decode cL_law 272 = .ok (.iaload, 1) := by decide +kernel
theorem dL_law_273 : decode cL_law 273 = .ok (.aload_n 0, 1) := by decide +kernel
theorem dL_law_274 : decode cL_law 274 = .ok (.iload_n 3, 1) := by decide +kernel
theorem dL_law_275 : decode cL_law 275 = .ok (.iconst 2, 1) := by decide +kernel
theorem dL_law_276 : decode cL_law 276 = .ok (.iadd, 1) := by decide +kernel
theorem dL_law_277 : decode cL_law 277 = .ok (.iaload, 1) := by decide +kernel
theorem dL_law_278 : decode cL_law 278 = .ok (.aload_n 0, 1) := by decide +kernel
theorem dL_law_279 : decode cL_law 279 = .ok (.iload_n 3, 1) := by decide +kernel
theorem dL_law_280 : decode cL_law 280 = .ok (.iconst 3, 1) := by decide +kernel
theorem dL_law_281 : decode cL_law 281 = .ok (.iadd, 1) := by decide +kernel
theorem dL_law_282 : decode cL_law 282 = .ok (.iaload, 1) := by decide +kernel
theorem dL_law_283 : decode cL_law 283 = .ok (.invokevirtual 44, 3) := by decide +kernel
theorem dL_law_286 : decode cL_law 286 = .ok (.aload_n 2, 1) := by decide +kernel
theorem dL_law_287 : decode cL_law 287 = .ok (.aload_n 0, 1) := by decide +kernel
theorem dL_law_288 : decode cL_law 288 = .ok (.iload_n 3, 1) := by decide +kernel
theorem dL_law_289 : decode cL_law 289 = .ok (.iconst 1, 1) := by decide +kernel
theorem dL_law_290 : decode cL_law 290 = .ok (.iadd, 1) := by decide +kernel
theorem dL_law_291 : decode cL_law 291 = .ok (.iaload, 1) := by decide +kernel
theorem dL_law_292 : decode cL_law 292 = .ok (.aload_n 0, 1) := by decide +kernel
theorem dL_law_293 : decode cL_law 293 = .ok (.iload_n 3, 1) := by decide +kernel
theorem dL_law_294 : decode cL_law 294 = .ok (.iconst 2, 1) := by decide +kernel
theorem dL_law_295 : decode cL_law 295 = .ok (.iadd, 1) := by decide +kernel
theorem dL_law_296 : decode cL_law 296 = .ok (.iaload, 1) := by decide +kernel
theorem dL_law_297 : decode cL_law 297 = .ok (.aload_n 0, 1) := by decide +kernel
theorem dL_law_298 : decode cL_law 298 = .ok (.iload_n 3, 1) := by decide +kernel
theorem dL_law_299 : decode cL_law 299 = .ok (.iconst 3, 1) := by decide +kernel
theorem dL_law_300 : decode cL_law 300 = .ok (.iadd, 1) := by decide +kernel
theorem dL_law_301 : decode cL_law 301 = .ok (.iaload, 1) := by decide +kernel
theorem dL_law_302 : decode cL_law 302 = .ok (.invokevirtual 48, 3) := by decide +kernel
theorem dL_law_305 : decode cL_law 305 = .ok (.if_icmp .eq 424, 3) := by decide +kernel
theorem dL_law_308 : decode cL_law 308 = .ok (.iconst 0, 1) := by decide +kernel
theorem dL_law_309 : decode cL_law 309 = .ok (.ireturn, 1) := by decide +kernel
theorem dL_law_310 : decode cL_law 310 = .ok (.aload_n 1, 1) := by decide +kernel
theorem dL_law_311 : decode cL_law 311 = .ok (.aload_n 0, 1) := by decide +kernel
theorem dL_law_312 : decode cL_law 312 = .ok (.iload_n 3, 1) := by decide +kernel
theorem dL_law_313 : decode cL_law 313 = .ok (.iconst 1, 1) := by decide +kernel
theorem dL_law_314 : decode cL_law 314 = .ok (.iadd, 1) := by decide +kernel
theorem dL_law_315 : decode cL_law 315 = .ok (.iaload, 1) := by decide +kernel
theorem dL_law_316 : decode cL_law 316 = .ok (.invokevirtual 49, 3) := by decide +kernel
theorem dL_law_319 : decode cL_law 319 = .ok (.aload_n 2, 1) := by decide +kernel
theorem dL_law_320 : decode cL_law 320 = .ok (.aload_n 0, 1) := by decide +kernel
theorem dL_law_321 : decode cL_law 321 = .ok (.iload_n 3, 1) := by decide +kernel
theorem dL_law_322 : decode cL_law 322 = .ok (.iconst 1, 1) := by decide +kernel
theorem dL_law_323 : decode cL_law 323 = .ok (.iadd, 1) := by decide +kernel
theorem dL_law_324 : decode cL_law 324 = .ok (.iaload, 1) := by decide +kernel
theorem dL_law_325 : decode cL_law 325 = .ok (.invokevirtual 52, 3) := by decide +kernel
theorem dL_law_328 : decode cL_law 328 = .ok (.if_icmp .eq 401, 3) := by decide +kernel
theorem dL_law_331 : decode cL_law 331 = .ok (.iconst 0, 1) := by decide +kernel
theorem dL_law_332 : decode cL_law 332 = .ok (.ireturn, 1) := by decide +kernel
theorem dL_law_333 : decode cL_law 333 = .ok (.aload_n 1, 1) := by decide +kernel
theorem dL_law_334 : decode cL_law 334 = .ok (.invokevirtual 53, 3) := by decide +kernel
theorem dL_law_337 : decode cL_law 337 = .ok (.aload_n 2, 1) := by decide +kernel
theorem dL_law_338 : decode cL_law 338 = .ok (.invokevirtual 56, 3) := by decide +kernel
theorem dL_law_341 : decode cL_law 341 = .ok (.if_icmp .eq 388, 3) := by decide +kernel
theorem dL_law_344 : decode cL_law 344 = .ok (.iconst 0, 1) := by decide +kernel
theorem dL_law_345 : decode cL_law 345 = .ok (.ireturn, 1) := by decide +kernel
theorem dL_law_346 : decode cL_law 346 = .ok (.aload_n 1, 1) := by decide +kernel
theorem dL_law_347 : decode cL_law 347 = .ok (.aload_n 0, 1) := by decide +kernel
theorem dL_law_348 : decode cL_law 348 = .ok (.iload_n 3, 1) := by decide +kernel
theorem dL_law_349 : decode cL_law 349 = .ok (.iconst 1, 1) := by decide +kernel
theorem dL_law_350 : decode cL_law 350 = .ok (.iadd, 1) := by decide +kernel
theorem dL_law_351 : decode cL_law 351 = .ok (.iaload, 1) := by decide +kernel
theorem dL_law_352 : decode cL_law 352 = .ok (.aload_n 0, 1) := by decide +kernel
theorem dL_law_353 : decode cL_law 353 = .ok (.iload_n 3, 1) := by decide +kernel
theorem dL_law_354 : decode cL_law 354 = .ok (.iconst 2, 1) := by decide +kernel
theorem dL_law_355 : decode cL_law 355 = .ok (.iadd, 1) := by decide +kernel
theorem dL_law_356 : decode cL_law 356 = .ok (.iaload, 1) := by decide +kernel
theorem dL_law_357 : decode cL_law 357 = .ok (.aload_n 0, 1) := by decide +kernel
theorem dL_law_358 : decode cL_law 358 = .ok (.iload_n 3, 1) := by decide +kernel
theorem dL_law_359 : decode cL_law 359 = .ok (.iconst 3, 1) := by decide +kernel
theorem dL_law_360 : decode cL_law 360 = .ok (.iadd, 1) := by decide +kernel
theorem dL_law_361 : decode cL_law 361 = .ok (.iaload, 1) := by decide +kernel
theorem dL_law_362 : decode cL_law 362 = .ok (.aload_n 0, 1) := by decide +kernel
theorem dL_law_363 : decode cL_law 363 = .ok (.iload_n 3, 1) := by decide +kernel
theorem dL_law_364 : decode cL_law 364 = .ok (.iconst 4, 1) := by decide +kernel
theorem dL_law_365 : decode cL_law 365 = .ok (.iadd, 1) := by decide +kernel
theorem dL_law_366 : decode cL_law 366 = .ok (.iaload, 1) := by decide +kernel
theorem dL_law_367 : decode cL_law 367 = .ok (.aload_n 0, 1) := by decide +kernel
theorem dL_law_368 : decode cL_law 368 = .ok (.iload_n 3, 1) := by decide +kernel
theorem dL_law_369 : decode cL_law 369 = .ok (.iconst 5, 1) := by decide +kernel
theorem dL_law_370 : decode cL_law 370 = .ok (.iadd, 1) := by decide +kernel
theorem dL_law_371 : decode cL_law 371 = .ok (.iaload, 1) := by decide +kernel
theorem dL_law_372 : decode cL_law 372 = .ok (.invokevirtual 57, 3) := by decide +kernel
theorem dL_law_375 : decode cL_law 375 = .ok (.aload_n 2, 1) := by decide +kernel
theorem dL_law_376 : decode cL_law 376 = .ok (.aload_n 0, 1) := by decide +kernel
theorem dL_law_377 : decode cL_law 377 = .ok (.iload_n 3, 1) := by decide +kernel
theorem dL_law_378 : decode cL_law 378 = .ok (.iconst 1, 1) := by decide +kernel
theorem dL_law_379 : decode cL_law 379 = .ok (.iadd, 1) := by decide +kernel
theorem dL_law_380 : decode cL_law 380 = .ok (.iaload, 1) := by decide +kernel
theorem dL_law_381 : decode cL_law 381 = .ok (.aload_n 0, 1) := by decide +kernel
theorem dL_law_382 : decode cL_law 382 = .ok (.iload_n 3, 1) := by decide +kernel
theorem dL_law_383 : decode cL_law 383 = .ok (.iconst 2, 1) := by decide +kernel
theorem dL_law_384 : decode cL_law 384 = .ok (.iadd, 1) := by decide +kernel
theorem dL_law_385 : decode cL_law 385 = .ok (.iaload, 1) := by decide +kernel
theorem dL_law_386 : decode cL_law 386 = .ok (.aload_n 0, 1) := by decide +kernel
theorem dL_law_387 : decode cL_law 387 = .ok (.iload_n 3, 1) := by decide +kernel
theorem dL_law_388 : decode cL_law 388 = .ok (.iconst 3, 1) := by decide +kernel
theorem dL_law_389 : decode cL_law 389 = .ok (.iadd, 1) := by decide +kernel
theorem dL_law_390 : decode cL_law 390 = .ok (.iaload, 1) := by decide +kernel
theorem dL_law_391 : decode cL_law 391 = .ok (.aload_n 0, 1) := by decide +kernel
theorem dL_law_392 : decode cL_law 392 = .ok (.iload_n 3, 1) := by decide +kernel
theorem dL_law_393 : decode cL_law 393 = .ok (.iconst 4, 1) := by decide +kernel
theorem dL_law_394 : decode cL_law 394 = .ok (.iadd, 1) := by decide +kernel
theorem dL_law_395 : decode cL_law 395 = .ok (.iaload, 1) := by decide +kernel
theorem dL_law_396 : decode cL_law 396 = .ok (.aload_n 0, 1) := by decide +kernel
theorem dL_law_397 : decode cL_law 397 = .ok (.iload_n 3, 1) := by decide +kernel
theorem dL_law_398 : decode cL_law 398 = .ok (.iconst 5, 1) := by decide +kernel
theorem dL_law_399 : decode cL_law 399 = .ok (.iadd, 1) := by decide +kernel
theorem dL_law_400 : decode cL_law 400 = .ok (.iaload, 1) := by decide +kernel
theorem dL_law_401 : decode cL_law 401 = .ok (.invokevirtual 61, 3) := by decide +kernel
theorem dL_law_404 : decode cL_law 404 = .ok (.if_icmp .eq 325, 3) := by decide +kernel
theorem dL_law_407 : decode cL_law 407 = .ok (.iconst 0, 1) := by decide +kernel
theorem dL_law_408 : decode cL_law 408 = .ok (.ireturn, 1) := by decide +kernel
theorem dL_law_409 : decode cL_law 409 = .ok (.aload_n 1, 1) := by decide +kernel
theorem dL_law_410 : decode cL_law 410 = .ok (.aload_n 0, 1) := by decide +kernel
theorem dL_law_411 : decode cL_law 411 = .ok (.iload_n 3, 1) := by decide +kernel
theorem dL_law_412 : decode cL_law 412 = .ok (.iconst 1, 1) := by decide +kernel
theorem dL_law_413 : decode cL_law 413 = .ok (.iadd, 1) := by decide +kernel
theorem dL_law_414 : decode cL_law 414 = .ok (.iaload, 1) := by decide +kernel
theorem dL_law_415 : decode cL_law 415 = .ok (.aload_n 0, 1) := by decide +kernel
theorem dL_law_416 : decode cL_law 416 = .ok (.iload_n 3, 1) := by decide +kernel
theorem dL_law_417 : decode cL_law 417 = .ok (.iconst 2, 1) := by decide +kernel
theorem dL_law_418 : decode cL_law 418 = .ok (.iadd, 1) := by decide +kernel
theorem dL_law_419 : decode cL_law 419 = .ok (.iaload, 1) := by decide +kernel
theorem dL_law_420 : decode cL_law 420 = .ok (.aload_n 0, 1) := by decide +kernel
theorem dL_law_421 : decode cL_law 421 = .ok (.iload_n 3, 1) := by decide +kernel
theorem dL_law_422 : decode cL_law 422 = .ok (.iconst 3, 1) := by decide +kernel
theorem dL_law_423 : decode cL_law 423 = .ok (.iadd, 1) := by decide +kernel
theorem dL_law_424 : decode cL_law 424 = .ok (.iaload, 1) := by decide +kernel
theorem dL_law_425 : decode cL_law 425 = .ok (.invokevirtual 62, 3) := by decide +kernel
theorem dL_law_428 : decode cL_law 428 = .ok (.aload_n 2, 1) := by decide +kernel
theorem dL_law_429 : decode cL_law 429 = .ok (.aload_n 0, 1) := by decide +kernel
theorem dL_law_430 : decode cL_law 430 = .ok (.iload_n 3, 1) := by decide +kernel
theorem dL_law_431 : decode cL_law 431 = .ok (.iconst 1, 1) := by decide +kernel
theorem dL_law_432 : decode cL_law 432 = .ok (.iadd, 1) := by decide +kernel
theorem dL_law_433 : decode cL_law 433 = .ok (.iaload, 1) := by decide +kernel
theorem dL_law_434 : decode cL_law 434 = .ok (.aload_n 0, 1) := by decide +kernel
theorem dL_law_435 : decode cL_law 435 = .ok (.iload_n 3, 1) := by decide +kernel
theorem dL_law_436 : decode cL_law 436 = .ok (.iconst 2, 1) := by decide +kernel
theorem dL_law_437 : decode cL_law 437 = .ok (.iadd, 1) := by decide +kernel
theorem dL_law_438 : decode cL_law 438 = .ok (.iaload, 1) := by decide +kernel
theorem dL_law_439 : decode cL_law 439 = .ok (.aload_n 0, 1) := by decide +kernel
theorem dL_law_440 : decode cL_law 440 = .ok (.iload_n 3, 1) := by decide +kernel
theorem dL_law_441 : decode cL_law 441 = .ok (.iconst 3, 1) := by decide +kernel
theorem dL_law_442 : decode cL_law 442 = .ok (.iadd, 1) := by decide +kernel
theorem dL_law_443 : decode cL_law 443 = .ok (.iaload, 1) := by decide +kernel
theorem dL_law_444 : decode cL_law 444 = .ok (.invokevirtual 65, 3) := by decide +kernel
theorem dL_law_447 : decode cL_law 447 = .ok (.if_icmp .eq 282, 3) := by decide +kernel
theorem dL_law_450 : decode cL_law 450 = .ok (.iconst 0, 1) := by decide +kernel
theorem dL_law_451 : decode cL_law 451 = .ok (.ireturn, 1) := by decide +kernel
theorem dL_law_452 : decode cL_law 452 = .ok (.aload_n 1, 1) := by decide +kernel
theorem dL_law_453 : decode cL_law 453 = .ok (.aload_n 0, 1) := by decide +kernel
theorem dL_law_454 : decode cL_law 454 = .ok (.iload_n 3, 1) := by decide +kernel
theorem dL_law_455 : decode cL_law 455 = .ok (.iconst 1, 1) := by decide +kernel
theorem dL_law_456 : decode cL_law 456 = .ok (.iadd, 1) := by decide +kernel
theorem dL_law_457 : decode cL_law 457 = .ok (.iaload, 1) := by decide +kernel
theorem dL_law_458 : decode cL_law 458 = .ok (.aload_n 0, 1) := by decide +kernel
theorem dL_law_459 : decode cL_law 459 = .ok (.iload_n 3, 1) := by decide +kernel
theorem dL_law_460 : decode cL_law 460 = .ok (.iconst 2, 1) := by decide +kernel
theorem dL_law_461 : decode cL_law 461 = .ok (.iadd, 1) := by decide +kernel
theorem dL_law_462 : decode cL_law 462 = .ok (.iaload, 1) := by decide +kernel
theorem dL_law_463 : decode cL_law 463 = .ok (.aload_n 0, 1) := by decide +kernel
theorem dL_law_464 : decode cL_law 464 = .ok (.iload_n 3, 1) := by decide +kernel
theorem dL_law_465 : decode cL_law 465 = .ok (.iconst 3, 1) := by decide +kernel
theorem dL_law_466 : decode cL_law 466 = .ok (.iadd, 1) := by decide +kernel
theorem dL_law_467 : decode cL_law 467 = .ok (.iaload, 1) := by decide +kernel
theorem dL_law_468 : decode cL_law 468 = .ok (.invokevirtual 66, 3) := by decide +kernel
theorem dL_law_471 : decode cL_law 471 = .ok (.aload_n 2, 1) := by decide +kernel
theorem dL_law_472 : decode cL_law 472 = .ok (.aload_n 0, 1) := by decide +kernel
theorem dL_law_473 : decode cL_law 473 = .ok (.iload_n 3, 1) := by decide +kernel
theorem dL_law_474 : decode cL_law 474 = .ok (.iconst 1, 1) := by decide +kernel
theorem dL_law_475 : decode cL_law 475 = .ok (.iadd, 1) := by decide +kernel
theorem dL_law_476 : decode cL_law 476 = .ok (.iaload, 1) := by decide +kernel
theorem dL_law_477 : decode cL_law 477 = .ok (.aload_n 0, 1) := by decide +kernel
theorem dL_law_478 : decode cL_law 478 = .ok (.iload_n 3, 1) := by decide +kernel
theorem dL_law_479 : decode cL_law 479 = .ok (.iconst 2, 1) := by decide +kernel
theorem dL_law_480 : decode cL_law 480 = .ok (.iadd, 1) := by decide +kernel
theorem dL_law_481 : decode cL_law 481 = .ok (.iaload, 1) := by decide +kernel
theorem dL_law_482 : decode cL_law 482 = .ok (.aload_n 0, 1) := by decide +kernel
theorem dL_law_483 : decode cL_law 483 = .ok (.iload_n 3, 1) := by decide +kernel
theorem dL_law_484 : decode cL_law 484 = .ok (.iconst 3, 1) := by decide +kernel
theorem dL_law_485 : decode cL_law 485 = .ok (.iadd, 1) := by decide +kernel
theorem dL_law_486 : decode cL_law 486 = .ok (.iaload, 1) := by decide +kernel
theorem dL_law_487 : decode cL_law 487 = .ok (.invokevirtual 69, 3) := by decide +kernel
theorem dL_law_490 : decode cL_law 490 = .ok (.if_icmp .eq 239, 3) := by decide +kernel
theorem dL_law_493 : decode cL_law 493 = .ok (.iconst 0, 1) := by decide +kernel
theorem dL_law_494 : decode cL_law 494 = .ok (.ireturn, 1) := by decide +kernel
theorem dL_law_495 : decode cL_law 495 = .ok (.aload_n 1, 1) := by decide +kernel
theorem dL_law_496 : decode cL_law 496 = .ok (.aload_n 0, 1) := by decide +kernel
theorem dL_law_497 : decode cL_law 497 = .ok (.iload_n 3, 1) := by decide +kernel
theorem dL_law_498 : decode cL_law 498 = .ok (.iconst 1, 1) := by decide +kernel
theorem dL_law_499 : decode cL_law 499 = .ok (.iadd, 1) := by decide +kernel
theorem dL_law_500 : decode cL_law 500 = .ok (.iaload, 1) := by decide +kernel
theorem dL_law_501 : decode cL_law 501 = .ok (.aload_n 0, 1) := by decide +kernel
theorem dL_law_502 : decode cL_law 502 = .ok (.iload_n 3, 1) := by decide +kernel
theorem dL_law_503 : decode cL_law 503 = .ok (.iconst 2, 1) := by decide +kernel
theorem dL_law_504 : decode cL_law 504 = .ok (.iadd, 1) := by decide +kernel
theorem dL_law_505 : decode cL_law 505 = .ok (.iaload, 1) := by decide +kernel
theorem dL_law_506 : decode cL_law 506 = .ok (.invokevirtual 70, 3) := by decide +kernel
theorem dL_law_509 : decode cL_law 509 = .ok (.aload_n 2, 1) := by decide +kernel
theorem dL_law_510 : decode cL_law 510 = .ok (.aload_n 0, 1) := by decide +kernel
theorem dL_law_511 : decode cL_law 511 = .ok (.iload_n 3, 1) := by decide +kernel
theorem dL_law_512 : decode cL_law 512 = .ok (.iconst 1, 1) := by decide +kernel
theorem dL_law_513 : decode cL_law 513 = .ok (.iadd, 1) := by decide +kernel
theorem dL_law_514 : decode cL_law 514 = .ok (.iaload, 1) := by decide +kernel
theorem dL_law_515 : decode cL_law 515 = .ok (.aload_n 0, 1) := by decide +kernel
theorem dL_law_516 : decode cL_law 516 = .ok (.iload_n 3, 1) := by decide +kernel
theorem dL_law_517 : decode cL_law 517 = .ok (.iconst 2, 1) := by decide +kernel
theorem dL_law_518 : decode cL_law 518 = .ok (.iadd, 1) := by decide +kernel
theorem dL_law_519 : decode cL_law 519 = .ok (.iaload, 1) := by decide +kernel
theorem dL_law_520 : decode cL_law 520 = .ok (.invokevirtual 73, 3) := by decide +kernel
theorem dL_law_523 : decode cL_law 523 = .ok (.if_icmp .eq 206, 3) := by decide +kernel
theorem dL_law_526 : decode cL_law 526 = .ok (.iconst 0, 1) := by decide +kernel
theorem dL_law_527 : decode cL_law 527 = .ok (.ireturn, 1) := by decide +kernel
theorem dL_law_528 : decode cL_law 528 = .ok (.aload_n 1, 1) := by decide +kernel
theorem dL_law_529 : decode cL_law 529 = .ok (.aload_n 0, 1) := by decide +kernel
theorem dL_law_530 : decode cL_law 530 = .ok (.iload_n 3, 1) := by decide +kernel
theorem dL_law_531 : decode cL_law 531 = .ok (.iconst 1, 1) := by decide +kernel
theorem dL_law_532 : decode cL_law 532 = .ok (.iadd, 1) := by decide +kernel
theorem dL_law_533 : decode cL_law 533 = .ok (.iaload, 1) := by decide +kernel
theorem dL_law_534 : decode cL_law 534 = .ok (.aload_n 0, 1) := by decide +kernel
theorem dL_law_535 : decode cL_law 535 = .ok (.iload_n 3, 1) := by decide +kernel
theorem dL_law_536 : decode cL_law 536 = .ok (.iconst 2, 1) := by decide +kernel
theorem dL_law_537 : decode cL_law 537 = .ok (.iadd, 1) := by decide +kernel
theorem dL_law_538 : decode cL_law 538 = .ok (.iaload, 1) := by decide +kernel
theorem dL_law_539 : decode cL_law 539 = .ok (.invokevirtual 74, 3) := by decide +kernel
theorem dL_law_542 : decode cL_law 542 = .ok (.aload_n 2, 1) := by decide +kernel
theorem dL_law_543 : decode cL_law 543 = .ok (.aload_n 0, 1) := by decide +kernel
theorem dL_law_544 : decode cL_law 544 = .ok (.iload_n 3, 1) := by decide +kernel
theorem dL_law_545 : decode cL_law 545 = .ok (.iconst 1, 1) := by decide +kernel
theorem dL_law_546 : decode cL_law 546 = .ok (.iadd, 1) := by decide +kernel
theorem dL_law_547 : decode cL_law 547 = .ok (.iaload, 1) := by decide +kernel
theorem dL_law_548 : decode cL_law 548 = .ok (.aload_n 0, 1) := by decide +kernel
theorem dL_law_549 : decode cL_law 549 = .ok (.iload_n 3, 1) := by decide +kernel
theorem dL_law_550 : decode cL_law 550 = .ok (.iconst 2, 1) := by decide +kernel
theorem dL_law_551 : decode cL_law 551 = .ok (.iadd, 1) := by decide +kernel
theorem dL_law_552 : decode cL_law 552 = .ok (.iaload, 1) := by decide +kernel
theorem dL_law_553 : decode cL_law 553 = .ok (.invokevirtual 77, 3) := by decide +kernel
theorem dL_law_556 : decode cL_law 556 = .ok (.if_icmp .eq 173, 3) := by decide +kernel
theorem dL_law_559 : decode cL_law 559 = .ok (.iconst 0, 1) := by decide +kernel
theorem dL_law_560 : decode cL_law 560 = .ok (.ireturn, 1) := by decide +kernel
theorem dL_law_561 : decode cL_law 561 = .ok (.aload_n 1, 1) := by decide +kernel
theorem dL_law_562 : decode cL_law 562 = .ok (.aload_n 0, 1) := by decide +kernel
theorem dL_law_563 : decode cL_law 563 = .ok (.iload_n 3, 1) := by decide +kernel
theorem dL_law_564 : decode cL_law 564 = .ok (.iconst 1, 1) := by decide +kernel
theorem dL_law_565 : decode cL_law 565 = .ok (.iadd, 1) := by decide +kernel
theorem dL_law_566 : decode cL_law 566 = .ok (.iaload, 1) := by decide +kernel
theorem dL_law_567 : decode cL_law 567 = .ok (.aload_n 0, 1) := by decide +kernel
theorem dL_law_568 : decode cL_law 568 = .ok (.iload_n 3, 1) := by decide +kernel
theorem dL_law_569 : decode cL_law 569 = .ok (.iconst 2, 1) := by decide +kernel
theorem dL_law_570 : decode cL_law 570 = .ok (.iadd, 1) := by decide +kernel
theorem dL_law_571 : decode cL_law 571 = .ok (.iaload, 1) := by decide +kernel
theorem dL_law_572 : decode cL_law 572 = .ok (.invokevirtual 78, 3) := by decide +kernel
theorem dL_law_575 : decode cL_law 575 = .ok (.aload_n 2, 1) := by decide +kernel
theorem dL_law_576 : decode cL_law 576 = .ok (.aload_n 0, 1) := by decide +kernel
theorem dL_law_577 : decode cL_law 577 = .ok (.iload_n 3, 1) := by decide +kernel
theorem dL_law_578 : decode cL_law 578 = .ok (.iconst 1, 1) := by decide +kernel
theorem dL_law_579 : decode cL_law 579 = .ok (.iadd, 1) := by decide +kernel
theorem dL_law_580 : decode cL_law 580 = .ok (.iaload, 1) := by decide +kernel
theorem dL_law_581 : decode cL_law 581 = .ok (.aload_n 0, 1) := by decide +kernel
theorem dL_law_582 : decode cL_law 582 = .ok (.iload_n 3, 1) := by decide +kernel
theorem dL_law_583 : decode cL_law 583 = .ok (.iconst 2, 1) := by decide +kernel
theorem dL_law_584 : decode cL_law 584 = .ok (.iadd, 1) := by decide +kernel
theorem dL_law_585 : decode cL_law 585 = .ok (.iaload, 1) := by decide +kernel
theorem dL_law_586 : decode cL_law 586 = .ok (.invokevirtual 81, 3) := by decide +kernel
theorem dL_law_589 : decode cL_law 589 = .ok (.if_icmp .eq 140, 3) := by decide +kernel
theorem dL_law_592 : decode cL_law 592 = .ok (.iconst 0, 1) := by decide +kernel
theorem dL_law_593 : decode cL_law 593 = .ok (.ireturn, 1) := by decide +kernel
theorem dL_law_594 : decode cL_law 594 = .ok (.aload_n 1, 1) := by decide +kernel
theorem dL_law_595 : decode cL_law 595 = .ok (.aload_n 0, 1) := by decide +kernel
theorem dL_law_596 : decode cL_law 596 = .ok (.iload_n 3, 1) := by decide +kernel
theorem dL_law_597 : decode cL_law 597 = .ok (.iconst 1, 1) := by decide +kernel
theorem dL_law_598 : decode cL_law 598 = .ok (.iadd, 1) := by decide +kernel
theorem dL_law_599 : decode cL_law 599 = .ok (.iaload, 1) := by decide +kernel
theorem dL_law_600 : decode cL_law 600 = .ok (.aload_n 0, 1) := by decide +kernel
theorem dL_law_601 : decode cL_law 601 = .ok (.iload_n 3, 1) := by decide +kernel
theorem dL_law_602 : decode cL_law 602 = .ok (.iconst 2, 1) := by decide +kernel
theorem dL_law_603 : decode cL_law 603 = .ok (.iadd, 1) := by decide +kernel
theorem dL_law_604 : decode cL_law 604 = .ok (.iaload, 1) := by decide +kernel
theorem dL_law_605 : decode cL_law 605 = .ok (.invokevirtual 82, 3) := by decide +kernel
theorem dL_law_608 : decode cL_law 608 = .ok (.aload_n 2, 1) := by decide +kernel
theorem dL_law_609 : decode cL_law 609 = .ok (.aload_n 0, 1) := by decide +kernel
theorem dL_law_610 : decode cL_law 610 = .ok (.iload_n 3, 1) := by decide +kernel
theorem dL_law_611 : decode cL_law 611 = .ok (.iconst 1, 1) := by decide +kernel
theorem dL_law_612 : decode cL_law 612 = .ok (.iadd, 1) := by decide +kernel
theorem dL_law_613 : decode cL_law 613 = .ok (.iaload, 1) := by decide +kernel
theorem dL_law_614 : decode cL_law 614 = .ok (.aload_n 0, 1) := by decide +kernel
theorem dL_law_615 : decode cL_law 615 = .ok (.iload_n 3, 1) := by decide +kernel
theorem dL_law_616 : decode cL_law 616 = .ok (.iconst 2, 1) := by decide +kernel
theorem dL_law_617 : decode cL_law 617 = .ok (.iadd, 1) := by decide +kernel
theorem dL_law_618 : decode cL_law 618 = .ok (.iaload, 1) := by decide +kernel
theorem dL_law_619 : decode cL_law 619 = .ok (.invokevirtual 85, 3) := by decide +kernel
theorem dL_law_622 : decode cL_law 622 = .ok (.if_icmp .eq 107, 3) := by decide +kernel
theorem dL_law_625 : decode cL_law 625 = .ok (.iconst 0, 1) := by decide +kernel
theorem dL_law_626 : decode cL_law 626 = .ok (.ireturn, 1) := by decide +kernel
theorem dL_law_627 : decode cL_law 627 = .ok (.aload_n 1, 1) := by decide +kernel
theorem dL_law_628 : decode cL_law 628 = .ok (.aload_n 0, 1) := by decide +kernel
theorem dL_law_629 : decode cL_law 629 = .ok (.iload_n 3, 1) := by decide +kernel
theorem dL_law_630 : decode cL_law 630 = .ok (.iconst 1, 1) := by decide +kernel
theorem dL_law_631 : decode cL_law 631 = .ok (.iadd, 1) := by decide +kernel
theorem dL_law_632 : decode cL_law 632 = .ok (.iaload, 1) := by decide +kernel
theorem dL_law_633 : decode cL_law 633 = .ok (.aload_n 0, 1) := by decide +kernel
theorem dL_law_634 : decode cL_law 634 = .ok (.iload_n 3, 1) := by decide +kernel
theorem dL_law_635 : decode cL_law 635 = .ok (.iconst 2, 1) := by decide +kernel
theorem dL_law_636 : decode cL_law 636 = .ok (.iadd, 1) := by decide +kernel
theorem dL_law_637 : decode cL_law 637 = .ok (.iaload, 1) := by decide +kernel
theorem dL_law_638 : decode cL_law 638 = .ok (.invokevirtual 86, 3) := by decide +kernel
theorem dL_law_641 : decode cL_law 641 = .ok (.aload_n 2, 1) := by decide +kernel
theorem dL_law_642 : decode cL_law 642 = .ok (.aload_n 0, 1) := by decide +kernel
theorem dL_law_643 : decode cL_law 643 = .ok (.iload_n 3, 1) := by decide +kernel
theorem dL_law_644 : decode cL_law 644 = .ok (.iconst 1, 1) := by decide +kernel
theorem dL_law_645 : decode cL_law 645 = .ok (.iadd, 1) := by decide +kernel
theorem dL_law_646 : decode cL_law 646 = .ok (.iaload, 1) := by decide +kernel
theorem dL_law_647 : decode cL_law 647 = .ok (.aload_n 0, 1) := by decide +kernel
theorem dL_law_648 : decode cL_law 648 = .ok (.iload_n 3, 1) := by decide +kernel
theorem dL_law_649 : decode cL_law 649 = .ok (.iconst 2, 1) := by decide +kernel
theorem dL_law_650 : decode cL_law 650 = .ok (.iadd, 1) := by decide +kernel
theorem dL_law_651 : decode cL_law 651 = .ok (.iaload, 1) := by decide +kernel
theorem dL_law_652 : decode cL_law 652 = .ok (.invokevirtual 89, 3) := by decide +kernel
theorem dL_law_655 : decode cL_law 655 = .ok (.if_icmp .eq 74, 3) := by decide +kernel
theorem dL_law_658 : decode cL_law 658 = .ok (.iconst 0, 1) := by decide +kernel
theorem dL_law_659 : decode cL_law 659 = .ok (.ireturn, 1) := by decide +kernel
theorem dL_law_660 : decode cL_law 660 = .ok (.aload_n 1, 1) := by decide +kernel
theorem dL_law_661 : decode cL_law 661 = .ok (.aload_n 0, 1) := by decide +kernel
theorem dL_law_662 : decode cL_law 662 = .ok (.iload_n 3, 1) := by decide +kernel
theorem dL_law_663 : decode cL_law 663 = .ok (.iconst 1, 1) := by decide +kernel
theorem dL_law_664 : decode cL_law 664 = .ok (.iadd, 1) := by decide +kernel
theorem dL_law_665 : decode cL_law 665 = .ok (.iaload, 1) := by decide +kernel
theorem dL_law_666 : decode cL_law 666 = .ok (.aload_n 0, 1) := by decide +kernel
theorem dL_law_667 : decode cL_law 667 = .ok (.iload_n 3, 1) := by decide +kernel
theorem dL_law_668 : decode cL_law 668 = .ok (.iconst 2, 1) := by decide +kernel
theorem dL_law_669 : decode cL_law 669 = .ok (.iadd, 1) := by decide +kernel
theorem dL_law_670 : decode cL_law 670 = .ok (.iaload, 1) := by decide +kernel
theorem dL_law_671 : decode cL_law 671 = .ok (.invokevirtual 90, 3) := by decide +kernel
theorem dL_law_674 : decode cL_law 674 = .ok (.aload_n 2, 1) := by decide +kernel
theorem dL_law_675 : decode cL_law 675 = .ok (.aload_n 0, 1) := by decide +kernel
theorem dL_law_676 : decode cL_law 676 = .ok (.iload_n 3, 1) := by decide +kernel
theorem dL_law_677 : decode cL_law 677 = .ok (.iconst 1, 1) := by decide +kernel
theorem dL_law_678 : decode cL_law 678 = .ok (.iadd, 1) := by decide +kernel
theorem dL_law_679 : decode cL_law 679 = .ok (.iaload, 1) := by decide +kernel
theorem dL_law_680 : decode cL_law 680 = .ok (.aload_n 0, 1) := by decide +kernel
theorem dL_law_681 : decode cL_law 681 = .ok (.iload_n 3, 1) := by decide +kernel
theorem dL_law_682 : decode cL_law 682 = .ok (.iconst 2, 1) := by decide +kernel
theorem dL_law_683 : decode cL_law 683 = .ok (.iadd, 1) := by decide +kernel
theorem dL_law_684 : decode cL_law 684 = .ok (.iaload, 1) := by decide +kernel
theorem dL_law_685 : decode cL_law 685 = .ok (.invokevirtual 93, 3) := by decide +kernel
theorem dL_law_688 : decode cL_law 688 = .ok (.if_icmp .eq 41, 3) := by decide +kernel
theorem dL_law_691 : decode cL_law 691 = .ok (.iconst 0, 1) := by decide +kernel
theorem dL_law_692 : decode cL_law 692 = .ok (.ireturn, 1) := by decide +kernel
theorem dL_law_693 : decode cL_law 693 = .ok (.aload_n 1, 1) := by decide +kernel
theorem dL_law_694 : decode cL_law 694 = .ok (.invokevirtual 94, 3) := by decide +kernel
theorem dL_law_697 : decode cL_law 697 = .ok (.aload_n 2, 1) := by decide +kernel
theorem dL_law_698 : decode cL_law 698 = .ok (.invokevirtual 97, 3) := by decide +kernel
theorem dL_law_701 : decode cL_law 701 = .ok (.if_icmp .eq 28, 3) := by decide +kernel
theorem dL_law_704 : decode cL_law 704 = .ok (.iconst 0, 1) := by decide +kernel
theorem dL_law_705 : decode cL_law 705 = .ok (.ireturn, 1) := by decide +kernel
theorem dL_law_706 : decode cL_law 706 = .ok (.aload_n 1, 1) := by decide +kernel
theorem dL_law_707 : decode cL_law 707 = .ok (.aload_n 0, 1) := by decide +kernel
theorem dL_law_708 : decode cL_law 708 = .ok (.iload_n 3, 1) := by decide +kernel
theorem dL_law_709 : decode cL_law 709 = .ok (.iconst 1, 1) := by decide +kernel
theorem dL_law_710 : decode cL_law 710 = .ok (.iadd, 1) := by decide +kernel
theorem dL_law_711 : decode cL_law 711 = .ok (.iaload, 1) := by decide +kernel
theorem dL_law_712 : decode cL_law 712 = .ok (.invokevirtual 98, 3) := by decide +kernel
theorem dL_law_715 : decode cL_law 715 = .ok (.aload_n 2, 1) := by decide +kernel
theorem dL_law_716 : decode cL_law 716 = .ok (.aload_n 0, 1) := by decide +kernel
theorem dL_law_717 : decode cL_law 717 = .ok (.iload_n 3, 1) := by decide +kernel
theorem dL_law_718 : decode cL_law 718 = .ok (.iconst 1, 1) := by decide +kernel
theorem dL_law_719 : decode cL_law 719 = .ok (.iadd, 1) := by decide +kernel
theorem dL_law_720 : decode cL_law 720 = .ok (.iaload, 1) := by decide +kernel
theorem dL_law_721 : decode cL_law 721 = .ok (.invokevirtual 101, 3) := by decide +kernel
theorem dL_law_724 : decode cL_law 724 = .ok (.if_icmp .eq 5, 3) := by decide +kernel
theorem dL_law_727 : decode cL_law 727 = .ok (.iconst 0, 1) := by decide +kernel
theorem dL_law_728 : decode cL_law 728 = .ok (.ireturn, 1) := by decide +kernel
theorem dL_law_729 : decode cL_law 729 = .ok (.iinc 3 6, 3) := by decide +kernel
theorem dL_law_732 : decode cL_law 732 = .ok (.goto (-704), 3) := by decide +kernel
theorem dL_law_735 : decode cL_law 735 = .ok (.iconst 1, 1) := by decide +kernel
theorem dL_law_736 : decode cL_law 736 = .ok (.ireturn, 1) := by decide +kernel
end
section
/-- the words that all methods stand on: the good ones of the tables -/
def WL : List Cond := lw_tbl.filter goodWord
theorem WL_of {w : Cond} (h : w ∈ lw_tbl) (hg : goodWord w = true) : w ∈ WL := List.mem_filter.mpr ⟨h, hg⟩
theorem WL_good {w : Cond} (h : w ∈ WL) : (w.onTables && w.keeps) = true ∨ ∃ ty, w = .arrayClass ty := good_of_word (List.mem_filter.mp h).2
theorem WL_tbl {w : Cond} (h : w ∈ WL) : w ∈ lw_tbl := (List.mem_filter.mp h).1
theorem tw_1_0 : (Cond.initialized "StreamChainLaw") ∈ WL := WL_of (List.mem_append_right _ (List.mem_append_left _ (List.mem_of_getElem? (i := 0) rfl))) rfl
theorem tw_1_1 : (Cond.initialized "StreamChain") ∈ WL := WL_of (List.mem_append_right _ (List.mem_append_left _ (List.mem_of_getElem? (i := 1) rfl))) rfl
theorem tw_1_2 : (Cond.initialized "java/lang/Math") ∈ WL := WL_of (List.mem_append_right _ (List.mem_append_left _ (List.mem_of_getElem? (i := 2) rfl))) rfl
theorem tw_1_3 : (Cond.initialized "StreamChain$Blocks") ∈ WL := WL_of (List.mem_append_right _ (List.mem_append_left _ (List.mem_of_getElem? (i := 3) rfl))) rfl
theorem tw_1_4 : (Cond.initialized "StreamChain$Node") ∈ WL := WL_of (List.mem_append_right _ (List.mem_append_left _ (List.mem_of_getElem? (i := 4) rfl))) rfl
theorem tw_1_5 : (Cond.initialized "java/util/Arrays") ∈ WL := WL_of (List.mem_append_right _ (List.mem_append_left _ (List.mem_of_getElem? (i := 5) rfl))) rfl
theorem tw_1_6 : (Cond.initialized "StreamChainModel") ∈ WL := WL_of (List.mem_append_right _ (List.mem_append_left _ (List.mem_of_getElem? (i := 6) rfl))) rfl
theorem tw_1_7 : (Cond.initialized "java/lang/Integer") ∈ WL := WL_of (List.mem_append_right _ (List.mem_append_left _ (List.mem_of_getElem? (i := 7) rfl))) rfl
theorem tw_1_8 : (Cond.initialized "java/lang/Long") ∈ WL := WL_of (List.mem_append_right _ (List.mem_append_left _ (List.mem_of_getElem? (i := 8) rfl))) rfl
theorem tw_1_9 : (Cond.classLink "StreamChainLaw" (7 : Nat) "StreamChain") ∈ WL := WL_of (List.mem_append_right _ (List.mem_append_left _ (List.mem_of_getElem? (i := 9) rfl))) rfl
theorem tw_1_10 : (Cond.instantiable "StreamChain" (6 : Nat)) ∈ WL := WL_of (List.mem_append_right _ (List.mem_append_left _ (List.mem_of_getElem? (i := 10) rfl))) rfl
theorem tw_1_11 : (Cond.methodLink "StreamChainLaw" (15 : Nat) ({ cls := "StreamChain", name := "<init>", desc := "(I)V" } : MethodName)) ∈ WL := WL_of (List.mem_append_right _ (List.mem_append_left _ (List.mem_of_getElem? (i := 11) rfl))) rfl
theorem tw_1_12 : (Cond.instanceMethod ({ cls := "StreamChain", name := "<init>", desc := "(I)V" } : MethodName)) ∈ WL := WL_of (List.mem_append_right _ (List.mem_append_left _ (List.mem_of_getElem? (i := 12) rfl))) rfl
theorem tw_1_13 : (Cond.code ({ cls := "StreamChain", name := "<init>", desc := "(I)V" } : MethodName) prog_1_method_1_code (4 : Nat) (Option.none : Option ClassFile.FieldType)) ∈ WL := WL_of (List.mem_append_right _ (List.mem_append_left _ (List.mem_of_getElem? (i := 13) rfl))) rfl
theorem tw_1_14 : (Cond.methodLink "StreamChain" (3 : Nat) ({ cls := "java/lang/Object", name := "<init>", desc := "()V" } : MethodName)) ∈ WL := WL_of (List.mem_append_right _ (List.mem_append_left _ (List.mem_of_getElem? (i := 14) rfl))) rfl
theorem tw_1_15 : (Cond.instanceMethod ({ cls := "java/lang/Object", name := "<init>", desc := "()V" } : MethodName)) ∈ WL := WL_of (List.mem_append_right _ (List.mem_append_left _ (List.mem_of_getElem? (i := 15) rfl))) rfl
theorem tw_1_16 : (Cond.code ({ cls := "java/lang/Object", name := "<init>", desc := "()V" } : MethodName) object_method_1_code (1 : Nat) (Option.none : Option ClassFile.FieldType)) ∈ WL := WL_of (List.mem_append_right _ (List.mem_append_left _ (List.mem_of_getElem? (i := 16) rfl))) rfl
theorem tw_1_17 : (Cond.methodLink "StreamChain" (9 : Nat) ({ cls := "java/lang/Math", name := "min", desc := "(II)I" } : MethodName)) ∈ WL := WL_of (List.mem_append_right _ (List.mem_append_left _ (List.mem_of_getElem? (i := 17) rfl))) rfl
theorem tw_1_18 : (Cond.static ({ cls := "java/lang/Math", name := "min", desc := "(II)I" } : MethodName)) ∈ WL := WL_of (List.mem_append_right _ (List.mem_append_left _ (List.mem_of_getElem? (i := 18) rfl))) rfl
theorem tw_1_19 : (Cond.code ({ cls := "java/lang/Math", name := "min", desc := "(II)I" } : MethodName) prog_8_method_69_code (2 : Nat) (Option.some ClassFile.FieldType.int)) ∈ WL := WL_of (List.mem_append_right _ (List.mem_append_left _ (List.mem_of_getElem? (i := 19) rfl))) rfl
theorem tw_1_20 : (Cond.methodLink "StreamChain" (15 : Nat) ({ cls := "java/lang/Math", name := "max", desc := "(II)I" } : MethodName)) ∈ WL := WL_of (List.mem_append_right _ (List.mem_append_left _ (List.mem_of_getElem? (i := 20) rfl))) rfl
theorem tw_1_21 : (Cond.static ({ cls := "java/lang/Math", name := "max", desc := "(II)I" } : MethodName)) ∈ WL := WL_of (List.mem_append_right _ (List.mem_append_left _ (List.mem_of_getElem? (i := 21) rfl))) rfl
theorem tw_1_22 : (Cond.code ({ cls := "java/lang/Math", name := "max", desc := "(II)I" } : MethodName) prog_8_method_65_code (2 : Nat) (Option.some ClassFile.FieldType.int)) ∈ WL := WL_of (List.mem_append_right _ (List.mem_append_left _ (List.mem_of_getElem? (i := 22) rfl))) rfl
theorem tw_1_23 : (Cond.classLink "StreamChain" (18 : Nat) "StreamChain$Blocks") ∈ WL := WL_of (List.mem_append_right _ (List.mem_append_left _ (List.mem_of_getElem? (i := 23) rfl))) rfl
theorem tw_1_24 : (Cond.instantiable "StreamChain$Blocks" (8 : Nat)) ∈ WL := WL_of (List.mem_append_right _ (List.mem_append_left _ (List.mem_of_getElem? (i := 24) rfl))) rfl
theorem tw_1_25 : (Cond.methodLinkNest "StreamChain" (20 : Nat) ({ cls := "StreamChain$Blocks", name := "<init>", desc := "()V" } : MethodName) "StreamChain") ∈ lw_tbl := List.mem_append_right _ (List.mem_append_left _ (List.mem_of_getElem? (i := 25) rfl))
theorem tw_1_26 : (Cond.instanceMethod ({ cls := "StreamChain$Blocks", name := "<init>", desc := "()V" } : MethodName)) ∈ WL := WL_of (List.mem_append_right _ (List.mem_append_left _ (List.mem_of_getElem? (i := 26) rfl))) rfl
theorem tw_1_27 : (Cond.code ({ cls := "StreamChain$Blocks", name := "<init>", desc := "()V" } : MethodName) prog_2_method_1_code (1 : Nat) (Option.none : Option ClassFile.FieldType)) ∈ WL := WL_of (List.mem_append_right _ (List.mem_append_left _ (List.mem_of_getElem? (i := 27) rfl))) rfl
theorem tw_1_28 : (Cond.methodLink "StreamChain$Blocks" (3 : Nat) ({ cls := "java/lang/Object", name := "<init>", desc := "()V" } : MethodName)) ∈ WL := WL_of (List.mem_append_right _ (List.mem_append_left _ (List.mem_of_getElem? (i := 28) rfl))) rfl
theorem tw_1_29 : (Cond.fieldLink "StreamChain$Blocks" (9 : Nat) "StreamChain$Blocks" "parent" "[I") ∈ WL := WL_of (List.mem_append_right _ (List.mem_append_left _ (List.mem_of_getElem? (i := 29) rfl))) rfl
theorem tw_1_30 : (Cond.fieldLinkNest "StreamChain$Node" (81 : Nat) "StreamChain$Blocks" "parent" "[I" "StreamChain") ∈ lw_tbl := List.mem_append_right _ (List.mem_append_left _ (List.mem_of_getElem? (i := 30) rfl))
theorem tw_1_31 : (Cond.fieldLinkNest "StreamChain" (127 : Nat) "StreamChain$Blocks" "parent" "[I" "StreamChain") ∈ lw_tbl := List.mem_append_right _ (List.mem_append_left _ (List.mem_of_getElem? (i := 31) rfl))
theorem tw_1_32 : (Cond.fieldLink "StreamChain$Blocks" (15 : Nat) "StreamChain$Blocks" "epoch" "[I") ∈ WL := WL_of (List.mem_append_right _ (List.mem_append_left _ (List.mem_of_getElem? (i := 32) rfl))) rfl
theorem tw_1_33 : (Cond.fieldLinkNest "StreamChain$Node" (69 : Nat) "StreamChain$Blocks" "epoch" "[I" "StreamChain") ∈ lw_tbl := List.mem_append_right _ (List.mem_append_left _ (List.mem_of_getElem? (i := 33) rfl))
theorem tw_1_34 : (Cond.fieldLinkNest "StreamChain" (130 : Nat) "StreamChain$Blocks" "epoch" "[I" "StreamChain") ∈ lw_tbl := List.mem_append_right _ (List.mem_append_left _ (List.mem_of_getElem? (i := 34) rfl))
theorem tw_1_35 : (Cond.fieldLink "StreamChain$Blocks" (18 : Nat) "StreamChain$Blocks" "load" "[I") ∈ WL := WL_of (List.mem_append_right _ (List.mem_append_left _ (List.mem_of_getElem? (i := 35) rfl))) rfl
theorem tw_1_36 : (Cond.fieldLinkNest "StreamChain" (133 : Nat) "StreamChain$Blocks" "load" "[I" "StreamChain") ∈ lw_tbl := List.mem_append_right _ (List.mem_append_left _ (List.mem_of_getElem? (i := 36) rfl))
theorem tw_1_37 : (Cond.fieldLink "StreamChain$Blocks" (21 : Nat) "StreamChain$Blocks" "height" "[I") ∈ WL := WL_of (List.mem_append_right _ (List.mem_append_left _ (List.mem_of_getElem? (i := 37) rfl))) rfl
theorem tw_1_38 : (Cond.fieldLinkNest "StreamChain$Node" (97 : Nat) "StreamChain$Blocks" "height" "[I" "StreamChain") ∈ lw_tbl := List.mem_append_right _ (List.mem_append_left _ (List.mem_of_getElem? (i := 38) rfl))
theorem tw_1_39 : (Cond.fieldLinkNest "StreamChain" (136 : Nat) "StreamChain$Blocks" "height" "[I" "StreamChain") ∈ lw_tbl := List.mem_append_right _ (List.mem_append_left _ (List.mem_of_getElem? (i := 39) rfl))
theorem tw_1_40 : (Cond.fieldLink "StreamChain$Blocks" (24 : Nat) "StreamChain$Blocks" "maker" "[I") ∈ WL := WL_of (List.mem_append_right _ (List.mem_append_left _ (List.mem_of_getElem? (i := 40) rfl))) rfl
theorem tw_1_41 : (Cond.fieldLinkNest "StreamChain" (139 : Nat) "StreamChain$Blocks" "maker" "[I" "StreamChain") ∈ lw_tbl := List.mem_append_right _ (List.mem_append_left _ (List.mem_of_getElem? (i := 41) rfl))
theorem tw_1_42 : (Cond.fieldLink "StreamChain$Blocks" (27 : Nat) "StreamChain$Blocks" "chain" "[J") ∈ WL := WL_of (List.mem_append_right _ (List.mem_append_left _ (List.mem_of_getElem? (i := 42) rfl))) rfl
theorem tw_1_43 : (Cond.fieldLinkNest "StreamChain$Node" (100 : Nat) "StreamChain$Blocks" "chain" "[J" "StreamChain") ∈ lw_tbl := List.mem_append_right _ (List.mem_append_left _ (List.mem_of_getElem? (i := 43) rfl))
theorem tw_1_44 : (Cond.fieldLinkNest "StreamChain" (169 : Nat) "StreamChain$Blocks" "chain" "[J" "StreamChain") ∈ lw_tbl := List.mem_append_right _ (List.mem_append_left _ (List.mem_of_getElem? (i := 44) rfl))
theorem tw_1_45 : (Cond.fieldLink "StreamChain$Blocks" (31 : Nat) "StreamChain$Blocks" "chainLoad" "[I") ∈ WL := WL_of (List.mem_append_right _ (List.mem_append_left _ (List.mem_of_getElem? (i := 45) rfl))) rfl
theorem tw_1_46 : (Cond.fieldLinkNest "StreamChain" (209 : Nat) "StreamChain$Blocks" "chainLoad" "[I" "StreamChain") ∈ lw_tbl := List.mem_append_right _ (List.mem_append_left _ (List.mem_of_getElem? (i := 46) rfl))
theorem tw_1_47 : (Cond.fieldLink "StreamChain$Blocks" (34 : Nat) "StreamChain$Blocks" "total" "I") ∈ WL := WL_of (List.mem_append_right _ (List.mem_append_left _ (List.mem_of_getElem? (i := 47) rfl))) rfl
theorem tw_1_48 : (Cond.fieldLinkNest "StreamChain$Node" (78 : Nat) "StreamChain$Blocks" "total" "I" "StreamChain") ∈ lw_tbl := List.mem_append_right _ (List.mem_append_left _ (List.mem_of_getElem? (i := 48) rfl))
theorem tw_1_49 : (Cond.fieldLinkNest "StreamChain" (173 : Nat) "StreamChain$Blocks" "total" "I" "StreamChain") ∈ lw_tbl := List.mem_append_right _ (List.mem_append_left _ (List.mem_of_getElem? (i := 49) rfl))
theorem tw_1_50 : (Cond.laysFinal "StreamChain$Blocks" "StreamChain$Blocks" "parent" "[I") ∈ WL := WL_of (List.mem_append_right _ (List.mem_append_left _ (List.mem_of_getElem? (i := 50) rfl))) rfl
theorem tw_1_52 : (Cond.laysFinal "StreamChain$Blocks" "StreamChain$Blocks" "epoch" "[I") ∈ WL := WL_of (List.mem_append_right _ (List.mem_append_left _ (List.mem_of_getElem? (i := 52) rfl))) rfl
theorem tw_1_54 : (Cond.laysFinal "StreamChain$Blocks" "StreamChain$Blocks" "load" "[I") ∈ WL := WL_of (List.mem_append_right _ (List.mem_append_left _ (List.mem_of_getElem? (i := 54) rfl))) rfl
theorem tw_1_56 : (Cond.laysFinal "StreamChain$Blocks" "StreamChain$Blocks" "height" "[I") ∈ WL := WL_of (List.mem_append_right _ (List.mem_append_left _ (List.mem_of_getElem? (i := 56) rfl))) rfl
theorem tw_1_58 : (Cond.laysFinal "StreamChain$Blocks" "StreamChain$Blocks" "maker" "[I") ∈ WL := WL_of (List.mem_append_right _ (List.mem_append_left _ (List.mem_of_getElem? (i := 58) rfl))) rfl
theorem tw_1_60 : (Cond.laysFinal "StreamChain$Blocks" "StreamChain$Blocks" "chain" "[J") ∈ WL := WL_of (List.mem_append_right _ (List.mem_append_left _ (List.mem_of_getElem? (i := 60) rfl))) rfl
theorem tw_1_62 : (Cond.laysFinal "StreamChain$Blocks" "StreamChain$Blocks" "chainLoad" "[I") ∈ WL := WL_of (List.mem_append_right _ (List.mem_append_left _ (List.mem_of_getElem? (i := 62) rfl))) rfl
theorem tw_1_64 : (Cond.lays "StreamChain$Blocks" "StreamChain$Blocks" "total" "I") ∈ WL := WL_of (List.mem_append_right _ (List.mem_append_left _ (List.mem_of_getElem? (i := 64) rfl))) rfl
theorem tw_1_67 : (Cond.arrayClass ClassFile.FieldType.int) ∈ WL := WL_of (List.mem_append_right _ (List.mem_append_left _ (List.mem_of_getElem? (i := 67) rfl))) rfl
theorem tw_1_68 : (Cond.arrayClass ClassFile.FieldType.long) ∈ WL := WL_of (List.mem_append_right _ (List.mem_append_left _ (List.mem_of_getElem? (i := 68) rfl))) rfl
theorem tw_1_69 : (Cond.classLink "StreamChain" (25 : Nat) "StreamChain$Node") ∈ WL := WL_of (List.mem_append_right _ (List.mem_append_left _ (List.mem_of_getElem? (i := 69) rfl))) rfl
theorem tw_1_71 : (Cond.instantiable "StreamChain$Node" (16 : Nat)) ∈ WL := WL_of (List.mem_append_right _ (List.mem_append_left _ (List.mem_of_getElem? (i := 71) rfl))) rfl
theorem tw_1_72 : (Cond.methodLinkNest "StreamChain" (31 : Nat) ({ cls := "StreamChain$Node", name := "<init>", desc := "(IILStreamChain$Blocks;)V" } : MethodName) "StreamChain") ∈ lw_tbl := List.mem_append_right _ (List.mem_append_left _ (List.mem_of_getElem? (i := 72) rfl))
theorem tw_1_73 : (Cond.instanceMethod ({ cls := "StreamChain$Node", name := "<init>", desc := "(IILStreamChain$Blocks;)V" } : MethodName)) ∈ WL := WL_of (List.mem_append_right _ (List.mem_append_left _ (List.mem_of_getElem? (i := 73) rfl))) rfl
theorem tw_1_74 : (Cond.code ({ cls := "StreamChain$Node", name := "<init>", desc := "(IILStreamChain$Blocks;)V" } : MethodName) prog_3_method_1_code (4 : Nat) (Option.none : Option ClassFile.FieldType)) ∈ WL := WL_of (List.mem_append_right _ (List.mem_append_left _ (List.mem_of_getElem? (i := 74) rfl))) rfl
theorem tw_1_75 : (Cond.methodLink "StreamChain$Node" (3 : Nat) ({ cls := "java/lang/Object", name := "<init>", desc := "()V" } : MethodName)) ∈ WL := WL_of (List.mem_append_right _ (List.mem_append_left _ (List.mem_of_getElem? (i := 75) rfl))) rfl
theorem tw_1_76 : (Cond.methodLink "StreamChain$Node" (51 : Nat) ({ cls := "java/util/Arrays", name := "fill", desc := "([II)V" } : MethodName)) ∈ WL := WL_of (List.mem_append_right _ (List.mem_append_left _ (List.mem_of_getElem? (i := 76) rfl))) rfl
theorem tw_1_77 : (Cond.static ({ cls := "java/util/Arrays", name := "fill", desc := "([II)V" } : MethodName)) ∈ WL := WL_of (List.mem_append_right _ (List.mem_append_left _ (List.mem_of_getElem? (i := 77) rfl))) rfl
theorem tw_1_78 : (Cond.code ({ cls := "java/util/Arrays", name := "fill", desc := "([II)V" } : MethodName) prog_9_method_103_code (4 : Nat) (Option.none : Option ClassFile.FieldType)) ∈ WL := WL_of (List.mem_append_right _ (List.mem_append_left _ (List.mem_of_getElem? (i := 78) rfl))) rfl
theorem tw_1_79 : (Cond.fieldLink "StreamChain$Node" (41 : Nat) "StreamChain$Node" "number" "I") ∈ WL := WL_of (List.mem_append_right _ (List.mem_append_left _ (List.mem_of_getElem? (i := 79) rfl))) rfl
theorem tw_1_80 : (Cond.fieldLinkNest "StreamChain" (200 : Nat) "StreamChain$Node" "number" "I" "StreamChain") ∈ lw_tbl := List.mem_append_right _ (List.mem_append_left _ (List.mem_of_getElem? (i := 80) rfl))
theorem tw_1_81 : (Cond.fieldLink "StreamChain$Node" (44 : Nat) "StreamChain$Node" "size" "I") ∈ WL := WL_of (List.mem_append_right _ (List.mem_append_left _ (List.mem_of_getElem? (i := 81) rfl))) rfl
theorem tw_1_82 : (Cond.fieldLink "StreamChain$Node" (47 : Nat) "StreamChain$Node" "blocks" "LStreamChain$Blocks;") ∈ WL := WL_of (List.mem_append_right _ (List.mem_append_left _ (List.mem_of_getElem? (i := 82) rfl))) rfl
theorem tw_1_83 : (Cond.fieldLinkNest "StreamChain" (53 : Nat) "StreamChain$Node" "isFalse" "Z" "StreamChain") ∈ lw_tbl := List.mem_append_right _ (List.mem_append_left _ (List.mem_of_getElem? (i := 83) rfl))
theorem tw_1_84 : (Cond.fieldLinkNest "StreamChain" (57 : Nat) "StreamChain$Node" "wishes" "I" "StreamChain") ∈ lw_tbl := List.mem_append_right _ (List.mem_append_left _ (List.mem_of_getElem? (i := 84) rfl))
theorem tw_1_85 : (Cond.fieldLink "StreamChain$Node" (57 : Nat) "StreamChain$Node" "proposals" "J") ∈ WL := WL_of (List.mem_append_right _ (List.mem_append_left _ (List.mem_of_getElem? (i := 85) rfl))) rfl
theorem tw_1_86 : (Cond.fieldLinkNest "StreamChain" (124 : Nat) "StreamChain$Node" "proposals" "J" "StreamChain") ∈ lw_tbl := List.mem_append_right _ (List.mem_append_left _ (List.mem_of_getElem? (i := 86) rfl))
theorem tw_1_87 : (Cond.fieldLink "StreamChain$Node" (60 : Nat) "StreamChain$Node" "proposalsUnderWay" "J") ∈ WL := WL_of (List.mem_append_right _ (List.mem_append_left _ (List.mem_of_getElem? (i := 87) rfl))) rfl
theorem tw_1_88 : (Cond.fieldLinkNest "StreamChain" (74 : Nat) "StreamChain$Node" "proposalsUnderWay" "J" "StreamChain") ∈ lw_tbl := List.mem_append_right _ (List.mem_append_left _ (List.mem_of_getElem? (i := 88) rfl))
theorem tw_1_89 : (Cond.fieldLink "StreamChain$Node" (9 : Nat) "StreamChain$Node" "voters" "[I") ∈ WL := WL_of (List.mem_append_right _ (List.mem_append_left _ (List.mem_of_getElem? (i := 89) rfl))) rfl
theorem tw_1_90 : (Cond.fieldLinkNest "StreamChain" (151 : Nat) "StreamChain$Node" "voters" "[I" "StreamChain") ∈ lw_tbl := List.mem_append_right _ (List.mem_append_left _ (List.mem_of_getElem? (i := 90) rfl))
theorem tw_1_91 : (Cond.fieldLink "StreamChain$Node" (15 : Nat) "StreamChain$Node" "votersUnderWay" "[I") ∈ WL := WL_of (List.mem_append_right _ (List.mem_append_left _ (List.mem_of_getElem? (i := 91) rfl))) rfl
theorem tw_1_92 : (Cond.fieldLinkNest "StreamChain" (86 : Nat) "StreamChain$Node" "votersUnderWay" "[I" "StreamChain") ∈ lw_tbl := List.mem_append_right _ (List.mem_append_left _ (List.mem_of_getElem? (i := 92) rfl))
theorem tw_1_93 : (Cond.fieldLink "StreamChain$Node" (18 : Nat) "StreamChain$Node" "firstCome" "[I") ∈ WL := WL_of (List.mem_append_right _ (List.mem_append_left _ (List.mem_of_getElem? (i := 93) rfl))) rfl
theorem tw_1_94 : (Cond.fieldLink "StreamChain$Node" (21 : Nat) "StreamChain$Node" "votedFor" "[I") ∈ WL := WL_of (List.mem_append_right _ (List.mem_append_left _ (List.mem_of_getElem? (i := 94) rfl))) rfl
theorem tw_1_95 : (Cond.fieldLinkNest "StreamChain" (160 : Nat) "StreamChain$Node" "votedFor" "[I" "StreamChain") ∈ lw_tbl := List.mem_append_right _ (List.mem_append_left _ (List.mem_of_getElem? (i := 95) rfl))
theorem tw_1_96 : (Cond.fieldLink "StreamChain$Node" (24 : Nat) "StreamChain$Node" "known" "J") ∈ WL := WL_of (List.mem_append_right _ (List.mem_append_left _ (List.mem_of_getElem? (i := 96) rfl))) rfl
theorem tw_1_97 : (Cond.fieldLinkNest "StreamChain" (148 : Nat) "StreamChain$Node" "known" "J" "StreamChain") ∈ lw_tbl := List.mem_append_right _ (List.mem_append_left _ (List.mem_of_getElem? (i := 97) rfl))
theorem tw_1_98 : (Cond.fieldLink "StreamChain$Node" (28 : Nat) "StreamChain$Node" "notarized" "J") ∈ WL := WL_of (List.mem_append_right _ (List.mem_append_left _ (List.mem_of_getElem? (i := 98) rfl))) rfl
theorem tw_1_99 : (Cond.fieldLinkNest "StreamChain" (145 : Nat) "StreamChain$Node" "notarized" "J" "StreamChain") ∈ lw_tbl := List.mem_append_right _ (List.mem_append_left _ (List.mem_of_getElem? (i := 99) rfl))
theorem tw_1_100 : (Cond.fieldLink "StreamChain$Node" (31 : Nat) "StreamChain$Node" "finals" "J") ∈ WL := WL_of (List.mem_append_right _ (List.mem_append_left _ (List.mem_of_getElem? (i := 100) rfl))) rfl
theorem tw_1_101 : (Cond.fieldLinkNest "StreamChain" (142 : Nat) "StreamChain$Node" "finals" "J" "StreamChain") ∈ lw_tbl := List.mem_append_right _ (List.mem_append_left _ (List.mem_of_getElem? (i := 101) rfl))
theorem tw_1_102 : (Cond.fieldLink "StreamChain$Node" (34 : Nat) "StreamChain$Node" "tip" "I") ∈ WL := WL_of (List.mem_append_right _ (List.mem_append_left _ (List.mem_of_getElem? (i := 102) rfl))) rfl
theorem tw_1_103 : (Cond.fieldLinkNest "StreamChain" (163 : Nat) "StreamChain$Node" "tip" "I" "StreamChain") ∈ lw_tbl := List.mem_append_right _ (List.mem_append_left _ (List.mem_of_getElem? (i := 103) rfl))
theorem tw_1_104 : (Cond.fieldLink "StreamChain$Node" (38 : Nat) "StreamChain$Node" "highestFinal" "I") ∈ WL := WL_of (List.mem_append_right _ (List.mem_append_left _ (List.mem_of_getElem? (i := 104) rfl))) rfl
theorem tw_1_105 : (Cond.fieldLinkNest "StreamChain" (166 : Nat) "StreamChain$Node" "highestFinal" "I" "StreamChain") ∈ lw_tbl := List.mem_append_right _ (List.mem_append_left _ (List.mem_of_getElem? (i := 105) rfl))
theorem tw_1_106 : (Cond.laysFinal "StreamChain$Node" "StreamChain$Node" "number" "I") ∈ WL := WL_of (List.mem_append_right _ (List.mem_append_left _ (List.mem_of_getElem? (i := 106) rfl))) rfl
theorem tw_1_108 : (Cond.laysFinal "StreamChain$Node" "StreamChain$Node" "size" "I") ∈ WL := WL_of (List.mem_append_right _ (List.mem_append_left _ (List.mem_of_getElem? (i := 108) rfl))) rfl
theorem tw_1_110 : (Cond.laysFinal "StreamChain$Node" "StreamChain$Node" "blocks" "LStreamChain$Blocks;") ∈ WL := WL_of (List.mem_append_right _ (List.mem_append_left _ (List.mem_of_getElem? (i := 110) rfl))) rfl
theorem tw_1_112 : (Cond.lays "StreamChain$Node" "StreamChain$Node" "isFalse" "Z") ∈ WL := WL_of (List.mem_append_right _ (List.mem_append_left _ (List.mem_of_getElem? (i := 112) rfl))) rfl
theorem tw_1_114 : (Cond.lays "StreamChain$Node" "StreamChain$Node" "wishes" "I") ∈ WL := WL_of (List.mem_append_right _ (List.mem_append_left _ (List.mem_of_getElem? (i := 114) rfl))) rfl
theorem tw_1_116 : (Cond.lays "StreamChain$Node" "StreamChain$Node" "proposals" "J") ∈ WL := WL_of (List.mem_append_right _ (List.mem_append_left _ (List.mem_of_getElem? (i := 116) rfl))) rfl
theorem tw_1_118 : (Cond.lays "StreamChain$Node" "StreamChain$Node" "proposalsUnderWay" "J") ∈ WL := WL_of (List.mem_append_right _ (List.mem_append_left _ (List.mem_of_getElem? (i := 118) rfl))) rfl
theorem tw_1_120 : (Cond.laysFinal "StreamChain$Node" "StreamChain$Node" "voters" "[I") ∈ WL := WL_of (List.mem_append_right _ (List.mem_append_left _ (List.mem_of_getElem? (i := 120) rfl))) rfl
theorem tw_1_122 : (Cond.laysFinal "StreamChain$Node" "StreamChain$Node" "votersUnderWay" "[I") ∈ WL := WL_of (List.mem_append_right _ (List.mem_append_left _ (List.mem_of_getElem? (i := 122) rfl))) rfl
theorem tw_1_124 : (Cond.laysFinal "StreamChain$Node" "StreamChain$Node" "firstCome" "[I") ∈ WL := WL_of (List.mem_append_right _ (List.mem_append_left _ (List.mem_of_getElem? (i := 124) rfl))) rfl
theorem tw_1_126 : (Cond.laysFinal "StreamChain$Node" "StreamChain$Node" "votedFor" "[I") ∈ WL := WL_of (List.mem_append_right _ (List.mem_append_left _ (List.mem_of_getElem? (i := 126) rfl))) rfl
theorem tw_1_128 : (Cond.lays "StreamChain$Node" "StreamChain$Node" "known" "J") ∈ WL := WL_of (List.mem_append_right _ (List.mem_append_left _ (List.mem_of_getElem? (i := 128) rfl))) rfl
theorem tw_1_130 : (Cond.lays "StreamChain$Node" "StreamChain$Node" "notarized" "J") ∈ WL := WL_of (List.mem_append_right _ (List.mem_append_left _ (List.mem_of_getElem? (i := 130) rfl))) rfl
theorem tw_1_132 : (Cond.lays "StreamChain$Node" "StreamChain$Node" "finals" "J") ∈ WL := WL_of (List.mem_append_right _ (List.mem_append_left _ (List.mem_of_getElem? (i := 132) rfl))) rfl
theorem tw_1_134 : (Cond.lays "StreamChain$Node" "StreamChain$Node" "tip" "I") ∈ WL := WL_of (List.mem_append_right _ (List.mem_append_left _ (List.mem_of_getElem? (i := 134) rfl))) rfl
theorem tw_1_136 : (Cond.lays "StreamChain$Node" "StreamChain$Node" "highestFinal" "I") ∈ WL := WL_of (List.mem_append_right _ (List.mem_append_left _ (List.mem_of_getElem? (i := 136) rfl))) rfl
theorem tw_1_139 : (Cond.fieldLink "StreamChain" (21 : Nat) "StreamChain" "blocks" "LStreamChain$Blocks;") ∈ WL := WL_of (List.mem_append_right _ (List.mem_append_left _ (List.mem_of_getElem? (i := 139) rfl))) rfl
theorem tw_1_140 : (Cond.fieldLink "StreamChain" (27 : Nat) "StreamChain" "nodes" "[LStreamChain$Node;") ∈ WL := WL_of (List.mem_append_right _ (List.mem_append_left _ (List.mem_of_getElem? (i := 140) rfl))) rfl
theorem tw_1_141 : (Cond.fieldLink "StreamChain" (34 : Nat) "StreamChain" "leaders" "[I") ∈ WL := WL_of (List.mem_append_right _ (List.mem_append_left _ (List.mem_of_getElem? (i := 141) rfl))) rfl
theorem tw_1_142 : (Cond.fieldLink "StreamChain" (46 : Nat) "StreamChain" "present" "I") ∈ WL := WL_of (List.mem_append_right _ (List.mem_append_left _ (List.mem_of_getElem? (i := 142) rfl))) rfl
theorem tw_1_143 : (Cond.fieldLink "StreamChain" (186 : Nat) "StreamChain" "votesGiven" "I") ∈ WL := WL_of (List.mem_append_right _ (List.mem_append_left _ (List.mem_of_getElem? (i := 143) rfl))) rfl
theorem tw_1_144 : (Cond.fieldLink "StreamChain" (97 : Nat) "StreamChain" "lettersCome" "I") ∈ WL := WL_of (List.mem_append_right _ (List.mem_append_left _ (List.mem_of_getElem? (i := 144) rfl))) rfl
theorem tw_1_145 : (Cond.laysFinal "StreamChain" "StreamChain" "blocks" "LStreamChain$Blocks;") ∈ WL := WL_of (List.mem_append_right _ (List.mem_append_left _ (List.mem_of_getElem? (i := 145) rfl))) rfl
theorem tw_1_147 : (Cond.laysFinal "StreamChain" "StreamChain" "nodes" "[LStreamChain$Node;") ∈ WL := WL_of (List.mem_append_right _ (List.mem_append_left _ (List.mem_of_getElem? (i := 147) rfl))) rfl
theorem tw_1_149 : (Cond.laysFinal "StreamChain" "StreamChain" "leaders" "[I") ∈ WL := WL_of (List.mem_append_right _ (List.mem_append_left _ (List.mem_of_getElem? (i := 149) rfl))) rfl
theorem tw_1_151 : (Cond.lays "StreamChain" "StreamChain" "present" "I") ∈ WL := WL_of (List.mem_append_right _ (List.mem_append_left _ (List.mem_of_getElem? (i := 151) rfl))) rfl
theorem tw_1_153 : (Cond.lays "StreamChain" "StreamChain" "votesGiven" "I") ∈ WL := WL_of (List.mem_append_right _ (List.mem_append_left _ (List.mem_of_getElem? (i := 153) rfl))) rfl
theorem tw_1_155 : (Cond.lays "StreamChain" "StreamChain" "lettersCome" "I") ∈ WL := WL_of (List.mem_append_right _ (List.mem_append_left _ (List.mem_of_getElem? (i := 155) rfl))) rfl
theorem tw_1_158 : (Cond.methodLink "StreamChainLaw" (21 : Nat) ({ cls := "StreamChain", name := "lead", desc := "(II)I" } : MethodName)) ∈ WL := WL_of (List.mem_append_right _ (List.mem_append_left _ (List.mem_of_getElem? (i := 158) rfl))) rfl
theorem tw_1_159 : (Cond.instanceMethod ({ cls := "StreamChain", name := "lead", desc := "(II)I" } : MethodName)) ∈ WL := WL_of (List.mem_append_right _ (List.mem_append_left _ (List.mem_of_getElem? (i := 159) rfl))) rfl
theorem tw_1_160 : (Cond.selects "StreamChain" ({ cls := "StreamChain", name := "lead", desc := "(II)I" } : MethodName) ({ cls := "StreamChain", name := "lead", desc := "(II)I" } : MethodName)) ∈ WL := WL_of (List.mem_append_right _ (List.mem_append_left _ (List.mem_of_getElem? (i := 160) rfl))) rfl
theorem tw_1_161 : (Cond.code ({ cls := "StreamChain", name := "lead", desc := "(II)I" } : MethodName) prog_1_method_2_code (4 : Nat) (Option.some ClassFile.FieldType.int)) ∈ WL := WL_of (List.mem_append_right _ (List.mem_append_left _ (List.mem_of_getElem? (i := 161) rfl))) rfl
theorem tw_1_162 : (Cond.methodLink "StreamChain" (38 : Nat) ({ cls := "StreamChain", name := "isEpoch", desc := "(I)Z" } : MethodName)) ∈ WL := WL_of (List.mem_append_right _ (List.mem_append_left _ (List.mem_of_getElem? (i := 162) rfl))) rfl
theorem tw_1_163 : (Cond.static ({ cls := "StreamChain", name := "isEpoch", desc := "(I)Z" } : MethodName)) ∈ WL := WL_of (List.mem_append_right _ (List.mem_append_left _ (List.mem_of_getElem? (i := 163) rfl))) rfl
theorem tw_1_164 : (Cond.code ({ cls := "StreamChain", name := "isEpoch", desc := "(I)Z" } : MethodName) prog_1_method_23_code (1 : Nat) (Option.some ClassFile.FieldType.boolean)) ∈ WL := WL_of (List.mem_append_right _ (List.mem_append_left _ (List.mem_of_getElem? (i := 164) rfl))) rfl
theorem tw_1_165 : (Cond.methodLink "StreamChain" (42 : Nat) ({ cls := "StreamChain", name := "nodeAt", desc := "(I)LStreamChain$Node;" } : MethodName)) ∈ WL := WL_of (List.mem_append_right _ (List.mem_append_left _ (List.mem_of_getElem? (i := 165) rfl))) rfl
theorem tw_1_167 : (Cond.instanceMethod ({ cls := "StreamChain", name := "nodeAt", desc := "(I)LStreamChain$Node;" } : MethodName)) ∈ WL := WL_of (List.mem_append_right _ (List.mem_append_left _ (List.mem_of_getElem? (i := 167) rfl))) rfl
theorem tw_1_168 : (Cond.code ({ cls := "StreamChain", name := "nodeAt", desc := "(I)LStreamChain$Node;" } : MethodName) prog_1_method_21_code (2 : Nat) (Option.some (ClassFile.FieldType.object "StreamChain$Node"))) ∈ WL := WL_of (List.mem_append_right _ (List.mem_append_left _ (List.mem_of_getElem? (i := 168) rfl))) rfl
theorem tw_1_169 : (Cond.methodLinkNest "StreamChain" (50 : Nat) ({ cls := "StreamChain$Blocks", name := "hasOneOf", desc := "(I)Z" } : MethodName) "StreamChain") ∈ lw_tbl := List.mem_append_right _ (List.mem_append_left _ (List.mem_of_getElem? (i := 169) rfl))
theorem tw_1_171 : (Cond.instanceMethod ({ cls := "StreamChain$Blocks", name := "hasOneOf", desc := "(I)Z" } : MethodName)) ∈ WL := WL_of (List.mem_append_right _ (List.mem_append_left _ (List.mem_of_getElem? (i := 171) rfl))) rfl
theorem tw_1_172 : (Cond.code ({ cls := "StreamChain$Blocks", name := "hasOneOf", desc := "(I)Z" } : MethodName) prog_2_method_4_code (3 : Nat) (Option.some ClassFile.FieldType.boolean)) ∈ WL := WL_of (List.mem_append_right _ (List.mem_append_left _ (List.mem_of_getElem? (i := 172) rfl))) rfl
theorem tw_1_173 : (Cond.methodLink "StreamChainLaw" (26 : Nat) ({ cls := "StreamChain", name := "fall", desc := "(I)I" } : MethodName)) ∈ WL := WL_of (List.mem_append_right _ (List.mem_append_left _ (List.mem_of_getElem? (i := 173) rfl))) rfl
theorem tw_1_174 : (Cond.instanceMethod ({ cls := "StreamChain", name := "fall", desc := "(I)I" } : MethodName)) ∈ WL := WL_of (List.mem_append_right _ (List.mem_append_left _ (List.mem_of_getElem? (i := 174) rfl))) rfl
theorem tw_1_175 : (Cond.selects "StreamChain" ({ cls := "StreamChain", name := "fall", desc := "(I)I" } : MethodName) ({ cls := "StreamChain", name := "fall", desc := "(I)I" } : MethodName)) ∈ WL := WL_of (List.mem_append_right _ (List.mem_append_left _ (List.mem_of_getElem? (i := 175) rfl))) rfl
theorem tw_1_176 : (Cond.code ({ cls := "StreamChain", name := "fall", desc := "(I)I" } : MethodName) prog_1_method_3_code (3 : Nat) (Option.some ClassFile.FieldType.int)) ∈ WL := WL_of (List.mem_append_right _ (List.mem_append_left _ (List.mem_of_getElem? (i := 176) rfl))) rfl
theorem tw_1_177 : (Cond.methodLink "StreamChainLaw" (31 : Nat) ({ cls := "StreamChain", name := "wish", desc := "(II)I" } : MethodName)) ∈ WL := WL_of (List.mem_append_right _ (List.mem_append_left _ (List.mem_of_getElem? (i := 177) rfl))) rfl
theorem tw_1_178 : (Cond.instanceMethod ({ cls := "StreamChain", name := "wish", desc := "(II)I" } : MethodName)) ∈ WL := WL_of (List.mem_append_right _ (List.mem_append_left _ (List.mem_of_getElem? (i := 178) rfl))) rfl
theorem tw_1_179 : (Cond.selects "StreamChain" ({ cls := "StreamChain", name := "wish", desc := "(II)I" } : MethodName) ({ cls := "StreamChain", name := "wish", desc := "(II)I" } : MethodName)) ∈ WL := WL_of (List.mem_append_right _ (List.mem_append_left _ (List.mem_of_getElem? (i := 179) rfl))) rfl
theorem tw_1_180 : (Cond.code ({ cls := "StreamChain", name := "wish", desc := "(II)I" } : MethodName) prog_1_method_4_code (5 : Nat) (Option.some ClassFile.FieldType.int)) ∈ WL := WL_of (List.mem_append_right _ (List.mem_append_left _ (List.mem_of_getElem? (i := 180) rfl))) rfl
theorem tw_1_181 : (Cond.methodLink "StreamChainLaw" (35 : Nat) ({ cls := "StreamChain", name := "epoch", desc := "()I" } : MethodName)) ∈ WL := WL_of (List.mem_append_right _ (List.mem_append_left _ (List.mem_of_getElem? (i := 181) rfl))) rfl
theorem tw_1_182 : (Cond.instanceMethod ({ cls := "StreamChain", name := "epoch", desc := "()I" } : MethodName)) ∈ WL := WL_of (List.mem_append_right _ (List.mem_append_left _ (List.mem_of_getElem? (i := 182) rfl))) rfl
theorem tw_1_183 : (Cond.selects "StreamChain" ({ cls := "StreamChain", name := "epoch", desc := "()I" } : MethodName) ({ cls := "StreamChain", name := "epoch", desc := "()I" } : MethodName)) ∈ WL := WL_of (List.mem_append_right _ (List.mem_append_left _ (List.mem_of_getElem? (i := 183) rfl))) rfl
theorem tw_1_184 : (Cond.code ({ cls := "StreamChain", name := "epoch", desc := "()I" } : MethodName) prog_1_method_5_code (6 : Nat) (Option.some ClassFile.FieldType.int)) ∈ WL := WL_of (List.mem_append_right _ (List.mem_append_left _ (List.mem_of_getElem? (i := 184) rfl))) rfl
theorem tw_1_185 : (Cond.methodLinkNest "StreamChain" (60 : Nat) ({ cls := "StreamChain$Blocks", name := "haveRoom", desc := "()Z" } : MethodName) "StreamChain") ∈ lw_tbl := List.mem_append_right _ (List.mem_append_left _ (List.mem_of_getElem? (i := 185) rfl))
theorem tw_1_187 : (Cond.instanceMethod ({ cls := "StreamChain$Blocks", name := "haveRoom", desc := "()Z" } : MethodName)) ∈ WL := WL_of (List.mem_append_right _ (List.mem_append_left _ (List.mem_of_getElem? (i := 187) rfl))) rfl
theorem tw_1_188 : (Cond.code ({ cls := "StreamChain$Blocks", name := "haveRoom", desc := "()Z" } : MethodName) prog_2_method_3_code (1 : Nat) (Option.some ClassFile.FieldType.boolean)) ∈ WL := WL_of (List.mem_append_right _ (List.mem_append_left _ (List.mem_of_getElem? (i := 188) rfl))) rfl
theorem tw_1_189 : (Cond.methodLink "StreamChain" (64 : Nat) ({ cls := "StreamChain", name := "makeOnTip", desc := "(LStreamChain$Node;)V" } : MethodName)) ∈ WL := WL_of (List.mem_append_right _ (List.mem_append_left _ (List.mem_of_getElem? (i := 189) rfl))) rfl
theorem tw_1_191 : (Cond.instanceMethod ({ cls := "StreamChain", name := "makeOnTip", desc := "(LStreamChain$Node;)V" } : MethodName)) ∈ WL := WL_of (List.mem_append_right _ (List.mem_append_left _ (List.mem_of_getElem? (i := 191) rfl))) rfl
theorem tw_1_192 : (Cond.code ({ cls := "StreamChain", name := "makeOnTip", desc := "(LStreamChain$Node;)V" } : MethodName) prog_1_method_34_code (4 : Nat) (Option.none : Option ClassFile.FieldType)) ∈ WL := WL_of (List.mem_append_right _ (List.mem_append_left _ (List.mem_of_getElem? (i := 192) rfl))) rfl
theorem tw_1_193 : (Cond.methodLinkNest "StreamChain" (107 : Nat) ({ cls := "StreamChain$Blocks", name := "make", desc := "(IIII)I" } : MethodName) "StreamChain") ∈ lw_tbl := List.mem_append_right _ (List.mem_append_left _ (List.mem_of_getElem? (i := 193) rfl))
theorem tw_1_195 : (Cond.instanceMethod ({ cls := "StreamChain$Blocks", name := "make", desc := "(IIII)I" } : MethodName)) ∈ WL := WL_of (List.mem_append_right _ (List.mem_append_left _ (List.mem_of_getElem? (i := 195) rfl))) rfl
theorem tw_1_196 : (Cond.code ({ cls := "StreamChain$Blocks", name := "make", desc := "(IIII)I" } : MethodName) prog_2_method_5_code (6 : Nat) (Option.some ClassFile.FieldType.int)) ∈ WL := WL_of (List.mem_append_right _ (List.mem_append_left _ (List.mem_of_getElem? (i := 196) rfl))) rfl
theorem tw_1_197 : (Cond.methodLink "StreamChain" (111 : Nat) ({ cls := "StreamChain", name := "takeProposal", desc := "(LStreamChain$Node;I)V" } : MethodName)) ∈ WL := WL_of (List.mem_append_right _ (List.mem_append_left _ (List.mem_of_getElem? (i := 197) rfl))) rfl
theorem tw_1_199 : (Cond.instanceMethod ({ cls := "StreamChain", name := "takeProposal", desc := "(LStreamChain$Node;I)V" } : MethodName)) ∈ WL := WL_of (List.mem_append_right _ (List.mem_append_left _ (List.mem_of_getElem? (i := 199) rfl))) rfl
theorem tw_1_200 : (Cond.code ({ cls := "StreamChain", name := "takeProposal", desc := "(LStreamChain$Node;I)V" } : MethodName) prog_1_method_29_code (3 : Nat) (Option.none : Option ClassFile.FieldType)) ∈ WL := WL_of (List.mem_append_right _ (List.mem_append_left _ (List.mem_of_getElem? (i := 200) rfl))) rfl
theorem tw_1_201 : (Cond.methodLinkNest "StreamChain" (189 : Nat) ({ cls := "StreamChain$Node", name := "haveProposal", desc := "(I)V" } : MethodName) "StreamChain") ∈ lw_tbl := List.mem_append_right _ (List.mem_append_left _ (List.mem_of_getElem? (i := 201) rfl))
theorem tw_1_203 : (Cond.instanceMethod ({ cls := "StreamChain$Node", name := "haveProposal", desc := "(I)V" } : MethodName)) ∈ WL := WL_of (List.mem_append_right _ (List.mem_append_left _ (List.mem_of_getElem? (i := 203) rfl))) rfl
theorem tw_1_204 : (Cond.code ({ cls := "StreamChain$Node", name := "haveProposal", desc := "(I)V" } : MethodName) prog_3_method_4_code (3 : Nat) (Option.none : Option ClassFile.FieldType)) ∈ WL := WL_of (List.mem_append_right _ (List.mem_append_left _ (List.mem_of_getElem? (i := 204) rfl))) rfl
theorem tw_1_205 : (Cond.constantLong "StreamChain$Node" (67 : Nat) (-1 : Int64)) ∈ WL := WL_of (List.mem_append_right _ (List.mem_append_left _ (List.mem_of_getElem? (i := 205) rfl))) rfl
theorem tw_1_206 : (Cond.methodLink "StreamChain$Node" (74 : Nat) ({ cls := "StreamChain$Node", name := "judgeFrom", desc := "(I)V" } : MethodName)) ∈ WL := WL_of (List.mem_append_right _ (List.mem_append_left _ (List.mem_of_getElem? (i := 206) rfl))) rfl
theorem tw_1_208 : (Cond.instanceMethod ({ cls := "StreamChain$Node", name := "judgeFrom", desc := "(I)V" } : MethodName)) ∈ WL := WL_of (List.mem_append_right _ (List.mem_append_left _ (List.mem_of_getElem? (i := 208) rfl))) rfl
theorem tw_1_209 : (Cond.code ({ cls := "StreamChain$Node", name := "judgeFrom", desc := "(I)V" } : MethodName) prog_3_method_6_code (5 : Nat) (Option.none : Option ClassFile.FieldType)) ∈ WL := WL_of (List.mem_append_right _ (List.mem_append_left _ (List.mem_of_getElem? (i := 209) rfl))) rfl
theorem tw_1_210 : (Cond.methodLinkNest "StreamChain$Node" (63 : Nat) ({ cls := "StreamChain", name := "holds", desc := "(JI)Z" } : MethodName) "StreamChain") ∈ lw_tbl := List.mem_append_right _ (List.mem_append_left _ (List.mem_of_getElem? (i := 210) rfl))
theorem tw_1_211 : (Cond.static ({ cls := "StreamChain", name := "holds", desc := "(JI)Z" } : MethodName)) ∈ WL := WL_of (List.mem_append_right _ (List.mem_append_left _ (List.mem_of_getElem? (i := 211) rfl))) rfl
theorem tw_1_212 : (Cond.code ({ cls := "StreamChain", name := "holds", desc := "(JI)Z" } : MethodName) prog_1_method_24_code (3 : Nat) (Option.some ClassFile.FieldType.boolean)) ∈ WL := WL_of (List.mem_append_right _ (List.mem_append_left _ (List.mem_of_getElem? (i := 212) rfl))) rfl
theorem tw_1_213 : (Cond.methodLink "StreamChain$Node" (84 : Nat) ({ cls := "java/lang/Integer", name := "bitCount", desc := "(I)I" } : MethodName)) ∈ WL := WL_of (List.mem_append_right _ (List.mem_append_left _ (List.mem_of_getElem? (i := 213) rfl))) rfl
theorem tw_1_214 : (Cond.static ({ cls := "java/lang/Integer", name := "bitCount", desc := "(I)I" } : MethodName)) ∈ WL := WL_of (List.mem_append_right _ (List.mem_append_left _ (List.mem_of_getElem? (i := 214) rfl))) rfl
theorem tw_1_215 : (Cond.code ({ cls := "java/lang/Integer", name := "bitCount", desc := "(I)I" } : MethodName) prog_6_method_49_code (1 : Nat) (Option.some ClassFile.FieldType.int)) ∈ WL := WL_of (List.mem_append_right _ (List.mem_append_left _ (List.mem_of_getElem? (i := 215) rfl))) rfl
theorem tw_1_216 : (Cond.constant "java/lang/Integer" (265 : Nat) (1431655765 : Int32)) ∈ WL := WL_of (List.mem_append_right _ (List.mem_append_left _ (List.mem_of_getElem? (i := 216) rfl))) rfl
theorem tw_1_217 : (Cond.constant "java/lang/Integer" (266 : Nat) (858993459 : Int32)) ∈ WL := WL_of (List.mem_append_right _ (List.mem_append_left _ (List.mem_of_getElem? (i := 217) rfl))) rfl
theorem tw_1_218 : (Cond.constant "java/lang/Integer" (267 : Nat) (252645135 : Int32)) ∈ WL := WL_of (List.mem_append_right _ (List.mem_append_left _ (List.mem_of_getElem? (i := 218) rfl))) rfl
theorem tw_1_219 : (Cond.methodLink "StreamChain$Node" (90 : Nat) ({ cls := "StreamChain$Node", name := "raiseTip", desc := "(I)V" } : MethodName)) ∈ WL := WL_of (List.mem_append_right _ (List.mem_append_left _ (List.mem_of_getElem? (i := 219) rfl))) rfl
theorem tw_1_221 : (Cond.instanceMethod ({ cls := "StreamChain$Node", name := "raiseTip", desc := "(I)V" } : MethodName)) ∈ WL := WL_of (List.mem_append_right _ (List.mem_append_left _ (List.mem_of_getElem? (i := 221) rfl))) rfl
theorem tw_1_222 : (Cond.code ({ cls := "StreamChain$Node", name := "raiseTip", desc := "(I)V" } : MethodName) prog_3_method_7_code (4 : Nat) (Option.none : Option ClassFile.FieldType)) ∈ WL := WL_of (List.mem_append_right _ (List.mem_append_left _ (List.mem_of_getElem? (i := 222) rfl))) rfl
theorem tw_1_223 : (Cond.methodLink "StreamChain$Node" (93 : Nat) ({ cls := "StreamChain$Node", name := "makeFinalBelow", desc := "(II)V" } : MethodName)) ∈ WL := WL_of (List.mem_append_right _ (List.mem_append_left _ (List.mem_of_getElem? (i := 223) rfl))) rfl
theorem tw_1_225 : (Cond.instanceMethod ({ cls := "StreamChain$Node", name := "makeFinalBelow", desc := "(II)V" } : MethodName)) ∈ WL := WL_of (List.mem_append_right _ (List.mem_append_left _ (List.mem_of_getElem? (i := 225) rfl))) rfl
theorem tw_1_226 : (Cond.code ({ cls := "StreamChain$Node", name := "makeFinalBelow", desc := "(II)V" } : MethodName) prog_3_method_8_code (5 : Nat) (Option.none : Option ClassFile.FieldType)) ∈ WL := WL_of (List.mem_append_right _ (List.mem_append_left _ (List.mem_of_getElem? (i := 226) rfl))) rfl
theorem tw_1_227 : (Cond.methodLink "StreamChain" (193 : Nat) ({ cls := "StreamChain", name := "allNodes", desc := "()I" } : MethodName)) ∈ WL := WL_of (List.mem_append_right _ (List.mem_append_left _ (List.mem_of_getElem? (i := 227) rfl))) rfl
theorem tw_1_229 : (Cond.instanceMethod ({ cls := "StreamChain", name := "allNodes", desc := "()I" } : MethodName)) ∈ WL := WL_of (List.mem_append_right _ (List.mem_append_left _ (List.mem_of_getElem? (i := 229) rfl))) rfl
theorem tw_1_230 : (Cond.code ({ cls := "StreamChain", name := "allNodes", desc := "()I" } : MethodName) prog_1_method_33_code (1 : Nat) (Option.some ClassFile.FieldType.int)) ∈ WL := WL_of (List.mem_append_right _ (List.mem_append_left _ (List.mem_of_getElem? (i := 230) rfl))) rfl
theorem tw_1_231 : (Cond.methodLink "StreamChain" (114 : Nat) ({ cls := "StreamChain", name := "sendProposal", desc := "(II)I" } : MethodName)) ∈ WL := WL_of (List.mem_append_right _ (List.mem_append_left _ (List.mem_of_getElem? (i := 231) rfl))) rfl
theorem tw_1_233 : (Cond.instanceMethod ({ cls := "StreamChain", name := "sendProposal", desc := "(II)I" } : MethodName)) ∈ WL := WL_of (List.mem_append_right _ (List.mem_append_left _ (List.mem_of_getElem? (i := 233) rfl))) rfl
theorem tw_1_234 : (Cond.code ({ cls := "StreamChain", name := "sendProposal", desc := "(II)I" } : MethodName) prog_1_method_31_code (8 : Nat) (Option.some ClassFile.FieldType.int)) ∈ WL := WL_of (List.mem_append_right _ (List.mem_append_left _ (List.mem_of_getElem? (i := 234) rfl))) rfl
theorem tw_1_235 : (Cond.methodLink "StreamChain" (78 : Nat) ({ cls := "StreamChain", name := "holds", desc := "(JI)Z" } : MethodName)) ∈ WL := WL_of (List.mem_append_right _ (List.mem_append_left _ (List.mem_of_getElem? (i := 235) rfl))) rfl
theorem tw_1_236 : (Cond.methodLinkNest "StreamChain" (203 : Nat) ({ cls := "StreamChain$Node", name := "expectProposal", desc := "(I)Z" } : MethodName) "StreamChain") ∈ lw_tbl := List.mem_append_right _ (List.mem_append_left _ (List.mem_of_getElem? (i := 236) rfl))
theorem tw_1_238 : (Cond.instanceMethod ({ cls := "StreamChain$Node", name := "expectProposal", desc := "(I)Z" } : MethodName)) ∈ WL := WL_of (List.mem_append_right _ (List.mem_append_left _ (List.mem_of_getElem? (i := 238) rfl))) rfl
theorem tw_1_239 : (Cond.code ({ cls := "StreamChain$Node", name := "expectProposal", desc := "(I)Z" } : MethodName) prog_3_method_2_code (3 : Nat) (Option.some ClassFile.FieldType.boolean)) ∈ WL := WL_of (List.mem_append_right _ (List.mem_append_left _ (List.mem_of_getElem? (i := 239) rfl))) rfl
theorem tw_2_0 : (Cond.methodLink "StreamChain" (68 : Nat) ({ cls := "StreamChain", name := "look", desc := "(LStreamChain$Node;)V" } : MethodName)) ∈ WL := WL_of (List.mem_append_right _ (List.mem_append_right _ (List.mem_append_left _ (List.mem_of_getElem? (i := 0) rfl)))) rfl
theorem tw_2_2 : (Cond.instanceMethod ({ cls := "StreamChain", name := "look", desc := "(LStreamChain$Node;)V" } : MethodName)) ∈ WL := WL_of (List.mem_append_right _ (List.mem_append_right _ (List.mem_append_left _ (List.mem_of_getElem? (i := 2) rfl)))) rfl
theorem tw_2_3 : (Cond.code ({ cls := "StreamChain", name := "look", desc := "(LStreamChain$Node;)V" } : MethodName) prog_1_method_35_code (3 : Nat) (Option.none : Option ClassFile.FieldType)) ∈ WL := WL_of (List.mem_append_right _ (List.mem_append_right _ (List.mem_append_left _ (List.mem_of_getElem? (i := 3) rfl)))) rfl
theorem tw_2_4 : (Cond.methodLinkNest "StreamChain" (212 : Nat) ({ cls := "StreamChain$Node", name := "choice", desc := "(I)I" } : MethodName) "StreamChain") ∈ lw_tbl := List.mem_append_right _ (List.mem_append_right _ (List.mem_append_left _ (List.mem_of_getElem? (i := 4) rfl)))
theorem tw_2_6 : (Cond.instanceMethod ({ cls := "StreamChain$Node", name := "choice", desc := "(I)I" } : MethodName)) ∈ WL := WL_of (List.mem_append_right _ (List.mem_append_right _ (List.mem_append_left _ (List.mem_of_getElem? (i := 6) rfl)))) rfl
theorem tw_2_7 : (Cond.code ({ cls := "StreamChain$Node", name := "choice", desc := "(I)I" } : MethodName) prog_3_method_9_code (4 : Nat) (Option.some ClassFile.FieldType.int)) ∈ WL := WL_of (List.mem_append_right _ (List.mem_append_right _ (List.mem_append_left _ (List.mem_of_getElem? (i := 7) rfl)))) rfl
theorem tw_2_8 : (Cond.methodLinkNest "StreamChain" (196 : Nat) ({ cls := "StreamChain$Node", name := "haveVote", desc := "(II)V" } : MethodName) "StreamChain") ∈ lw_tbl := List.mem_append_right _ (List.mem_append_right _ (List.mem_append_left _ (List.mem_of_getElem? (i := 8) rfl)))
theorem tw_2_10 : (Cond.instanceMethod ({ cls := "StreamChain$Node", name := "haveVote", desc := "(II)V" } : MethodName)) ∈ WL := WL_of (List.mem_append_right _ (List.mem_append_right _ (List.mem_append_left _ (List.mem_of_getElem? (i := 10) rfl)))) rfl
theorem tw_2_11 : (Cond.code ({ cls := "StreamChain$Node", name := "haveVote", desc := "(II)V" } : MethodName) prog_3_method_5_code (3 : Nat) (Option.none : Option ClassFile.FieldType)) ∈ WL := WL_of (List.mem_append_right _ (List.mem_append_right _ (List.mem_append_left _ (List.mem_of_getElem? (i := 11) rfl)))) rfl
theorem tw_2_12 : (Cond.methodLink "StreamChain" (120 : Nat) ({ cls := "StreamChain", name := "sendVote", desc := "(III)I" } : MethodName)) ∈ WL := WL_of (List.mem_append_right _ (List.mem_append_right _ (List.mem_append_left _ (List.mem_of_getElem? (i := 12) rfl)))) rfl
theorem tw_2_14 : (Cond.instanceMethod ({ cls := "StreamChain", name := "sendVote", desc := "(III)I" } : MethodName)) ∈ WL := WL_of (List.mem_append_right _ (List.mem_append_right _ (List.mem_append_left _ (List.mem_of_getElem? (i := 14) rfl)))) rfl
theorem tw_2_15 : (Cond.code ({ cls := "StreamChain", name := "sendVote", desc := "(III)I" } : MethodName) prog_1_method_32_code (9 : Nat) (Option.some ClassFile.FieldType.int)) ∈ WL := WL_of (List.mem_append_right _ (List.mem_append_right _ (List.mem_append_left _ (List.mem_of_getElem? (i := 15) rfl)))) rfl
theorem tw_2_16 : (Cond.methodLinkNest "StreamChain" (206 : Nat) ({ cls := "StreamChain$Node", name := "expectVote", desc := "(II)Z" } : MethodName) "StreamChain") ∈ lw_tbl := List.mem_append_right _ (List.mem_append_right _ (List.mem_append_left _ (List.mem_of_getElem? (i := 16) rfl)))
theorem tw_2_18 : (Cond.instanceMethod ({ cls := "StreamChain$Node", name := "expectVote", desc := "(II)Z" } : MethodName)) ∈ WL := WL_of (List.mem_append_right _ (List.mem_append_right _ (List.mem_append_left _ (List.mem_of_getElem? (i := 18) rfl)))) rfl
theorem tw_2_19 : (Cond.code ({ cls := "StreamChain$Node", name := "expectVote", desc := "(II)Z" } : MethodName) prog_3_method_3_code (4 : Nat) (Option.some ClassFile.FieldType.boolean)) ∈ WL := WL_of (List.mem_append_right _ (List.mem_append_right _ (List.mem_append_left _ (List.mem_of_getElem? (i := 19) rfl)))) rfl
theorem tw_2_20 : (Cond.methodLink "StreamChainLaw" (40 : Nat) ({ cls := "StreamChain", name := "bring", desc := "(II)I" } : MethodName)) ∈ WL := WL_of (List.mem_append_right _ (List.mem_append_right _ (List.mem_append_left _ (List.mem_of_getElem? (i := 20) rfl)))) rfl
theorem tw_2_21 : (Cond.instanceMethod ({ cls := "StreamChain", name := "bring", desc := "(II)I" } : MethodName)) ∈ WL := WL_of (List.mem_append_right _ (List.mem_append_right _ (List.mem_append_left _ (List.mem_of_getElem? (i := 21) rfl)))) rfl
theorem tw_2_22 : (Cond.selects "StreamChain" ({ cls := "StreamChain", name := "bring", desc := "(II)I" } : MethodName) ({ cls := "StreamChain", name := "bring", desc := "(II)I" } : MethodName)) ∈ WL := WL_of (List.mem_append_right _ (List.mem_append_right _ (List.mem_append_left _ (List.mem_of_getElem? (i := 22) rfl)))) rfl
theorem tw_2_23 : (Cond.code ({ cls := "StreamChain", name := "bring", desc := "(II)I" } : MethodName) prog_1_method_6_code (4 : Nat) (Option.some ClassFile.FieldType.int)) ∈ WL := WL_of (List.mem_append_right _ (List.mem_append_right _ (List.mem_append_left _ (List.mem_of_getElem? (i := 23) rfl)))) rfl
theorem tw_2_24 : (Cond.methodLinkNest "StreamChain" (71 : Nat) ({ cls := "StreamChain$Blocks", name := "exist", desc := "(I)Z" } : MethodName) "StreamChain") ∈ lw_tbl := List.mem_append_right _ (List.mem_append_right _ (List.mem_append_left _ (List.mem_of_getElem? (i := 24) rfl)))
theorem tw_2_26 : (Cond.instanceMethod ({ cls := "StreamChain$Blocks", name := "exist", desc := "(I)Z" } : MethodName)) ∈ WL := WL_of (List.mem_append_right _ (List.mem_append_right _ (List.mem_append_left _ (List.mem_of_getElem? (i := 26) rfl)))) rfl
theorem tw_2_27 : (Cond.code ({ cls := "StreamChain$Blocks", name := "exist", desc := "(I)Z" } : MethodName) prog_2_method_2_code (2 : Nat) (Option.some ClassFile.FieldType.boolean)) ∈ WL := WL_of (List.mem_append_right _ (List.mem_append_right _ (List.mem_append_left _ (List.mem_of_getElem? (i := 27) rfl)))) rfl
theorem tw_2_28 : (Cond.methodLink "StreamChain" (82 : Nat) ({ cls := "StreamChain", name := "letProposalCome", desc := "(LStreamChain$Node;I)V" } : MethodName)) ∈ WL := WL_of (List.mem_append_right _ (List.mem_append_right _ (List.mem_append_left _ (List.mem_of_getElem? (i := 28) rfl)))) rfl
theorem tw_2_30 : (Cond.instanceMethod ({ cls := "StreamChain", name := "letProposalCome", desc := "(LStreamChain$Node;I)V" } : MethodName)) ∈ WL := WL_of (List.mem_append_right _ (List.mem_append_right _ (List.mem_append_left _ (List.mem_of_getElem? (i := 30) rfl)))) rfl
theorem tw_2_31 : (Cond.code ({ cls := "StreamChain", name := "letProposalCome", desc := "(LStreamChain$Node;I)V" } : MethodName) prog_1_method_27_code (3 : Nat) (Option.none : Option ClassFile.FieldType)) ∈ WL := WL_of (List.mem_append_right _ (List.mem_append_right _ (List.mem_append_left _ (List.mem_of_getElem? (i := 31) rfl)))) rfl
theorem tw_2_32 : (Cond.methodLink "StreamChainLaw" (44 : Nat) ({ cls := "StreamChain", name := "bringVote", desc := "(III)I" } : MethodName)) ∈ WL := WL_of (List.mem_append_right _ (List.mem_append_right _ (List.mem_append_left _ (List.mem_of_getElem? (i := 32) rfl)))) rfl
theorem tw_2_33 : (Cond.instanceMethod ({ cls := "StreamChain", name := "bringVote", desc := "(III)I" } : MethodName)) ∈ WL := WL_of (List.mem_append_right _ (List.mem_append_right _ (List.mem_append_left _ (List.mem_of_getElem? (i := 33) rfl)))) rfl
theorem tw_2_34 : (Cond.selects "StreamChain" ({ cls := "StreamChain", name := "bringVote", desc := "(III)I" } : MethodName) ({ cls := "StreamChain", name := "bringVote", desc := "(III)I" } : MethodName)) ∈ WL := WL_of (List.mem_append_right _ (List.mem_append_right _ (List.mem_append_left _ (List.mem_of_getElem? (i := 34) rfl)))) rfl
theorem tw_2_35 : (Cond.code ({ cls := "StreamChain", name := "bringVote", desc := "(III)I" } : MethodName) prog_1_method_7_code (5 : Nat) (Option.some ClassFile.FieldType.int)) ∈ WL := WL_of (List.mem_append_right _ (List.mem_append_right _ (List.mem_append_left _ (List.mem_of_getElem? (i := 35) rfl)))) rfl
theorem tw_2_36 : (Cond.methodLink "StreamChain" (89 : Nat) ({ cls := "StreamChain", name := "letVoteCome", desc := "(LStreamChain$Node;II)V" } : MethodName)) ∈ WL := WL_of (List.mem_append_right _ (List.mem_append_right _ (List.mem_append_left _ (List.mem_of_getElem? (i := 36) rfl)))) rfl
theorem tw_2_38 : (Cond.instanceMethod ({ cls := "StreamChain", name := "letVoteCome", desc := "(LStreamChain$Node;II)V" } : MethodName)) ∈ WL := WL_of (List.mem_append_right _ (List.mem_append_right _ (List.mem_append_left _ (List.mem_of_getElem? (i := 38) rfl)))) rfl
theorem tw_2_39 : (Cond.code ({ cls := "StreamChain", name := "letVoteCome", desc := "(LStreamChain$Node;II)V" } : MethodName) prog_1_method_28_code (4 : Nat) (Option.none : Option ClassFile.FieldType)) ∈ WL := WL_of (List.mem_append_right _ (List.mem_append_right _ (List.mem_append_left _ (List.mem_of_getElem? (i := 39) rfl)))) rfl
theorem tw_2_40 : (Cond.methodLink "StreamChain" (117 : Nat) ({ cls := "StreamChain", name := "takeVote", desc := "(LStreamChain$Node;II)V" } : MethodName)) ∈ WL := WL_of (List.mem_append_right _ (List.mem_append_right _ (List.mem_append_left _ (List.mem_of_getElem? (i := 40) rfl)))) rfl
theorem tw_2_42 : (Cond.instanceMethod ({ cls := "StreamChain", name := "takeVote", desc := "(LStreamChain$Node;II)V" } : MethodName)) ∈ WL := WL_of (List.mem_append_right _ (List.mem_append_right _ (List.mem_append_left _ (List.mem_of_getElem? (i := 42) rfl)))) rfl
theorem tw_2_43 : (Cond.code ({ cls := "StreamChain", name := "takeVote", desc := "(LStreamChain$Node;II)V" } : MethodName) prog_1_method_30_code (4 : Nat) (Option.none : Option ClassFile.FieldType)) ∈ WL := WL_of (List.mem_append_right _ (List.mem_append_right _ (List.mem_append_left _ (List.mem_of_getElem? (i := 43) rfl)))) rfl
theorem tw_2_44 : (Cond.methodLink "StreamChainLaw" (49 : Nat) ({ cls := "StreamChain", name := "flow", desc := "(I)I" } : MethodName)) ∈ WL := WL_of (List.mem_append_right _ (List.mem_append_right _ (List.mem_append_left _ (List.mem_of_getElem? (i := 44) rfl)))) rfl
theorem tw_2_45 : (Cond.instanceMethod ({ cls := "StreamChain", name := "flow", desc := "(I)I" } : MethodName)) ∈ WL := WL_of (List.mem_append_right _ (List.mem_append_right _ (List.mem_append_left _ (List.mem_of_getElem? (i := 45) rfl)))) rfl
theorem tw_2_46 : (Cond.selects "StreamChain" ({ cls := "StreamChain", name := "flow", desc := "(I)I" } : MethodName) ({ cls := "StreamChain", name := "flow", desc := "(I)I" } : MethodName)) ∈ WL := WL_of (List.mem_append_right _ (List.mem_append_right _ (List.mem_append_left _ (List.mem_of_getElem? (i := 46) rfl)))) rfl
theorem tw_2_47 : (Cond.code ({ cls := "StreamChain", name := "flow", desc := "(I)I" } : MethodName) prog_1_method_8_code (3 : Nat) (Option.some ClassFile.FieldType.int)) ∈ WL := WL_of (List.mem_append_right _ (List.mem_append_right _ (List.mem_append_left _ (List.mem_of_getElem? (i := 47) rfl)))) rfl
theorem tw_2_48 : (Cond.methodLink "StreamChain" (93 : Nat) ({ cls := "StreamChain", name := "letAllCome", desc := "(LStreamChain$Node;)I" } : MethodName)) ∈ WL := WL_of (List.mem_append_right _ (List.mem_append_right _ (List.mem_append_left _ (List.mem_of_getElem? (i := 48) rfl)))) rfl
theorem tw_2_50 : (Cond.instanceMethod ({ cls := "StreamChain", name := "letAllCome", desc := "(LStreamChain$Node;)I" } : MethodName)) ∈ WL := WL_of (List.mem_append_right _ (List.mem_append_right _ (List.mem_append_left _ (List.mem_of_getElem? (i := 50) rfl)))) rfl
theorem tw_2_51 : (Cond.code ({ cls := "StreamChain", name := "letAllCome", desc := "(LStreamChain$Node;)I" } : MethodName) prog_1_method_26_code (5 : Nat) (Option.some ClassFile.FieldType.int)) ∈ WL := WL_of (List.mem_append_right _ (List.mem_append_right _ (List.mem_append_left _ (List.mem_of_getElem? (i := 51) rfl)))) rfl
theorem tw_2_52 : (Cond.methodLink "StreamChainLaw" (53 : Nat) ({ cls := "StreamChain", name := "settle", desc := "()I" } : MethodName)) ∈ WL := WL_of (List.mem_append_right _ (List.mem_append_right _ (List.mem_append_left _ (List.mem_of_getElem? (i := 52) rfl)))) rfl
theorem tw_2_53 : (Cond.instanceMethod ({ cls := "StreamChain", name := "settle", desc := "()I" } : MethodName)) ∈ WL := WL_of (List.mem_append_right _ (List.mem_append_right _ (List.mem_append_left _ (List.mem_of_getElem? (i := 53) rfl)))) rfl
theorem tw_2_54 : (Cond.selects "StreamChain" ({ cls := "StreamChain", name := "settle", desc := "()I" } : MethodName) ({ cls := "StreamChain", name := "settle", desc := "()I" } : MethodName)) ∈ WL := WL_of (List.mem_append_right _ (List.mem_append_right _ (List.mem_append_left _ (List.mem_of_getElem? (i := 54) rfl)))) rfl
theorem tw_2_55 : (Cond.code ({ cls := "StreamChain", name := "settle", desc := "()I" } : MethodName) prog_1_method_9_code (7 : Nat) (Option.some ClassFile.FieldType.int)) ∈ WL := WL_of (List.mem_append_right _ (List.mem_append_right _ (List.mem_append_left _ (List.mem_of_getElem? (i := 55) rfl)))) rfl
theorem tw_2_56 : (Cond.methodLink "StreamChain" (100 : Nat) ({ cls := "StreamChain", name := "lettersUnderWay", desc := "()I" } : MethodName)) ∈ WL := WL_of (List.mem_append_right _ (List.mem_append_right _ (List.mem_append_left _ (List.mem_of_getElem? (i := 56) rfl)))) rfl
theorem tw_2_58 : (Cond.instanceMethod ({ cls := "StreamChain", name := "lettersUnderWay", desc := "()I" } : MethodName)) ∈ WL := WL_of (List.mem_append_right _ (List.mem_append_right _ (List.mem_append_left _ (List.mem_of_getElem? (i := 58) rfl)))) rfl
theorem tw_2_59 : (Cond.code ({ cls := "StreamChain", name := "lettersUnderWay", desc := "()I" } : MethodName) prog_1_method_37_code (7 : Nat) (Option.some ClassFile.FieldType.int)) ∈ WL := WL_of (List.mem_append_right _ (List.mem_append_right _ (List.mem_append_left _ (List.mem_of_getElem? (i := 59) rfl)))) rfl
theorem tw_2_60 : (Cond.methodLink "StreamChain" (215 : Nat) ({ cls := "java/lang/Long", name := "bitCount", desc := "(J)I" } : MethodName)) ∈ WL := WL_of (List.mem_append_right _ (List.mem_append_right _ (List.mem_append_left _ (List.mem_of_getElem? (i := 60) rfl)))) rfl
theorem tw_2_61 : (Cond.static ({ cls := "java/lang/Long", name := "bitCount", desc := "(J)I" } : MethodName)) ∈ WL := WL_of (List.mem_append_right _ (List.mem_append_right _ (List.mem_append_left _ (List.mem_of_getElem? (i := 61) rfl)))) rfl
theorem tw_2_62 : (Cond.code ({ cls := "java/lang/Long", name := "bitCount", desc := "(J)I" } : MethodName) prog_7_method_50_code (2 : Nat) (Option.some ClassFile.FieldType.int)) ∈ WL := WL_of (List.mem_append_right _ (List.mem_append_right _ (List.mem_append_left _ (List.mem_of_getElem? (i := 62) rfl)))) rfl
theorem tw_2_63 : (Cond.constantLong "java/lang/Long" (314 : Nat) (6148914691236517205 : Int64)) ∈ WL := WL_of (List.mem_append_right _ (List.mem_append_right _ (List.mem_append_left _ (List.mem_of_getElem? (i := 63) rfl)))) rfl
theorem tw_2_64 : (Cond.constantLong "java/lang/Long" (316 : Nat) (3689348814741910323 : Int64)) ∈ WL := WL_of (List.mem_append_right _ (List.mem_append_right _ (List.mem_append_left _ (List.mem_of_getElem? (i := 64) rfl)))) rfl
theorem tw_2_65 : (Cond.constantLong "java/lang/Long" (318 : Nat) (1085102592571150095 : Int64)) ∈ WL := WL_of (List.mem_append_right _ (List.mem_append_right _ (List.mem_append_left _ (List.mem_of_getElem? (i := 65) rfl)))) rfl
theorem tw_2_66 : (Cond.methodLink "StreamChain" (154 : Nat) ({ cls := "java/lang/Integer", name := "bitCount", desc := "(I)I" } : MethodName)) ∈ WL := WL_of (List.mem_append_right _ (List.mem_append_right _ (List.mem_append_left _ (List.mem_of_getElem? (i := 66) rfl)))) rfl
theorem tw_2_67 : (Cond.methodLink "StreamChainLaw" (57 : Nat) ({ cls := "StreamChain", name := "propose", desc := "(IIIII)I" } : MethodName)) ∈ WL := WL_of (List.mem_append_right _ (List.mem_append_right _ (List.mem_append_left _ (List.mem_of_getElem? (i := 67) rfl)))) rfl
theorem tw_2_68 : (Cond.instanceMethod ({ cls := "StreamChain", name := "propose", desc := "(IIIII)I" } : MethodName)) ∈ WL := WL_of (List.mem_append_right _ (List.mem_append_right _ (List.mem_append_left _ (List.mem_of_getElem? (i := 68) rfl)))) rfl
theorem tw_2_69 : (Cond.selects "StreamChain" ({ cls := "StreamChain", name := "propose", desc := "(IIIII)I" } : MethodName) ({ cls := "StreamChain", name := "propose", desc := "(IIIII)I" } : MethodName)) ∈ WL := WL_of (List.mem_append_right _ (List.mem_append_right _ (List.mem_append_left _ (List.mem_of_getElem? (i := 69) rfl)))) rfl
theorem tw_2_70 : (Cond.code ({ cls := "StreamChain", name := "propose", desc := "(IIIII)I" } : MethodName) prog_1_method_10_code (8 : Nat) (Option.some ClassFile.FieldType.int)) ∈ WL := WL_of (List.mem_append_right _ (List.mem_append_right _ (List.mem_append_left _ (List.mem_of_getElem? (i := 70) rfl)))) rfl
theorem tw_2_71 : (Cond.methodLink "StreamChain" (104 : Nat) ({ cls := "StreamChain", name := "areNodes", desc := "(I)Z" } : MethodName)) ∈ WL := WL_of (List.mem_append_right _ (List.mem_append_right _ (List.mem_append_left _ (List.mem_of_getElem? (i := 71) rfl)))) rfl
theorem tw_2_73 : (Cond.instanceMethod ({ cls := "StreamChain", name := "areNodes", desc := "(I)Z" } : MethodName)) ∈ WL := WL_of (List.mem_append_right _ (List.mem_append_right _ (List.mem_append_left _ (List.mem_of_getElem? (i := 73) rfl)))) rfl
theorem tw_2_74 : (Cond.code ({ cls := "StreamChain", name := "areNodes", desc := "(I)Z" } : MethodName) prog_1_method_22_code (2 : Nat) (Option.some ClassFile.FieldType.boolean)) ∈ WL := WL_of (List.mem_append_right _ (List.mem_append_right _ (List.mem_append_left _ (List.mem_of_getElem? (i := 74) rfl)))) rfl
theorem tw_2_75 : (Cond.methodLink "StreamChainLaw" (62 : Nat) ({ cls := "StreamChain", name := "lie", desc := "(III)I" } : MethodName)) ∈ WL := WL_of (List.mem_append_right _ (List.mem_append_right _ (List.mem_append_left _ (List.mem_of_getElem? (i := 75) rfl)))) rfl
theorem tw_2_76 : (Cond.instanceMethod ({ cls := "StreamChain", name := "lie", desc := "(III)I" } : MethodName)) ∈ WL := WL_of (List.mem_append_right _ (List.mem_append_right _ (List.mem_append_left _ (List.mem_of_getElem? (i := 76) rfl)))) rfl
theorem tw_2_77 : (Cond.selects "StreamChain" ({ cls := "StreamChain", name := "lie", desc := "(III)I" } : MethodName) ({ cls := "StreamChain", name := "lie", desc := "(III)I" } : MethodName)) ∈ WL := WL_of (List.mem_append_right _ (List.mem_append_right _ (List.mem_append_left _ (List.mem_of_getElem? (i := 77) rfl)))) rfl
theorem tw_2_78 : (Cond.code ({ cls := "StreamChain", name := "lie", desc := "(III)I" } : MethodName) prog_1_method_11_code (5 : Nat) (Option.some ClassFile.FieldType.int)) ∈ WL := WL_of (List.mem_append_right _ (List.mem_append_right _ (List.mem_append_left _ (List.mem_of_getElem? (i := 78) rfl)))) rfl
theorem tw_2_79 : (Cond.methodLink "StreamChainLaw" (66 : Nat) ({ cls := "StreamChain", name := "pass", desc := "(III)I" } : MethodName)) ∈ WL := WL_of (List.mem_append_right _ (List.mem_append_right _ (List.mem_append_left _ (List.mem_of_getElem? (i := 79) rfl)))) rfl
theorem tw_2_80 : (Cond.instanceMethod ({ cls := "StreamChain", name := "pass", desc := "(III)I" } : MethodName)) ∈ WL := WL_of (List.mem_append_right _ (List.mem_append_right _ (List.mem_append_left _ (List.mem_of_getElem? (i := 80) rfl)))) rfl
theorem tw_2_81 : (Cond.selects "StreamChain" ({ cls := "StreamChain", name := "pass", desc := "(III)I" } : MethodName) ({ cls := "StreamChain", name := "pass", desc := "(III)I" } : MethodName)) ∈ WL := WL_of (List.mem_append_right _ (List.mem_append_right _ (List.mem_append_left _ (List.mem_of_getElem? (i := 81) rfl)))) rfl
theorem tw_2_82 : (Cond.code ({ cls := "StreamChain", name := "pass", desc := "(III)I" } : MethodName) prog_1_method_12_code (5 : Nat) (Option.some ClassFile.FieldType.int)) ∈ WL := WL_of (List.mem_append_right _ (List.mem_append_right _ (List.mem_append_left _ (List.mem_of_getElem? (i := 82) rfl)))) rfl
theorem tw_2_83 : (Cond.methodLink "StreamChainLaw" (70 : Nat) ({ cls := "StreamChain", name := "about", desc := "(II)I" } : MethodName)) ∈ WL := WL_of (List.mem_append_right _ (List.mem_append_right _ (List.mem_append_left _ (List.mem_of_getElem? (i := 83) rfl)))) rfl
theorem tw_2_84 : (Cond.instanceMethod ({ cls := "StreamChain", name := "about", desc := "(II)I" } : MethodName)) ∈ WL := WL_of (List.mem_append_right _ (List.mem_append_right _ (List.mem_append_left _ (List.mem_of_getElem? (i := 84) rfl)))) rfl
theorem tw_2_85 : (Cond.selects "StreamChain" ({ cls := "StreamChain", name := "about", desc := "(II)I" } : MethodName) ({ cls := "StreamChain", name := "about", desc := "(II)I" } : MethodName)) ∈ WL := WL_of (List.mem_append_right _ (List.mem_append_right _ (List.mem_append_left _ (List.mem_of_getElem? (i := 85) rfl)))) rfl
theorem tw_2_86 : (Cond.code ({ cls := "StreamChain", name := "about", desc := "(II)I" } : MethodName) prog_1_method_13_code (3 : Nat) (Option.some ClassFile.FieldType.int)) ∈ WL := WL_of (List.mem_append_right _ (List.mem_append_right _ (List.mem_append_left _ (List.mem_of_getElem? (i := 86) rfl)))) rfl
theorem tw_2_87 : (Cond.methodLink "StreamChainLaw" (74 : Nat) ({ cls := "StreamChain", name := "seen", desc := "(II)I" } : MethodName)) ∈ WL := WL_of (List.mem_append_right _ (List.mem_append_right _ (List.mem_append_left _ (List.mem_of_getElem? (i := 87) rfl)))) rfl
theorem tw_2_88 : (Cond.instanceMethod ({ cls := "StreamChain", name := "seen", desc := "(II)I" } : MethodName)) ∈ WL := WL_of (List.mem_append_right _ (List.mem_append_right _ (List.mem_append_left _ (List.mem_of_getElem? (i := 88) rfl)))) rfl
theorem tw_2_89 : (Cond.selects "StreamChain" ({ cls := "StreamChain", name := "seen", desc := "(II)I" } : MethodName) ({ cls := "StreamChain", name := "seen", desc := "(II)I" } : MethodName)) ∈ WL := WL_of (List.mem_append_right _ (List.mem_append_right _ (List.mem_append_left _ (List.mem_of_getElem? (i := 89) rfl)))) rfl
theorem tw_2_90 : (Cond.code ({ cls := "StreamChain", name := "seen", desc := "(II)I" } : MethodName) prog_1_method_14_code (4 : Nat) (Option.some ClassFile.FieldType.int)) ∈ WL := WL_of (List.mem_append_right _ (List.mem_append_right _ (List.mem_append_left _ (List.mem_of_getElem? (i := 90) rfl)))) rfl
theorem tw_2_91 : (Cond.methodLink "StreamChainLaw" (78 : Nat) ({ cls := "StreamChain", name := "votes", desc := "(II)I" } : MethodName)) ∈ WL := WL_of (List.mem_append_right _ (List.mem_append_right _ (List.mem_append_left _ (List.mem_of_getElem? (i := 91) rfl)))) rfl
theorem tw_2_92 : (Cond.instanceMethod ({ cls := "StreamChain", name := "votes", desc := "(II)I" } : MethodName)) ∈ WL := WL_of (List.mem_append_right _ (List.mem_append_right _ (List.mem_append_left _ (List.mem_of_getElem? (i := 92) rfl)))) rfl
theorem tw_2_93 : (Cond.selects "StreamChain" ({ cls := "StreamChain", name := "votes", desc := "(II)I" } : MethodName) ({ cls := "StreamChain", name := "votes", desc := "(II)I" } : MethodName)) ∈ WL := WL_of (List.mem_append_right _ (List.mem_append_right _ (List.mem_append_left _ (List.mem_of_getElem? (i := 93) rfl)))) rfl
theorem tw_2_94 : (Cond.code ({ cls := "StreamChain", name := "votes", desc := "(II)I" } : MethodName) prog_1_method_15_code (4 : Nat) (Option.some ClassFile.FieldType.int)) ∈ WL := WL_of (List.mem_append_right _ (List.mem_append_right _ (List.mem_append_left _ (List.mem_of_getElem? (i := 94) rfl)))) rfl
theorem tw_2_95 : (Cond.methodLink "StreamChainLaw" (82 : Nat) ({ cls := "StreamChain", name := "voted", desc := "(II)I" } : MethodName)) ∈ WL := WL_of (List.mem_append_right _ (List.mem_append_right _ (List.mem_append_left _ (List.mem_of_getElem? (i := 95) rfl)))) rfl
theorem tw_2_96 : (Cond.instanceMethod ({ cls := "StreamChain", name := "voted", desc := "(II)I" } : MethodName)) ∈ WL := WL_of (List.mem_append_right _ (List.mem_append_right _ (List.mem_append_left _ (List.mem_of_getElem? (i := 96) rfl)))) rfl
theorem tw_2_97 : (Cond.selects "StreamChain" ({ cls := "StreamChain", name := "voted", desc := "(II)I" } : MethodName) ({ cls := "StreamChain", name := "voted", desc := "(II)I" } : MethodName)) ∈ WL := WL_of (List.mem_append_right _ (List.mem_append_right _ (List.mem_append_left _ (List.mem_of_getElem? (i := 97) rfl)))) rfl
theorem tw_2_98 : (Cond.code ({ cls := "StreamChain", name := "voted", desc := "(II)I" } : MethodName) prog_1_method_16_code (4 : Nat) (Option.some ClassFile.FieldType.int)) ∈ WL := WL_of (List.mem_append_right _ (List.mem_append_right _ (List.mem_append_left _ (List.mem_of_getElem? (i := 98) rfl)))) rfl
theorem tw_2_99 : (Cond.methodLink "StreamChainLaw" (86 : Nat) ({ cls := "StreamChain", name := "reach", desc := "(II)I" } : MethodName)) ∈ WL := WL_of (List.mem_append_right _ (List.mem_append_right _ (List.mem_append_left _ (List.mem_of_getElem? (i := 99) rfl)))) rfl
theorem tw_2_100 : (Cond.instanceMethod ({ cls := "StreamChain", name := "reach", desc := "(II)I" } : MethodName)) ∈ WL := WL_of (List.mem_append_right _ (List.mem_append_right _ (List.mem_append_left _ (List.mem_of_getElem? (i := 100) rfl)))) rfl
theorem tw_2_101 : (Cond.selects "StreamChain" ({ cls := "StreamChain", name := "reach", desc := "(II)I" } : MethodName) ({ cls := "StreamChain", name := "reach", desc := "(II)I" } : MethodName)) ∈ WL := WL_of (List.mem_append_right _ (List.mem_append_right _ (List.mem_append_left _ (List.mem_of_getElem? (i := 101) rfl)))) rfl
theorem tw_2_102 : (Cond.code ({ cls := "StreamChain", name := "reach", desc := "(II)I" } : MethodName) prog_1_method_17_code (4 : Nat) (Option.some ClassFile.FieldType.int)) ∈ WL := WL_of (List.mem_append_right _ (List.mem_append_right _ (List.mem_append_left _ (List.mem_of_getElem? (i := 102) rfl)))) rfl
theorem tw_2_103 : (Cond.methodLink "StreamChainLaw" (90 : Nat) ({ cls := "StreamChain", name := "ledger", desc := "(II)I" } : MethodName)) ∈ WL := WL_of (List.mem_append_right _ (List.mem_append_right _ (List.mem_append_left _ (List.mem_of_getElem? (i := 103) rfl)))) rfl
theorem tw_2_104 : (Cond.instanceMethod ({ cls := "StreamChain", name := "ledger", desc := "(II)I" } : MethodName)) ∈ WL := WL_of (List.mem_append_right _ (List.mem_append_right _ (List.mem_append_left _ (List.mem_of_getElem? (i := 104) rfl)))) rfl
theorem tw_2_105 : (Cond.selects "StreamChain" ({ cls := "StreamChain", name := "ledger", desc := "(II)I" } : MethodName) ({ cls := "StreamChain", name := "ledger", desc := "(II)I" } : MethodName)) ∈ WL := WL_of (List.mem_append_right _ (List.mem_append_right _ (List.mem_append_left _ (List.mem_of_getElem? (i := 105) rfl)))) rfl
theorem tw_2_106 : (Cond.code ({ cls := "StreamChain", name := "ledger", desc := "(II)I" } : MethodName) prog_1_method_18_code (10 : Nat) (Option.some ClassFile.FieldType.int)) ∈ WL := WL_of (List.mem_append_right _ (List.mem_append_right _ (List.mem_append_left _ (List.mem_of_getElem? (i := 106) rfl)))) rfl
theorem tw_2_107 : (Cond.methodLink "StreamChain" (176 : Nat) ({ cls := "StreamChain", name := "wishAt", desc := "(II)I" } : MethodName)) ∈ WL := WL_of (List.mem_append_right _ (List.mem_append_right _ (List.mem_append_left _ (List.mem_of_getElem? (i := 107) rfl)))) rfl
theorem tw_2_108 : (Cond.static ({ cls := "StreamChain", name := "wishAt", desc := "(II)I" } : MethodName)) ∈ WL := WL_of (List.mem_append_right _ (List.mem_append_right _ (List.mem_append_left _ (List.mem_of_getElem? (i := 108) rfl)))) rfl
theorem tw_2_109 : (Cond.code ({ cls := "StreamChain", name := "wishAt", desc := "(II)I" } : MethodName) prog_1_method_25_code (4 : Nat) (Option.some ClassFile.FieldType.int)) ∈ WL := WL_of (List.mem_append_right _ (List.mem_append_right _ (List.mem_append_left _ (List.mem_of_getElem? (i := 109) rfl)))) rfl
theorem tw_2_110 : (Cond.methodLink "StreamChainLaw" (94 : Nat) ({ cls := "StreamChain", name := "agree", desc := "()I" } : MethodName)) ∈ WL := WL_of (List.mem_append_right _ (List.mem_append_right _ (List.mem_append_left _ (List.mem_of_getElem? (i := 110) rfl)))) rfl
theorem tw_2_111 : (Cond.instanceMethod ({ cls := "StreamChain", name := "agree", desc := "()I" } : MethodName)) ∈ WL := WL_of (List.mem_append_right _ (List.mem_append_right _ (List.mem_append_left _ (List.mem_of_getElem? (i := 111) rfl)))) rfl
theorem tw_2_112 : (Cond.selects "StreamChain" ({ cls := "StreamChain", name := "agree", desc := "()I" } : MethodName) ({ cls := "StreamChain", name := "agree", desc := "()I" } : MethodName)) ∈ WL := WL_of (List.mem_append_right _ (List.mem_append_right _ (List.mem_append_left _ (List.mem_of_getElem? (i := 112) rfl)))) rfl
theorem tw_2_113 : (Cond.code ({ cls := "StreamChain", name := "agree", desc := "()I" } : MethodName) prog_1_method_19_code (9 : Nat) (Option.some ClassFile.FieldType.int)) ∈ WL := WL_of (List.mem_append_right _ (List.mem_append_right _ (List.mem_append_left _ (List.mem_of_getElem? (i := 113) rfl)))) rfl
theorem tw_2_114 : (Cond.methodLink "StreamChain" (179 : Nat) ({ cls := "StreamChain", name := "areInLine", desc := "(II)Z" } : MethodName)) ∈ WL := WL_of (List.mem_append_right _ (List.mem_append_right _ (List.mem_append_left _ (List.mem_of_getElem? (i := 114) rfl)))) rfl
theorem tw_2_116 : (Cond.instanceMethod ({ cls := "StreamChain", name := "areInLine", desc := "(II)Z" } : MethodName)) ∈ WL := WL_of (List.mem_append_right _ (List.mem_append_right _ (List.mem_append_left _ (List.mem_of_getElem? (i := 116) rfl)))) rfl
theorem tw_2_117 : (Cond.code ({ cls := "StreamChain", name := "areInLine", desc := "(II)Z" } : MethodName) prog_1_method_38_code (3 : Nat) (Option.some ClassFile.FieldType.boolean)) ∈ WL := WL_of (List.mem_append_right _ (List.mem_append_right _ (List.mem_append_left _ (List.mem_of_getElem? (i := 117) rfl)))) rfl
theorem tw_2_118 : (Cond.methodLink "StreamChainLaw" (98 : Nat) ({ cls := "StreamChain", name := "count", desc := "(I)I" } : MethodName)) ∈ WL := WL_of (List.mem_append_right _ (List.mem_append_right _ (List.mem_append_left _ (List.mem_of_getElem? (i := 118) rfl)))) rfl
theorem tw_2_119 : (Cond.instanceMethod ({ cls := "StreamChain", name := "count", desc := "(I)I" } : MethodName)) ∈ WL := WL_of (List.mem_append_right _ (List.mem_append_right _ (List.mem_append_left _ (List.mem_of_getElem? (i := 119) rfl)))) rfl
theorem tw_2_120 : (Cond.selects "StreamChain" ({ cls := "StreamChain", name := "count", desc := "(I)I" } : MethodName) ({ cls := "StreamChain", name := "count", desc := "(I)I" } : MethodName)) ∈ WL := WL_of (List.mem_append_right _ (List.mem_append_right _ (List.mem_append_left _ (List.mem_of_getElem? (i := 120) rfl)))) rfl
theorem tw_2_121 : (Cond.code ({ cls := "StreamChain", name := "count", desc := "(I)I" } : MethodName) prog_1_method_20_code (2 : Nat) (Option.some ClassFile.FieldType.int)) ∈ WL := WL_of (List.mem_append_right _ (List.mem_append_right _ (List.mem_append_left _ (List.mem_of_getElem? (i := 121) rfl)))) rfl
theorem tw_2_122 : (Cond.methodLink "StreamChain" (183 : Nat) ({ cls := "StreamChain", name := "falseNodes", desc := "()I" } : MethodName)) ∈ WL := WL_of (List.mem_append_right _ (List.mem_append_right _ (List.mem_append_left _ (List.mem_of_getElem? (i := 122) rfl)))) rfl
theorem tw_2_124 : (Cond.instanceMethod ({ cls := "StreamChain", name := "falseNodes", desc := "()I" } : MethodName)) ∈ WL := WL_of (List.mem_append_right _ (List.mem_append_right _ (List.mem_append_left _ (List.mem_of_getElem? (i := 124) rfl)))) rfl
theorem tw_2_125 : (Cond.code ({ cls := "StreamChain", name := "falseNodes", desc := "()I" } : MethodName) prog_1_method_36_code (6 : Nat) (Option.some ClassFile.FieldType.int)) ∈ WL := WL_of (List.mem_append_right _ (List.mem_append_right _ (List.mem_append_left _ (List.mem_of_getElem? (i := 125) rfl)))) rfl
theorem tw_2_126 : (Cond.methodLink "StreamChainLaw" (9 : Nat) ({ cls := "StreamChainLaw", name := "cell", desc := "([II)I" } : MethodName)) ∈ WL := WL_of (List.mem_append_right _ (List.mem_append_right _ (List.mem_append_left _ (List.mem_of_getElem? (i := 126) rfl)))) rfl
theorem tw_2_127 : (Cond.static ({ cls := "StreamChainLaw", name := "cell", desc := "([II)I" } : MethodName)) ∈ WL := WL_of (List.mem_append_right _ (List.mem_append_right _ (List.mem_append_left _ (List.mem_of_getElem? (i := 127) rfl)))) rfl
theorem tw_2_128 : (Cond.code ({ cls := "StreamChainLaw", name := "cell", desc := "([II)I" } : MethodName) method_2_code (2 : Nat) (Option.some ClassFile.FieldType.int)) ∈ WL := WL_of (List.mem_append_right _ (List.mem_append_right _ (List.mem_append_left _ (List.mem_of_getElem? (i := 128) rfl)))) rfl
theorem tw_2_129 : (Cond.classLink "StreamChainLaw" (18 : Nat) "StreamChainModel") ∈ WL := WL_of (List.mem_append_right _ (List.mem_append_right _ (List.mem_append_left _ (List.mem_of_getElem? (i := 129) rfl)))) rfl
theorem tw_2_130 : (Cond.instantiable "StreamChainModel" (27 : Nat)) ∈ WL := WL_of (List.mem_append_right _ (List.mem_append_right _ (List.mem_append_left _ (List.mem_of_getElem? (i := 130) rfl)))) rfl
theorem tw_2_131 : (Cond.methodLink "StreamChainLaw" (20 : Nat) ({ cls := "StreamChainModel", name := "<init>", desc := "(I)V" } : MethodName)) ∈ WL := WL_of (List.mem_append_right _ (List.mem_append_right _ (List.mem_append_left _ (List.mem_of_getElem? (i := 131) rfl)))) rfl
theorem tw_2_132 : (Cond.instanceMethod ({ cls := "StreamChainModel", name := "<init>", desc := "(I)V" } : MethodName)) ∈ WL := WL_of (List.mem_append_right _ (List.mem_append_right _ (List.mem_append_left _ (List.mem_of_getElem? (i := 132) rfl)))) rfl
theorem tw_2_133 : (Cond.code ({ cls := "StreamChainModel", name := "<init>", desc := "(I)V" } : MethodName) prog_5_method_3_code (3 : Nat) (Option.none : Option ClassFile.FieldType)) ∈ WL := WL_of (List.mem_append_right _ (List.mem_append_right _ (List.mem_append_left _ (List.mem_of_getElem? (i := 133) rfl)))) rfl
theorem tw_2_134 : (Cond.methodLink "StreamChainModel" (7 : Nat) ({ cls := "java/lang/Object", name := "<init>", desc := "()V" } : MethodName)) ∈ WL := WL_of (List.mem_append_right _ (List.mem_append_right _ (List.mem_append_left _ (List.mem_of_getElem? (i := 134) rfl)))) rfl
theorem tw_2_135 : (Cond.fieldLink "StreamChainModel" (1 : Nat) "StreamChainModel" "thrown" "I") ∈ WL := WL_of (List.mem_append_right _ (List.mem_append_right _ (List.mem_append_left _ (List.mem_of_getElem? (i := 135) rfl)))) rfl
theorem tw_2_136 : (Cond.fieldLink "StreamChainModel" (69 : Nat) "StreamChainModel" "n" "I") ∈ WL := WL_of (List.mem_append_right _ (List.mem_append_right _ (List.mem_append_left _ (List.mem_of_getElem? (i := 136) rfl)))) rfl
theorem tw_2_137 : (Cond.fieldLink "StreamChainModel" (13 : Nat) "StreamChainModel" "isFalse" "[Z") ∈ WL := WL_of (List.mem_append_right _ (List.mem_append_right _ (List.mem_append_left _ (List.mem_of_getElem? (i := 137) rfl)))) rfl
theorem tw_2_138 : (Cond.fieldLink "StreamChainModel" (17 : Nat) "StreamChainModel" "wishes" "[I") ∈ WL := WL_of (List.mem_append_right _ (List.mem_append_right _ (List.mem_append_left _ (List.mem_of_getElem? (i := 138) rfl)))) rfl
theorem tw_2_139 : (Cond.fieldLink "StreamChainModel" (21 : Nat) "StreamChainModel" "leader" "[I") ∈ WL := WL_of (List.mem_append_right _ (List.mem_append_right _ (List.mem_append_left _ (List.mem_of_getElem? (i := 139) rfl)))) rfl
theorem tw_2_140 : (Cond.fieldLink "StreamChainModel" (85 : Nat) "StreamChainModel" "present" "I") ∈ WL := WL_of (List.mem_append_right _ (List.mem_append_right _ (List.mem_append_left _ (List.mem_of_getElem? (i := 140) rfl)))) rfl
theorem tw_2_141 : (Cond.fieldLink "StreamChainModel" (24 : Nat) "StreamChainModel" "blocks" "I") ∈ WL := WL_of (List.mem_append_right _ (List.mem_append_right _ (List.mem_append_left _ (List.mem_of_getElem? (i := 141) rfl)))) rfl
theorem tw_2_142 : (Cond.fieldLink "StreamChainModel" (27 : Nat) "StreamChainModel" "parent" "[I") ∈ WL := WL_of (List.mem_append_right _ (List.mem_append_right _ (List.mem_append_left _ (List.mem_of_getElem? (i := 142) rfl)))) rfl
theorem tw_2_143 : (Cond.fieldLink "StreamChainModel" (30 : Nat) "StreamChainModel" "epochOf" "[I") ∈ WL := WL_of (List.mem_append_right _ (List.mem_append_right _ (List.mem_append_left _ (List.mem_of_getElem? (i := 143) rfl)))) rfl
theorem tw_2_144 : (Cond.fieldLink "StreamChainModel" (33 : Nat) "StreamChainModel" "load" "[I") ∈ WL := WL_of (List.mem_append_right _ (List.mem_append_right _ (List.mem_append_left _ (List.mem_of_getElem? (i := 144) rfl)))) rfl
theorem tw_2_145 : (Cond.fieldLink "StreamChainModel" (36 : Nat) "StreamChainModel" "height" "[I") ∈ WL := WL_of (List.mem_append_right _ (List.mem_append_right _ (List.mem_append_left _ (List.mem_of_getElem? (i := 145) rfl)))) rfl
theorem tw_2_146 : (Cond.fieldLink "StreamChainModel" (39 : Nat) "StreamChainModel" "maker" "[I") ∈ WL := WL_of (List.mem_append_right _ (List.mem_append_right _ (List.mem_append_left _ (List.mem_of_getElem? (i := 146) rfl)))) rfl
theorem tw_2_147 : (Cond.fieldLink "StreamChainModel" (42 : Nat) "StreamChainModel" "has" "[Z") ∈ WL := WL_of (List.mem_append_right _ (List.mem_append_right _ (List.mem_append_left _ (List.mem_of_getElem? (i := 147) rfl)))) rfl
theorem tw_2_148 : (Cond.fieldLink "StreamChainModel" (45 : Nat) "StreamChainModel" "isWay" "[Z") ∈ WL := WL_of (List.mem_append_right _ (List.mem_append_right _ (List.mem_append_left _ (List.mem_of_getElem? (i := 148) rfl)))) rfl
theorem tw_2_149 : (Cond.fieldLink "StreamChainModel" (48 : Nat) "StreamChainModel" "cameAt" "[I") ∈ WL := WL_of (List.mem_append_right _ (List.mem_append_right _ (List.mem_append_left _ (List.mem_of_getElem? (i := 149) rfl)))) rfl
theorem tw_2_150 : (Cond.fieldLink "StreamChainModel" (106 : Nat) "StreamChainModel" "came" "I") ∈ WL := WL_of (List.mem_append_right _ (List.mem_append_right _ (List.mem_append_left _ (List.mem_of_getElem? (i := 150) rfl)))) rfl
theorem tw_2_151 : (Cond.fieldLink "StreamChainModel" (127 : Nat) "StreamChainModel" "arrived" "I") ∈ WL := WL_of (List.mem_append_right _ (List.mem_append_right _ (List.mem_append_left _ (List.mem_of_getElem? (i := 151) rfl)))) rfl
theorem tw_2_152 : (Cond.fieldLink "StreamChainModel" (51 : Nat) "StreamChainModel" "vote" "[I") ∈ WL := WL_of (List.mem_append_right _ (List.mem_append_right _ (List.mem_append_left _ (List.mem_of_getElem? (i := 152) rfl)))) rfl
theorem tw_2_153 : (Cond.fieldLink "StreamChainModel" (113 : Nat) "StreamChainModel" "given" "I") ∈ WL := WL_of (List.mem_append_right _ (List.mem_append_right _ (List.mem_append_left _ (List.mem_of_getElem? (i := 153) rfl)))) rfl
theorem tw_2_154 : (Cond.fieldLink "StreamChainModel" (54 : Nat) "StreamChainModel" "isKnown" "[Z") ∈ WL := WL_of (List.mem_append_right _ (List.mem_append_right _ (List.mem_append_left _ (List.mem_of_getElem? (i := 154) rfl)))) rfl
theorem tw_2_155 : (Cond.fieldLink "StreamChainModel" (57 : Nat) "StreamChainModel" "isNotarized" "[Z") ∈ WL := WL_of (List.mem_append_right _ (List.mem_append_right _ (List.mem_append_left _ (List.mem_of_getElem? (i := 155) rfl)))) rfl
theorem tw_2_156 : (Cond.fieldLink "StreamChainModel" (60 : Nat) "StreamChainModel" "isFinal" "[Z") ∈ WL := WL_of (List.mem_append_right _ (List.mem_append_right _ (List.mem_append_left _ (List.mem_of_getElem? (i := 156) rfl)))) rfl
theorem tw_2_157 : (Cond.fieldLink "StreamChainModel" (94 : Nat) "StreamChainModel" "reach" "I") ∈ WL := WL_of (List.mem_append_right _ (List.mem_append_right _ (List.mem_append_left _ (List.mem_of_getElem? (i := 157) rfl)))) rfl
theorem tw_2_158 : (Cond.fieldLink "StreamChainModel" (97 : Nat) "StreamChainModel" "tip" "I") ∈ WL := WL_of (List.mem_append_right _ (List.mem_append_right _ (List.mem_append_left _ (List.mem_of_getElem? (i := 158) rfl)))) rfl
theorem tw_2_159 : (Cond.fieldLink "StreamChainModel" (103 : Nat) "StreamChainModel" "highest" "I") ∈ WL := WL_of (List.mem_append_right _ (List.mem_append_right _ (List.mem_append_left _ (List.mem_of_getElem? (i := 159) rfl)))) rfl
theorem tw_2_160 : (Cond.fieldLink "StreamChainModel" (63 : Nat) "StreamChainModel" "isToCome" "[Z") ∈ WL := WL_of (List.mem_append_right _ (List.mem_append_right _ (List.mem_append_left _ (List.mem_of_getElem? (i := 160) rfl)))) rfl
theorem tw_2_161 : (Cond.fieldLink "StreamChainModel" (66 : Nat) "StreamChainModel" "chain" "[I") ∈ WL := WL_of (List.mem_append_right _ (List.mem_append_right _ (List.mem_append_left _ (List.mem_of_getElem? (i := 161) rfl)))) rfl
theorem tw_2_162 : (Cond.lays "StreamChainModel" "StreamChainModel" "thrown" "I") ∈ WL := WL_of (List.mem_append_right _ (List.mem_append_right _ (List.mem_append_left _ (List.mem_of_getElem? (i := 162) rfl)))) rfl
theorem tw_2_164 : (Cond.laysFinal "StreamChainModel" "StreamChainModel" "n" "I") ∈ WL := WL_of (List.mem_append_right _ (List.mem_append_right _ (List.mem_append_left _ (List.mem_of_getElem? (i := 164) rfl)))) rfl
theorem tw_2_166 : (Cond.laysFinal "StreamChainModel" "StreamChainModel" "isFalse" "[Z") ∈ WL := WL_of (List.mem_append_right _ (List.mem_append_right _ (List.mem_append_left _ (List.mem_of_getElem? (i := 166) rfl)))) rfl
theorem tw_2_168 : (Cond.laysFinal "StreamChainModel" "StreamChainModel" "wishes" "[I") ∈ WL := WL_of (List.mem_append_right _ (List.mem_append_right _ (List.mem_append_left _ (List.mem_of_getElem? (i := 168) rfl)))) rfl
theorem tw_2_170 : (Cond.laysFinal "StreamChainModel" "StreamChainModel" "leader" "[I") ∈ WL := WL_of (List.mem_append_right _ (List.mem_append_right _ (List.mem_append_left _ (List.mem_of_getElem? (i := 170) rfl)))) rfl
theorem tw_2_172 : (Cond.lays "StreamChainModel" "StreamChainModel" "present" "I") ∈ WL := WL_of (List.mem_append_right _ (List.mem_append_right _ (List.mem_append_left _ (List.mem_of_getElem? (i := 172) rfl)))) rfl
theorem tw_2_174 : (Cond.lays "StreamChainModel" "StreamChainModel" "blocks" "I") ∈ WL := WL_of (List.mem_append_right _ (List.mem_append_right _ (List.mem_append_left _ (List.mem_of_getElem? (i := 174) rfl)))) rfl
theorem tw_2_176 : (Cond.laysFinal "StreamChainModel" "StreamChainModel" "parent" "[I") ∈ WL := WL_of (List.mem_append_right _ (List.mem_append_right _ (List.mem_append_left _ (List.mem_of_getElem? (i := 176) rfl)))) rfl
theorem tw_2_178 : (Cond.laysFinal "StreamChainModel" "StreamChainModel" "epochOf" "[I") ∈ WL := WL_of (List.mem_append_right _ (List.mem_append_right _ (List.mem_append_left _ (List.mem_of_getElem? (i := 178) rfl)))) rfl
theorem tw_2_180 : (Cond.laysFinal "StreamChainModel" "StreamChainModel" "load" "[I") ∈ WL := WL_of (List.mem_append_right _ (List.mem_append_right _ (List.mem_append_left _ (List.mem_of_getElem? (i := 180) rfl)))) rfl
theorem tw_2_182 : (Cond.laysFinal "StreamChainModel" "StreamChainModel" "height" "[I") ∈ WL := WL_of (List.mem_append_right _ (List.mem_append_right _ (List.mem_append_left _ (List.mem_of_getElem? (i := 182) rfl)))) rfl
theorem tw_2_184 : (Cond.laysFinal "StreamChainModel" "StreamChainModel" "maker" "[I") ∈ WL := WL_of (List.mem_append_right _ (List.mem_append_right _ (List.mem_append_left _ (List.mem_of_getElem? (i := 184) rfl)))) rfl
theorem tw_2_186 : (Cond.laysFinal "StreamChainModel" "StreamChainModel" "has" "[Z") ∈ WL := WL_of (List.mem_append_right _ (List.mem_append_right _ (List.mem_append_left _ (List.mem_of_getElem? (i := 186) rfl)))) rfl
theorem tw_2_188 : (Cond.laysFinal "StreamChainModel" "StreamChainModel" "isWay" "[Z") ∈ WL := WL_of (List.mem_append_right _ (List.mem_append_right _ (List.mem_append_left _ (List.mem_of_getElem? (i := 188) rfl)))) rfl
theorem tw_2_190 : (Cond.laysFinal "StreamChainModel" "StreamChainModel" "cameAt" "[I") ∈ WL := WL_of (List.mem_append_right _ (List.mem_append_right _ (List.mem_append_left _ (List.mem_of_getElem? (i := 190) rfl)))) rfl
theorem tw_2_192 : (Cond.lays "StreamChainModel" "StreamChainModel" "came" "I") ∈ WL := WL_of (List.mem_append_right _ (List.mem_append_right _ (List.mem_append_left _ (List.mem_of_getElem? (i := 192) rfl)))) rfl
theorem tw_2_194 : (Cond.lays "StreamChainModel" "StreamChainModel" "arrived" "I") ∈ WL := WL_of (List.mem_append_right _ (List.mem_append_right _ (List.mem_append_left _ (List.mem_of_getElem? (i := 194) rfl)))) rfl
theorem tw_2_196 : (Cond.laysFinal "StreamChainModel" "StreamChainModel" "vote" "[I") ∈ WL := WL_of (List.mem_append_right _ (List.mem_append_right _ (List.mem_append_left _ (List.mem_of_getElem? (i := 196) rfl)))) rfl
theorem tw_2_198 : (Cond.lays "StreamChainModel" "StreamChainModel" "given" "I") ∈ WL := WL_of (List.mem_append_right _ (List.mem_append_right _ (List.mem_append_left _ (List.mem_of_getElem? (i := 198) rfl)))) rfl
theorem tw_2_200 : (Cond.laysFinal "StreamChainModel" "StreamChainModel" "isKnown" "[Z") ∈ WL := WL_of (List.mem_append_right _ (List.mem_append_right _ (List.mem_append_left _ (List.mem_of_getElem? (i := 200) rfl)))) rfl
theorem tw_2_202 : (Cond.laysFinal "StreamChainModel" "StreamChainModel" "isNotarized" "[Z") ∈ WL := WL_of (List.mem_append_right _ (List.mem_append_right _ (List.mem_append_left _ (List.mem_of_getElem? (i := 202) rfl)))) rfl
theorem tw_2_204 : (Cond.laysFinal "StreamChainModel" "StreamChainModel" "isFinal" "[Z") ∈ WL := WL_of (List.mem_append_right _ (List.mem_append_right _ (List.mem_append_left _ (List.mem_of_getElem? (i := 204) rfl)))) rfl
theorem tw_2_206 : (Cond.lays "StreamChainModel" "StreamChainModel" "reach" "I") ∈ WL := WL_of (List.mem_append_right _ (List.mem_append_right _ (List.mem_append_left _ (List.mem_of_getElem? (i := 206) rfl)))) rfl
theorem tw_2_208 : (Cond.lays "StreamChainModel" "StreamChainModel" "tip" "I") ∈ WL := WL_of (List.mem_append_right _ (List.mem_append_right _ (List.mem_append_left _ (List.mem_of_getElem? (i := 208) rfl)))) rfl
theorem tw_2_210 : (Cond.lays "StreamChainModel" "StreamChainModel" "highest" "I") ∈ WL := WL_of (List.mem_append_right _ (List.mem_append_right _ (List.mem_append_left _ (List.mem_of_getElem? (i := 210) rfl)))) rfl
theorem tw_2_212 : (Cond.laysFinal "StreamChainModel" "StreamChainModel" "isToCome" "[Z") ∈ WL := WL_of (List.mem_append_right _ (List.mem_append_right _ (List.mem_append_left _ (List.mem_of_getElem? (i := 212) rfl)))) rfl
theorem tw_2_214 : (Cond.laysFinal "StreamChainModel" "StreamChainModel" "chain" "[I") ∈ WL := WL_of (List.mem_append_right _ (List.mem_append_right _ (List.mem_append_left _ (List.mem_of_getElem? (i := 214) rfl)))) rfl
theorem tw_2_217 : (Cond.arrayClass ClassFile.FieldType.boolean) ∈ WL := WL_of (List.mem_append_right _ (List.mem_append_right _ (List.mem_append_left _ (List.mem_of_getElem? (i := 217) rfl)))) rfl
theorem tw_2_218 : (Cond.methodLink "StreamChainLaw" (25 : Nat) ({ cls := "StreamChainModel", name := "lead", desc := "(II)I" } : MethodName)) ∈ WL := WL_of (List.mem_append_right _ (List.mem_append_right _ (List.mem_append_left _ (List.mem_of_getElem? (i := 218) rfl)))) rfl
theorem tw_2_219 : (Cond.instanceMethod ({ cls := "StreamChainModel", name := "lead", desc := "(II)I" } : MethodName)) ∈ WL := WL_of (List.mem_append_right _ (List.mem_append_right _ (List.mem_append_left _ (List.mem_of_getElem? (i := 219) rfl)))) rfl
theorem tw_2_220 : (Cond.selects "StreamChainModel" ({ cls := "StreamChainModel", name := "lead", desc := "(II)I" } : MethodName) ({ cls := "StreamChainModel", name := "lead", desc := "(II)I" } : MethodName)) ∈ WL := WL_of (List.mem_append_right _ (List.mem_append_right _ (List.mem_append_left _ (List.mem_of_getElem? (i := 220) rfl)))) rfl
theorem tw_2_221 : (Cond.code ({ cls := "StreamChainModel", name := "lead", desc := "(II)I" } : MethodName) prog_5_method_8_code (5 : Nat) (Option.some ClassFile.FieldType.int)) ∈ WL := WL_of (List.mem_append_right _ (List.mem_append_right _ (List.mem_append_left _ (List.mem_of_getElem? (i := 221) rfl)))) rfl
theorem tw_2_222 : (Cond.methodLink "StreamChainModel" (78 : Nat) ({ cls := "StreamChainModel", name := "isEpoch", desc := "(I)Z" } : MethodName)) ∈ WL := WL_of (List.mem_append_right _ (List.mem_append_right _ (List.mem_append_left _ (List.mem_of_getElem? (i := 222) rfl)))) rfl
theorem tw_2_223 : (Cond.static ({ cls := "StreamChainModel", name := "isEpoch", desc := "(I)Z" } : MethodName)) ∈ WL := WL_of (List.mem_append_right _ (List.mem_append_right _ (List.mem_append_left _ (List.mem_of_getElem? (i := 223) rfl)))) rfl
theorem tw_2_224 : (Cond.code ({ cls := "StreamChainModel", name := "isEpoch", desc := "(I)Z" } : MethodName) prog_5_method_6_code (1 : Nat) (Option.some ClassFile.FieldType.boolean)) ∈ WL := WL_of (List.mem_append_right _ (List.mem_append_right _ (List.mem_append_left _ (List.mem_of_getElem? (i := 224) rfl)))) rfl
theorem tw_2_225 : (Cond.constantLong "StreamChainModel" (76 : Nat) (40 : Int64)) ∈ WL := WL_of (List.mem_append_right _ (List.mem_append_right _ (List.mem_append_left _ (List.mem_of_getElem? (i := 225) rfl)))) rfl
theorem tw_2_226 : (Cond.methodLink "StreamChainModel" (72 : Nat) ({ cls := "StreamChainModel", name := "in", desc := "(JJJ)Z" } : MethodName)) ∈ WL := WL_of (List.mem_append_right _ (List.mem_append_right _ (List.mem_append_left _ (List.mem_of_getElem? (i := 226) rfl)))) rfl
theorem tw_2_227 : (Cond.static ({ cls := "StreamChainModel", name := "in", desc := "(JJJ)Z" } : MethodName)) ∈ WL := WL_of (List.mem_append_right _ (List.mem_append_right _ (List.mem_append_left _ (List.mem_of_getElem? (i := 227) rfl)))) rfl
theorem tw_2_228 : (Cond.code ({ cls := "StreamChainModel", name := "in", desc := "(JJJ)Z" } : MethodName) prog_5_method_2_code (6 : Nat) (Option.some ClassFile.FieldType.boolean)) ∈ WL := WL_of (List.mem_append_right _ (List.mem_append_right _ (List.mem_append_left _ (List.mem_of_getElem? (i := 228) rfl)))) rfl
theorem tw_2_229 : (Cond.methodLink "StreamChainModel" (82 : Nat) ({ cls := "StreamChainModel", name := "isNode", desc := "(I)Z" } : MethodName)) ∈ WL := WL_of (List.mem_append_right _ (List.mem_append_right _ (List.mem_append_left _ (List.mem_of_getElem? (i := 229) rfl)))) rfl
theorem tw_2_231 : (Cond.instanceMethod ({ cls := "StreamChainModel", name := "isNode", desc := "(I)Z" } : MethodName)) ∈ WL := WL_of (List.mem_append_right _ (List.mem_append_right _ (List.mem_append_left _ (List.mem_of_getElem? (i := 231) rfl)))) rfl
theorem tw_2_232 : (Cond.code ({ cls := "StreamChainModel", name := "isNode", desc := "(I)Z" } : MethodName) prog_5_method_4_code (2 : Nat) (Option.some ClassFile.FieldType.boolean)) ∈ WL := WL_of (List.mem_append_right _ (List.mem_append_right _ (List.mem_append_left _ (List.mem_of_getElem? (i := 232) rfl)))) rfl
theorem tw_2_233 : (Cond.methodLink "StreamChainLaw" (30 : Nat) ({ cls := "StreamChainModel", name := "fall", desc := "(I)I" } : MethodName)) ∈ WL := WL_of (List.mem_append_right _ (List.mem_append_right _ (List.mem_append_left _ (List.mem_of_getElem? (i := 233) rfl)))) rfl
theorem tw_2_234 : (Cond.instanceMethod ({ cls := "StreamChainModel", name := "fall", desc := "(I)I" } : MethodName)) ∈ WL := WL_of (List.mem_append_right _ (List.mem_append_right _ (List.mem_append_left _ (List.mem_of_getElem? (i := 234) rfl)))) rfl
theorem tw_2_235 : (Cond.selects "StreamChainModel" ({ cls := "StreamChainModel", name := "fall", desc := "(I)I" } : MethodName) ({ cls := "StreamChainModel", name := "fall", desc := "(I)I" } : MethodName)) ∈ WL := WL_of (List.mem_append_right _ (List.mem_append_right _ (List.mem_append_left _ (List.mem_of_getElem? (i := 235) rfl)))) rfl
theorem tw_2_236 : (Cond.code ({ cls := "StreamChainModel", name := "fall", desc := "(I)I" } : MethodName) prog_5_method_9_code (3 : Nat) (Option.some ClassFile.FieldType.int)) ∈ WL := WL_of (List.mem_append_right _ (List.mem_append_right _ (List.mem_append_left _ (List.mem_of_getElem? (i := 236) rfl)))) rfl
theorem tw_2_237 : (Cond.methodLink "StreamChainLaw" (34 : Nat) ({ cls := "StreamChainModel", name := "wish", desc := "(II)I" } : MethodName)) ∈ WL := WL_of (List.mem_append_right _ (List.mem_append_right _ (List.mem_append_left _ (List.mem_of_getElem? (i := 237) rfl)))) rfl
theorem tw_2_238 : (Cond.instanceMethod ({ cls := "StreamChainModel", name := "wish", desc := "(II)I" } : MethodName)) ∈ WL := WL_of (List.mem_append_right _ (List.mem_append_right _ (List.mem_append_left _ (List.mem_of_getElem? (i := 238) rfl)))) rfl
theorem tw_2_239 : (Cond.selects "StreamChainModel" ({ cls := "StreamChainModel", name := "wish", desc := "(II)I" } : MethodName) ({ cls := "StreamChainModel", name := "wish", desc := "(II)I" } : MethodName)) ∈ WL := WL_of (List.mem_append_right _ (List.mem_append_right _ (List.mem_append_left _ (List.mem_of_getElem? (i := 239) rfl)))) rfl
theorem tw_3_0 : (Cond.code ({ cls := "StreamChainModel", name := "wish", desc := "(II)I" } : MethodName) prog_5_method_10_code (4 : Nat) (Option.some ClassFile.FieldType.int)) ∈ WL := WL_of (List.mem_append_right _ (List.mem_append_right _ (List.mem_append_right _ (List.mem_of_getElem? (i := 0) rfl)))) rfl
theorem tw_3_1 : (Cond.constantLong "StreamChainModel" (88 : Nat) (31 : Int64)) ∈ WL := WL_of (List.mem_append_right _ (List.mem_append_right _ (List.mem_append_right _ (List.mem_of_getElem? (i := 1) rfl)))) rfl
theorem tw_3_2 : (Cond.methodLink "StreamChainLaw" (39 : Nat) ({ cls := "StreamChainModel", name := "epoch", desc := "()I" } : MethodName)) ∈ WL := WL_of (List.mem_append_right _ (List.mem_append_right _ (List.mem_append_right _ (List.mem_of_getElem? (i := 2) rfl)))) rfl
theorem tw_3_3 : (Cond.instanceMethod ({ cls := "StreamChainModel", name := "epoch", desc := "()I" } : MethodName)) ∈ WL := WL_of (List.mem_append_right _ (List.mem_append_right _ (List.mem_append_right _ (List.mem_of_getElem? (i := 3) rfl)))) rfl
theorem tw_3_4 : (Cond.selects "StreamChainModel" ({ cls := "StreamChainModel", name := "epoch", desc := "()I" } : MethodName) ({ cls := "StreamChainModel", name := "epoch", desc := "()I" } : MethodName)) ∈ WL := WL_of (List.mem_append_right _ (List.mem_append_right _ (List.mem_append_right _ (List.mem_of_getElem? (i := 4) rfl)))) rfl
theorem tw_3_5 : (Cond.code ({ cls := "StreamChainModel", name := "epoch", desc := "()I" } : MethodName) prog_5_method_16_code (4 : Nat) (Option.some ClassFile.FieldType.int)) ∈ WL := WL_of (List.mem_append_right _ (List.mem_append_right _ (List.mem_append_right _ (List.mem_of_getElem? (i := 5) rfl)))) rfl
theorem tw_3_6 : (Cond.methodLink "StreamChainModel" (109 : Nat) ({ cls := "StreamChainModel", name := "workOut", desc := "(I)V" } : MethodName)) ∈ WL := WL_of (List.mem_append_right _ (List.mem_append_right _ (List.mem_append_right _ (List.mem_of_getElem? (i := 6) rfl)))) rfl
theorem tw_3_8 : (Cond.instanceMethod ({ cls := "StreamChainModel", name := "workOut", desc := "(I)V" } : MethodName)) ∈ WL := WL_of (List.mem_append_right _ (List.mem_append_right _ (List.mem_append_right _ (List.mem_of_getElem? (i := 8) rfl)))) rfl
theorem tw_3_9 : (Cond.code ({ cls := "StreamChainModel", name := "workOut", desc := "(I)V" } : MethodName) prog_5_method_12_code (6 : Nat) (Option.none : Option ClassFile.FieldType)) ∈ WL := WL_of (List.mem_append_right _ (List.mem_append_right _ (List.mem_append_right _ (List.mem_of_getElem? (i := 9) rfl)))) rfl
theorem tw_3_10 : (Cond.methodLink "StreamChainModel" (90 : Nat) ({ cls := "StreamChainModel", name := "letter", desc := "(II)I" } : MethodName)) ∈ WL := WL_of (List.mem_append_right _ (List.mem_append_right _ (List.mem_append_right _ (List.mem_of_getElem? (i := 10) rfl)))) rfl
theorem tw_3_11 : (Cond.static ({ cls := "StreamChainModel", name := "letter", desc := "(II)I" } : MethodName)) ∈ WL := WL_of (List.mem_append_right _ (List.mem_append_right _ (List.mem_append_right _ (List.mem_of_getElem? (i := 11) rfl)))) rfl
theorem tw_3_12 : (Cond.code ({ cls := "StreamChainModel", name := "letter", desc := "(II)I" } : MethodName) prog_5_method_7_code (2 : Nat) (Option.some ClassFile.FieldType.int)) ∈ WL := WL_of (List.mem_append_right _ (List.mem_append_right _ (List.mem_append_right _ (List.mem_of_getElem? (i := 12) rfl)))) rfl
theorem tw_3_13 : (Cond.methodLink "StreamChainModel" (100 : Nat) ({ cls := "StreamChainModel", name := "votesOf", desc := "(II)I" } : MethodName)) ∈ WL := WL_of (List.mem_append_right _ (List.mem_append_right _ (List.mem_append_right _ (List.mem_of_getElem? (i := 13) rfl)))) rfl
theorem tw_3_15 : (Cond.instanceMethod ({ cls := "StreamChainModel", name := "votesOf", desc := "(II)I" } : MethodName)) ∈ WL := WL_of (List.mem_append_right _ (List.mem_append_right _ (List.mem_append_right _ (List.mem_of_getElem? (i := 15) rfl)))) rfl
theorem tw_3_16 : (Cond.code ({ cls := "StreamChainModel", name := "votesOf", desc := "(II)I" } : MethodName) prog_5_method_11_code (5 : Nat) (Option.some ClassFile.FieldType.int)) ∈ WL := WL_of (List.mem_append_right _ (List.mem_append_right _ (List.mem_append_right _ (List.mem_of_getElem? (i := 16) rfl)))) rfl
theorem tw_3_17 : (Cond.methodLink "StreamChainModel" (120 : Nat) ({ cls := "StreamChainModel", name := "newBlock", desc := "(IIII)I" } : MethodName)) ∈ WL := WL_of (List.mem_append_right _ (List.mem_append_right _ (List.mem_append_right _ (List.mem_of_getElem? (i := 17) rfl)))) rfl
theorem tw_3_19 : (Cond.instanceMethod ({ cls := "StreamChainModel", name := "newBlock", desc := "(IIII)I" } : MethodName)) ∈ WL := WL_of (List.mem_append_right _ (List.mem_append_right _ (List.mem_append_right _ (List.mem_of_getElem? (i := 19) rfl)))) rfl
theorem tw_3_20 : (Cond.code ({ cls := "StreamChainModel", name := "newBlock", desc := "(IIII)I" } : MethodName) prog_5_method_15_code (6 : Nat) (Option.some ClassFile.FieldType.int)) ∈ WL := WL_of (List.mem_append_right _ (List.mem_append_right _ (List.mem_append_right _ (List.mem_of_getElem? (i := 20) rfl)))) rfl
theorem tw_3_21 : (Cond.methodLink "StreamChainModel" (116 : Nat) ({ cls := "StreamChainModel", name := "gain", desc := "(II)V" } : MethodName)) ∈ WL := WL_of (List.mem_append_right _ (List.mem_append_right _ (List.mem_append_right _ (List.mem_of_getElem? (i := 21) rfl)))) rfl
theorem tw_3_23 : (Cond.instanceMethod ({ cls := "StreamChainModel", name := "gain", desc := "(II)V" } : MethodName)) ∈ WL := WL_of (List.mem_append_right _ (List.mem_append_right _ (List.mem_append_right _ (List.mem_of_getElem? (i := 23) rfl)))) rfl
theorem tw_3_24 : (Cond.code ({ cls := "StreamChainModel", name := "gain", desc := "(II)V" } : MethodName) prog_5_method_13_code (4 : Nat) (Option.none : Option ClassFile.FieldType)) ∈ WL := WL_of (List.mem_append_right _ (List.mem_append_right _ (List.mem_append_right _ (List.mem_of_getElem? (i := 24) rfl)))) rfl
theorem tw_3_25 : (Cond.methodLink "StreamChainModel" (124 : Nat) ({ cls := "StreamChainModel", name := "look", desc := "(I)V" } : MethodName)) ∈ WL := WL_of (List.mem_append_right _ (List.mem_append_right _ (List.mem_append_right _ (List.mem_of_getElem? (i := 25) rfl)))) rfl
theorem tw_3_27 : (Cond.instanceMethod ({ cls := "StreamChainModel", name := "look", desc := "(I)V" } : MethodName)) ∈ WL := WL_of (List.mem_append_right _ (List.mem_append_right _ (List.mem_append_right _ (List.mem_of_getElem? (i := 27) rfl)))) rfl
theorem tw_3_28 : (Cond.code ({ cls := "StreamChainModel", name := "look", desc := "(I)V" } : MethodName) prog_5_method_14_code (4 : Nat) (Option.none : Option ClassFile.FieldType)) ∈ WL := WL_of (List.mem_append_right _ (List.mem_append_right _ (List.mem_append_right _ (List.mem_of_getElem? (i := 28) rfl)))) rfl
theorem tw_3_29 : (Cond.methodLink "StreamChainLaw" (43 : Nat) ({ cls := "StreamChainModel", name := "bring", desc := "(II)I" } : MethodName)) ∈ WL := WL_of (List.mem_append_right _ (List.mem_append_right _ (List.mem_append_right _ (List.mem_of_getElem? (i := 29) rfl)))) rfl
theorem tw_3_30 : (Cond.instanceMethod ({ cls := "StreamChainModel", name := "bring", desc := "(II)I" } : MethodName)) ∈ WL := WL_of (List.mem_append_right _ (List.mem_append_right _ (List.mem_append_right _ (List.mem_of_getElem? (i := 30) rfl)))) rfl
theorem tw_3_31 : (Cond.selects "StreamChainModel" ({ cls := "StreamChainModel", name := "bring", desc := "(II)I" } : MethodName) ({ cls := "StreamChainModel", name := "bring", desc := "(II)I" } : MethodName)) ∈ WL := WL_of (List.mem_append_right _ (List.mem_append_right _ (List.mem_append_right _ (List.mem_of_getElem? (i := 31) rfl)))) rfl
theorem tw_3_32 : (Cond.code ({ cls := "StreamChainModel", name := "bring", desc := "(II)I" } : MethodName) prog_5_method_18_code (3 : Nat) (Option.some ClassFile.FieldType.int)) ∈ WL := WL_of (List.mem_append_right _ (List.mem_append_right _ (List.mem_append_right _ (List.mem_of_getElem? (i := 32) rfl)))) rfl
theorem tw_3_33 : (Cond.methodLink "StreamChainModel" (130 : Nat) ({ cls := "StreamChainModel", name := "isBlock", desc := "(I)Z" } : MethodName)) ∈ WL := WL_of (List.mem_append_right _ (List.mem_append_right _ (List.mem_append_right _ (List.mem_of_getElem? (i := 33) rfl)))) rfl
theorem tw_3_35 : (Cond.instanceMethod ({ cls := "StreamChainModel", name := "isBlock", desc := "(I)Z" } : MethodName)) ∈ WL := WL_of (List.mem_append_right _ (List.mem_append_right _ (List.mem_append_right _ (List.mem_of_getElem? (i := 35) rfl)))) rfl
theorem tw_3_36 : (Cond.code ({ cls := "StreamChainModel", name := "isBlock", desc := "(I)Z" } : MethodName) prog_5_method_5_code (2 : Nat) (Option.some ClassFile.FieldType.boolean)) ∈ WL := WL_of (List.mem_append_right _ (List.mem_append_right _ (List.mem_append_right _ (List.mem_of_getElem? (i := 36) rfl)))) rfl
theorem tw_3_37 : (Cond.methodLink "StreamChainModel" (133 : Nat) ({ cls := "StreamChainModel", name := "comes", desc := "(II)V" } : MethodName)) ∈ WL := WL_of (List.mem_append_right _ (List.mem_append_right _ (List.mem_append_right _ (List.mem_of_getElem? (i := 37) rfl)))) rfl
theorem tw_3_39 : (Cond.instanceMethod ({ cls := "StreamChainModel", name := "comes", desc := "(II)V" } : MethodName)) ∈ WL := WL_of (List.mem_append_right _ (List.mem_append_right _ (List.mem_append_right _ (List.mem_of_getElem? (i := 39) rfl)))) rfl
theorem tw_3_40 : (Cond.code ({ cls := "StreamChainModel", name := "comes", desc := "(II)V" } : MethodName) prog_5_method_17_code (3 : Nat) (Option.none : Option ClassFile.FieldType)) ∈ WL := WL_of (List.mem_append_right _ (List.mem_append_right _ (List.mem_append_right _ (List.mem_of_getElem? (i := 40) rfl)))) rfl
theorem tw_3_41 : (Cond.methodLink "StreamChainLaw" (48 : Nat) ({ cls := "StreamChainModel", name := "bringVote", desc := "(III)I" } : MethodName)) ∈ WL := WL_of (List.mem_append_right _ (List.mem_append_right _ (List.mem_append_right _ (List.mem_of_getElem? (i := 41) rfl)))) rfl
theorem tw_3_42 : (Cond.instanceMethod ({ cls := "StreamChainModel", name := "bringVote", desc := "(III)I" } : MethodName)) ∈ WL := WL_of (List.mem_append_right _ (List.mem_append_right _ (List.mem_append_right _ (List.mem_of_getElem? (i := 42) rfl)))) rfl
theorem tw_3_43 : (Cond.selects "StreamChainModel" ({ cls := "StreamChainModel", name := "bringVote", desc := "(III)I" } : MethodName) ({ cls := "StreamChainModel", name := "bringVote", desc := "(III)I" } : MethodName)) ∈ WL := WL_of (List.mem_append_right _ (List.mem_append_right _ (List.mem_append_right _ (List.mem_of_getElem? (i := 43) rfl)))) rfl
theorem tw_3_44 : (Cond.code ({ cls := "StreamChainModel", name := "bringVote", desc := "(III)I" } : MethodName) prog_5_method_19_code (4 : Nat) (Option.some ClassFile.FieldType.int)) ∈ WL := WL_of (List.mem_append_right _ (List.mem_append_right _ (List.mem_append_right _ (List.mem_of_getElem? (i := 44) rfl)))) rfl
theorem tw_3_45 : (Cond.methodLink "StreamChainLaw" (52 : Nat) ({ cls := "StreamChainModel", name := "flow", desc := "(I)I" } : MethodName)) ∈ WL := WL_of (List.mem_append_right _ (List.mem_append_right _ (List.mem_append_right _ (List.mem_of_getElem? (i := 45) rfl)))) rfl
theorem tw_3_46 : (Cond.instanceMethod ({ cls := "StreamChainModel", name := "flow", desc := "(I)I" } : MethodName)) ∈ WL := WL_of (List.mem_append_right _ (List.mem_append_right _ (List.mem_append_right _ (List.mem_of_getElem? (i := 46) rfl)))) rfl
theorem tw_3_47 : (Cond.selects "StreamChainModel" ({ cls := "StreamChainModel", name := "flow", desc := "(I)I" } : MethodName) ({ cls := "StreamChainModel", name := "flow", desc := "(I)I" } : MethodName)) ∈ WL := WL_of (List.mem_append_right _ (List.mem_append_right _ (List.mem_append_right _ (List.mem_of_getElem? (i := 47) rfl)))) rfl
theorem tw_3_48 : (Cond.code ({ cls := "StreamChainModel", name := "flow", desc := "(I)I" } : MethodName) prog_5_method_21_code (2 : Nat) (Option.some ClassFile.FieldType.int)) ∈ WL := WL_of (List.mem_append_right _ (List.mem_append_right _ (List.mem_append_right _ (List.mem_of_getElem? (i := 48) rfl)))) rfl
theorem tw_3_49 : (Cond.methodLink "StreamChainModel" (136 : Nat) ({ cls := "StreamChainModel", name := "flowTo", desc := "(I)I" } : MethodName)) ∈ WL := WL_of (List.mem_append_right _ (List.mem_append_right _ (List.mem_append_right _ (List.mem_of_getElem? (i := 49) rfl)))) rfl
theorem tw_3_51 : (Cond.instanceMethod ({ cls := "StreamChainModel", name := "flowTo", desc := "(I)I" } : MethodName)) ∈ WL := WL_of (List.mem_append_right _ (List.mem_append_right _ (List.mem_append_right _ (List.mem_of_getElem? (i := 51) rfl)))) rfl
theorem tw_3_52 : (Cond.code ({ cls := "StreamChainModel", name := "flowTo", desc := "(I)I" } : MethodName) prog_5_method_20_code (4 : Nat) (Option.some ClassFile.FieldType.int)) ∈ WL := WL_of (List.mem_append_right _ (List.mem_append_right _ (List.mem_append_right _ (List.mem_of_getElem? (i := 52) rfl)))) rfl
theorem tw_3_53 : (Cond.methodLink "StreamChainLaw" (56 : Nat) ({ cls := "StreamChainModel", name := "settle", desc := "()I" } : MethodName)) ∈ WL := WL_of (List.mem_append_right _ (List.mem_append_right _ (List.mem_append_right _ (List.mem_of_getElem? (i := 53) rfl)))) rfl
theorem tw_3_54 : (Cond.instanceMethod ({ cls := "StreamChainModel", name := "settle", desc := "()I" } : MethodName)) ∈ WL := WL_of (List.mem_append_right _ (List.mem_append_right _ (List.mem_append_right _ (List.mem_of_getElem? (i := 54) rfl)))) rfl
theorem tw_3_55 : (Cond.selects "StreamChainModel" ({ cls := "StreamChainModel", name := "settle", desc := "()I" } : MethodName) ({ cls := "StreamChainModel", name := "settle", desc := "()I" } : MethodName)) ∈ WL := WL_of (List.mem_append_right _ (List.mem_append_right _ (List.mem_append_right _ (List.mem_of_getElem? (i := 55) rfl)))) rfl
theorem tw_3_56 : (Cond.code ({ cls := "StreamChainModel", name := "settle", desc := "()I" } : MethodName) prog_5_method_22_code (5 : Nat) (Option.some ClassFile.FieldType.int)) ∈ WL := WL_of (List.mem_append_right _ (List.mem_append_right _ (List.mem_append_right _ (List.mem_of_getElem? (i := 56) rfl)))) rfl
theorem tw_3_57 : (Cond.methodLink "StreamChainLaw" (61 : Nat) ({ cls := "StreamChainModel", name := "propose", desc := "(IIIII)I" } : MethodName)) ∈ WL := WL_of (List.mem_append_right _ (List.mem_append_right _ (List.mem_append_right _ (List.mem_of_getElem? (i := 57) rfl)))) rfl
theorem tw_3_58 : (Cond.instanceMethod ({ cls := "StreamChainModel", name := "propose", desc := "(IIIII)I" } : MethodName)) ∈ WL := WL_of (List.mem_append_right _ (List.mem_append_right _ (List.mem_append_right _ (List.mem_of_getElem? (i := 58) rfl)))) rfl
theorem tw_3_59 : (Cond.selects "StreamChainModel" ({ cls := "StreamChainModel", name := "propose", desc := "(IIIII)I" } : MethodName) ({ cls := "StreamChainModel", name := "propose", desc := "(IIIII)I" } : MethodName)) ∈ WL := WL_of (List.mem_append_right _ (List.mem_append_right _ (List.mem_append_right _ (List.mem_of_getElem? (i := 59) rfl)))) rfl
theorem tw_3_60 : (Cond.code ({ cls := "StreamChainModel", name := "propose", desc := "(IIIII)I" } : MethodName) prog_5_method_25_code (8 : Nat) (Option.some ClassFile.FieldType.int)) ∈ WL := WL_of (List.mem_append_right _ (List.mem_append_right _ (List.mem_append_right _ (List.mem_of_getElem? (i := 60) rfl)))) rfl
theorem tw_3_61 : (Cond.methodLink "StreamChainModel" (140 : Nat) ({ cls := "StreamChainModel", name := "isTo", desc := "(I)Z" } : MethodName)) ∈ WL := WL_of (List.mem_append_right _ (List.mem_append_right _ (List.mem_append_right _ (List.mem_of_getElem? (i := 61) rfl)))) rfl
theorem tw_3_63 : (Cond.instanceMethod ({ cls := "StreamChainModel", name := "isTo", desc := "(I)Z" } : MethodName)) ∈ WL := WL_of (List.mem_append_right _ (List.mem_append_right _ (List.mem_append_right _ (List.mem_of_getElem? (i := 63) rfl)))) rfl
theorem tw_3_64 : (Cond.code ({ cls := "StreamChainModel", name := "isTo", desc := "(I)Z" } : MethodName) prog_5_method_23_code (2 : Nat) (Option.some ClassFile.FieldType.boolean)) ∈ WL := WL_of (List.mem_append_right _ (List.mem_append_right _ (List.mem_append_right _ (List.mem_of_getElem? (i := 64) rfl)))) rfl
theorem tw_3_65 : (Cond.methodLink "StreamChainModel" (143 : Nat) ({ cls := "StreamChainModel", name := "send", desc := "(II)I" } : MethodName)) ∈ WL := WL_of (List.mem_append_right _ (List.mem_append_right _ (List.mem_append_right _ (List.mem_of_getElem? (i := 65) rfl)))) rfl
theorem tw_3_67 : (Cond.instanceMethod ({ cls := "StreamChainModel", name := "send", desc := "(II)I" } : MethodName)) ∈ WL := WL_of (List.mem_append_right _ (List.mem_append_right _ (List.mem_append_right _ (List.mem_of_getElem? (i := 67) rfl)))) rfl
theorem tw_3_68 : (Cond.code ({ cls := "StreamChainModel", name := "send", desc := "(II)I" } : MethodName) prog_5_method_24_code (5 : Nat) (Option.some ClassFile.FieldType.int)) ∈ WL := WL_of (List.mem_append_right _ (List.mem_append_right _ (List.mem_append_right _ (List.mem_of_getElem? (i := 68) rfl)))) rfl
theorem tw_3_69 : (Cond.methodLink "StreamChainLaw" (65 : Nat) ({ cls := "StreamChainModel", name := "lie", desc := "(III)I" } : MethodName)) ∈ WL := WL_of (List.mem_append_right _ (List.mem_append_right _ (List.mem_append_right _ (List.mem_of_getElem? (i := 69) rfl)))) rfl
theorem tw_3_70 : (Cond.instanceMethod ({ cls := "StreamChainModel", name := "lie", desc := "(III)I" } : MethodName)) ∈ WL := WL_of (List.mem_append_right _ (List.mem_append_right _ (List.mem_append_right _ (List.mem_of_getElem? (i := 70) rfl)))) rfl
theorem tw_3_71 : (Cond.selects "StreamChainModel" ({ cls := "StreamChainModel", name := "lie", desc := "(III)I" } : MethodName) ({ cls := "StreamChainModel", name := "lie", desc := "(III)I" } : MethodName)) ∈ WL := WL_of (List.mem_append_right _ (List.mem_append_right _ (List.mem_append_right _ (List.mem_of_getElem? (i := 71) rfl)))) rfl
theorem tw_3_72 : (Cond.code ({ cls := "StreamChainModel", name := "lie", desc := "(III)I" } : MethodName) prog_5_method_26_code (5 : Nat) (Option.some ClassFile.FieldType.int)) ∈ WL := WL_of (List.mem_append_right _ (List.mem_append_right _ (List.mem_append_right _ (List.mem_of_getElem? (i := 72) rfl)))) rfl
theorem tw_3_73 : (Cond.methodLink "StreamChainLaw" (69 : Nat) ({ cls := "StreamChainModel", name := "pass", desc := "(III)I" } : MethodName)) ∈ WL := WL_of (List.mem_append_right _ (List.mem_append_right _ (List.mem_append_right _ (List.mem_of_getElem? (i := 73) rfl)))) rfl
theorem tw_3_74 : (Cond.instanceMethod ({ cls := "StreamChainModel", name := "pass", desc := "(III)I" } : MethodName)) ∈ WL := WL_of (List.mem_append_right _ (List.mem_append_right _ (List.mem_append_right _ (List.mem_of_getElem? (i := 74) rfl)))) rfl
theorem tw_3_75 : (Cond.selects "StreamChainModel" ({ cls := "StreamChainModel", name := "pass", desc := "(III)I" } : MethodName) ({ cls := "StreamChainModel", name := "pass", desc := "(III)I" } : MethodName)) ∈ WL := WL_of (List.mem_append_right _ (List.mem_append_right _ (List.mem_append_right _ (List.mem_of_getElem? (i := 75) rfl)))) rfl
theorem tw_3_76 : (Cond.code ({ cls := "StreamChainModel", name := "pass", desc := "(III)I" } : MethodName) prog_5_method_27_code (5 : Nat) (Option.some ClassFile.FieldType.int)) ∈ WL := WL_of (List.mem_append_right _ (List.mem_append_right _ (List.mem_append_right _ (List.mem_of_getElem? (i := 76) rfl)))) rfl
theorem tw_3_77 : (Cond.methodLink "StreamChainLaw" (73 : Nat) ({ cls := "StreamChainModel", name := "about", desc := "(II)I" } : MethodName)) ∈ WL := WL_of (List.mem_append_right _ (List.mem_append_right _ (List.mem_append_right _ (List.mem_of_getElem? (i := 77) rfl)))) rfl
theorem tw_3_78 : (Cond.instanceMethod ({ cls := "StreamChainModel", name := "about", desc := "(II)I" } : MethodName)) ∈ WL := WL_of (List.mem_append_right _ (List.mem_append_right _ (List.mem_append_right _ (List.mem_of_getElem? (i := 78) rfl)))) rfl
theorem tw_3_79 : (Cond.selects "StreamChainModel" ({ cls := "StreamChainModel", name := "about", desc := "(II)I" } : MethodName) ({ cls := "StreamChainModel", name := "about", desc := "(II)I" } : MethodName)) ∈ WL := WL_of (List.mem_append_right _ (List.mem_append_right _ (List.mem_append_right _ (List.mem_of_getElem? (i := 79) rfl)))) rfl
theorem tw_3_80 : (Cond.code ({ cls := "StreamChainModel", name := "about", desc := "(II)I" } : MethodName) prog_5_method_28_code (3 : Nat) (Option.some ClassFile.FieldType.int)) ∈ WL := WL_of (List.mem_append_right _ (List.mem_append_right _ (List.mem_append_right _ (List.mem_of_getElem? (i := 80) rfl)))) rfl
theorem tw_3_81 : (Cond.constantLong "StreamChainModel" (146 : Nat) (4 : Int64)) ∈ WL := WL_of (List.mem_append_right _ (List.mem_append_right _ (List.mem_append_right _ (List.mem_of_getElem? (i := 81) rfl)))) rfl
theorem tw_3_82 : (Cond.methodLink "StreamChainLaw" (77 : Nat) ({ cls := "StreamChainModel", name := "seen", desc := "(II)I" } : MethodName)) ∈ WL := WL_of (List.mem_append_right _ (List.mem_append_right _ (List.mem_append_right _ (List.mem_of_getElem? (i := 82) rfl)))) rfl
theorem tw_3_83 : (Cond.instanceMethod ({ cls := "StreamChainModel", name := "seen", desc := "(II)I" } : MethodName)) ∈ WL := WL_of (List.mem_append_right _ (List.mem_append_right _ (List.mem_append_right _ (List.mem_of_getElem? (i := 83) rfl)))) rfl
theorem tw_3_84 : (Cond.selects "StreamChainModel" ({ cls := "StreamChainModel", name := "seen", desc := "(II)I" } : MethodName) ({ cls := "StreamChainModel", name := "seen", desc := "(II)I" } : MethodName)) ∈ WL := WL_of (List.mem_append_right _ (List.mem_append_right _ (List.mem_append_right _ (List.mem_of_getElem? (i := 84) rfl)))) rfl
theorem tw_3_85 : (Cond.code ({ cls := "StreamChainModel", name := "seen", desc := "(II)I" } : MethodName) prog_5_method_29_code (3 : Nat) (Option.some ClassFile.FieldType.int)) ∈ WL := WL_of (List.mem_append_right _ (List.mem_append_right _ (List.mem_append_right _ (List.mem_of_getElem? (i := 85) rfl)))) rfl
theorem tw_3_86 : (Cond.methodLink "StreamChainLaw" (81 : Nat) ({ cls := "StreamChainModel", name := "votes", desc := "(II)I" } : MethodName)) ∈ WL := WL_of (List.mem_append_right _ (List.mem_append_right _ (List.mem_append_right _ (List.mem_of_getElem? (i := 86) rfl)))) rfl
theorem tw_3_87 : (Cond.instanceMethod ({ cls := "StreamChainModel", name := "votes", desc := "(II)I" } : MethodName)) ∈ WL := WL_of (List.mem_append_right _ (List.mem_append_right _ (List.mem_append_right _ (List.mem_of_getElem? (i := 87) rfl)))) rfl
theorem tw_3_88 : (Cond.selects "StreamChainModel" ({ cls := "StreamChainModel", name := "votes", desc := "(II)I" } : MethodName) ({ cls := "StreamChainModel", name := "votes", desc := "(II)I" } : MethodName)) ∈ WL := WL_of (List.mem_append_right _ (List.mem_append_right _ (List.mem_append_right _ (List.mem_of_getElem? (i := 88) rfl)))) rfl
theorem tw_3_89 : (Cond.code ({ cls := "StreamChainModel", name := "votes", desc := "(II)I" } : MethodName) prog_5_method_30_code (3 : Nat) (Option.some ClassFile.FieldType.int)) ∈ WL := WL_of (List.mem_append_right _ (List.mem_append_right _ (List.mem_append_right _ (List.mem_of_getElem? (i := 89) rfl)))) rfl
theorem tw_3_90 : (Cond.methodLink "StreamChainLaw" (85 : Nat) ({ cls := "StreamChainModel", name := "voted", desc := "(II)I" } : MethodName)) ∈ WL := WL_of (List.mem_append_right _ (List.mem_append_right _ (List.mem_append_right _ (List.mem_of_getElem? (i := 90) rfl)))) rfl
theorem tw_3_91 : (Cond.instanceMethod ({ cls := "StreamChainModel", name := "voted", desc := "(II)I" } : MethodName)) ∈ WL := WL_of (List.mem_append_right _ (List.mem_append_right _ (List.mem_append_right _ (List.mem_of_getElem? (i := 91) rfl)))) rfl
theorem tw_3_92 : (Cond.selects "StreamChainModel" ({ cls := "StreamChainModel", name := "voted", desc := "(II)I" } : MethodName) ({ cls := "StreamChainModel", name := "voted", desc := "(II)I" } : MethodName)) ∈ WL := WL_of (List.mem_append_right _ (List.mem_append_right _ (List.mem_append_right _ (List.mem_of_getElem? (i := 92) rfl)))) rfl
theorem tw_3_93 : (Cond.code ({ cls := "StreamChainModel", name := "voted", desc := "(II)I" } : MethodName) prog_5_method_31_code (3 : Nat) (Option.some ClassFile.FieldType.int)) ∈ WL := WL_of (List.mem_append_right _ (List.mem_append_right _ (List.mem_append_right _ (List.mem_of_getElem? (i := 93) rfl)))) rfl
theorem tw_3_94 : (Cond.methodLink "StreamChainLaw" (89 : Nat) ({ cls := "StreamChainModel", name := "reach", desc := "(II)I" } : MethodName)) ∈ WL := WL_of (List.mem_append_right _ (List.mem_append_right _ (List.mem_append_right _ (List.mem_of_getElem? (i := 94) rfl)))) rfl
theorem tw_3_95 : (Cond.instanceMethod ({ cls := "StreamChainModel", name := "reach", desc := "(II)I" } : MethodName)) ∈ WL := WL_of (List.mem_append_right _ (List.mem_append_right _ (List.mem_append_right _ (List.mem_of_getElem? (i := 95) rfl)))) rfl
theorem tw_3_96 : (Cond.selects "StreamChainModel" ({ cls := "StreamChainModel", name := "reach", desc := "(II)I" } : MethodName) ({ cls := "StreamChainModel", name := "reach", desc := "(II)I" } : MethodName)) ∈ WL := WL_of (List.mem_append_right _ (List.mem_append_right _ (List.mem_append_right _ (List.mem_of_getElem? (i := 96) rfl)))) rfl
theorem tw_3_97 : (Cond.code ({ cls := "StreamChainModel", name := "reach", desc := "(II)I" } : MethodName) prog_5_method_32_code (3 : Nat) (Option.some ClassFile.FieldType.int)) ∈ WL := WL_of (List.mem_append_right _ (List.mem_append_right _ (List.mem_append_right _ (List.mem_of_getElem? (i := 97) rfl)))) rfl
theorem tw_3_98 : (Cond.constantLong "StreamChainModel" (148 : Nat) (2 : Int64)) ∈ WL := WL_of (List.mem_append_right _ (List.mem_append_right _ (List.mem_append_right _ (List.mem_of_getElem? (i := 98) rfl)))) rfl
theorem tw_3_99 : (Cond.methodLink "StreamChainLaw" (93 : Nat) ({ cls := "StreamChainModel", name := "ledger", desc := "(II)I" } : MethodName)) ∈ WL := WL_of (List.mem_append_right _ (List.mem_append_right _ (List.mem_append_right _ (List.mem_of_getElem? (i := 99) rfl)))) rfl
theorem tw_3_100 : (Cond.instanceMethod ({ cls := "StreamChainModel", name := "ledger", desc := "(II)I" } : MethodName)) ∈ WL := WL_of (List.mem_append_right _ (List.mem_append_right _ (List.mem_append_right _ (List.mem_of_getElem? (i := 100) rfl)))) rfl
theorem tw_3_101 : (Cond.selects "StreamChainModel" ({ cls := "StreamChainModel", name := "ledger", desc := "(II)I" } : MethodName) ({ cls := "StreamChainModel", name := "ledger", desc := "(II)I" } : MethodName)) ∈ WL := WL_of (List.mem_append_right _ (List.mem_append_right _ (List.mem_append_right _ (List.mem_of_getElem? (i := 101) rfl)))) rfl
theorem tw_3_102 : (Cond.code ({ cls := "StreamChainModel", name := "ledger", desc := "(II)I" } : MethodName) prog_5_method_33_code (9 : Nat) (Option.some ClassFile.FieldType.int)) ∈ WL := WL_of (List.mem_append_right _ (List.mem_append_right _ (List.mem_append_right _ (List.mem_of_getElem? (i := 102) rfl)))) rfl
theorem tw_3_103 : (Cond.methodLink "StreamChainLaw" (97 : Nat) ({ cls := "StreamChainModel", name := "agree", desc := "()I" } : MethodName)) ∈ WL := WL_of (List.mem_append_right _ (List.mem_append_right _ (List.mem_append_right _ (List.mem_of_getElem? (i := 103) rfl)))) rfl
theorem tw_3_104 : (Cond.instanceMethod ({ cls := "StreamChainModel", name := "agree", desc := "()I" } : MethodName)) ∈ WL := WL_of (List.mem_append_right _ (List.mem_append_right _ (List.mem_append_right _ (List.mem_of_getElem? (i := 104) rfl)))) rfl
theorem tw_3_105 : (Cond.selects "StreamChainModel" ({ cls := "StreamChainModel", name := "agree", desc := "()I" } : MethodName) ({ cls := "StreamChainModel", name := "agree", desc := "()I" } : MethodName)) ∈ WL := WL_of (List.mem_append_right _ (List.mem_append_right _ (List.mem_append_right _ (List.mem_of_getElem? (i := 105) rfl)))) rfl
theorem tw_3_106 : (Cond.code ({ cls := "StreamChainModel", name := "agree", desc := "()I" } : MethodName) prog_5_method_35_code (3 : Nat) (Option.some ClassFile.FieldType.int)) ∈ WL := WL_of (List.mem_append_right _ (List.mem_append_right _ (List.mem_append_right _ (List.mem_of_getElem? (i := 106) rfl)))) rfl
theorem tw_3_107 : (Cond.methodLink "StreamChainModel" (150 : Nat) ({ cls := "StreamChainModel", name := "isInChain", desc := "(II)Z" } : MethodName)) ∈ WL := WL_of (List.mem_append_right _ (List.mem_append_right _ (List.mem_append_right _ (List.mem_of_getElem? (i := 107) rfl)))) rfl
theorem tw_3_109 : (Cond.instanceMethod ({ cls := "StreamChainModel", name := "isInChain", desc := "(II)Z" } : MethodName)) ∈ WL := WL_of (List.mem_append_right _ (List.mem_append_right _ (List.mem_append_right _ (List.mem_of_getElem? (i := 109) rfl)))) rfl
theorem tw_3_110 : (Cond.code ({ cls := "StreamChainModel", name := "isInChain", desc := "(II)Z" } : MethodName) prog_5_method_34_code (4 : Nat) (Option.some ClassFile.FieldType.boolean)) ∈ WL := WL_of (List.mem_append_right _ (List.mem_append_right _ (List.mem_append_right _ (List.mem_of_getElem? (i := 110) rfl)))) rfl
theorem tw_3_111 : (Cond.methodLink "StreamChainLaw" (101 : Nat) ({ cls := "StreamChainModel", name := "count", desc := "(I)I" } : MethodName)) ∈ WL := WL_of (List.mem_append_right _ (List.mem_append_right _ (List.mem_append_right _ (List.mem_of_getElem? (i := 111) rfl)))) rfl
theorem tw_3_112 : (Cond.instanceMethod ({ cls := "StreamChainModel", name := "count", desc := "(I)I" } : MethodName)) ∈ WL := WL_of (List.mem_append_right _ (List.mem_append_right _ (List.mem_append_right _ (List.mem_of_getElem? (i := 112) rfl)))) rfl
theorem tw_3_113 : (Cond.selects "StreamChainModel" ({ cls := "StreamChainModel", name := "count", desc := "(I)I" } : MethodName) ({ cls := "StreamChainModel", name := "count", desc := "(I)I" } : MethodName)) ∈ WL := WL_of (List.mem_append_right _ (List.mem_append_right _ (List.mem_append_right _ (List.mem_of_getElem? (i := 113) rfl)))) rfl
theorem tw_3_114 : (Cond.code ({ cls := "StreamChainModel", name := "count", desc := "(I)I" } : MethodName) prog_5_method_36_code (4 : Nat) (Option.some ClassFile.FieldType.int)) ∈ WL := WL_of (List.mem_append_right _ (List.mem_append_right _ (List.mem_append_right _ (List.mem_of_getElem? (i := 114) rfl)))) rfl
theorem tw_0_0 : (Cond.selects "StreamChain" ({ cls := "StreamChain", name := "nodeAt", desc := "(I)LStreamChain$Node;" } : MethodName) ({ cls := "StreamChain", name := "nodeAt", desc := "(I)LStreamChain$Node;" } : MethodName)) ∈ WL := WL_of (List.mem_append_left _ (List.mem_of_getElem? (i := 0) rfl)) rfl
theorem tw_0_1 : (Cond.selects "StreamChain$Blocks" ({ cls := "StreamChain$Blocks", name := "hasOneOf", desc := "(I)Z" } : MethodName) ({ cls := "StreamChain$Blocks", name := "hasOneOf", desc := "(I)Z" } : MethodName)) ∈ WL := WL_of (List.mem_append_left _ (List.mem_of_getElem? (i := 1) rfl)) rfl
theorem tw_0_2 : (Cond.selects "StreamChain$Blocks" ({ cls := "StreamChain$Blocks", name := "haveRoom", desc := "()Z" } : MethodName) ({ cls := "StreamChain$Blocks", name := "haveRoom", desc := "()Z" } : MethodName)) ∈ WL := WL_of (List.mem_append_left _ (List.mem_of_getElem? (i := 2) rfl)) rfl
theorem tw_0_3 : (Cond.selects "StreamChain" ({ cls := "StreamChain", name := "makeOnTip", desc := "(LStreamChain$Node;)V" } : MethodName) ({ cls := "StreamChain", name := "makeOnTip", desc := "(LStreamChain$Node;)V" } : MethodName)) ∈ WL := WL_of (List.mem_append_left _ (List.mem_of_getElem? (i := 3) rfl)) rfl
theorem tw_0_4 : (Cond.selects "StreamChain$Blocks" ({ cls := "StreamChain$Blocks", name := "make", desc := "(IIII)I" } : MethodName) ({ cls := "StreamChain$Blocks", name := "make", desc := "(IIII)I" } : MethodName)) ∈ WL := WL_of (List.mem_append_left _ (List.mem_of_getElem? (i := 4) rfl)) rfl
theorem tw_0_5 : (Cond.selects "StreamChain" ({ cls := "StreamChain", name := "takeProposal", desc := "(LStreamChain$Node;I)V" } : MethodName) ({ cls := "StreamChain", name := "takeProposal", desc := "(LStreamChain$Node;I)V" } : MethodName)) ∈ WL := WL_of (List.mem_append_left _ (List.mem_of_getElem? (i := 5) rfl)) rfl
theorem tw_0_6 : (Cond.selects "StreamChain$Node" ({ cls := "StreamChain$Node", name := "haveProposal", desc := "(I)V" } : MethodName) ({ cls := "StreamChain$Node", name := "haveProposal", desc := "(I)V" } : MethodName)) ∈ WL := WL_of (List.mem_append_left _ (List.mem_of_getElem? (i := 6) rfl)) rfl
theorem tw_0_7 : (Cond.selects "StreamChain$Node" ({ cls := "StreamChain$Node", name := "judgeFrom", desc := "(I)V" } : MethodName) ({ cls := "StreamChain$Node", name := "judgeFrom", desc := "(I)V" } : MethodName)) ∈ WL := WL_of (List.mem_append_left _ (List.mem_of_getElem? (i := 7) rfl)) rfl
theorem tw_0_8 : (Cond.selects "StreamChain$Node" ({ cls := "StreamChain$Node", name := "raiseTip", desc := "(I)V" } : MethodName) ({ cls := "StreamChain$Node", name := "raiseTip", desc := "(I)V" } : MethodName)) ∈ WL := WL_of (List.mem_append_left _ (List.mem_of_getElem? (i := 8) rfl)) rfl
theorem tw_0_9 : (Cond.selects "StreamChain$Node" ({ cls := "StreamChain$Node", name := "makeFinalBelow", desc := "(II)V" } : MethodName) ({ cls := "StreamChain$Node", name := "makeFinalBelow", desc := "(II)V" } : MethodName)) ∈ WL := WL_of (List.mem_append_left _ (List.mem_of_getElem? (i := 9) rfl)) rfl
theorem tw_0_10 : (Cond.selects "StreamChain" ({ cls := "StreamChain", name := "allNodes", desc := "()I" } : MethodName) ({ cls := "StreamChain", name := "allNodes", desc := "()I" } : MethodName)) ∈ WL := WL_of (List.mem_append_left _ (List.mem_of_getElem? (i := 10) rfl)) rfl
theorem tw_0_11 : (Cond.selects "StreamChain" ({ cls := "StreamChain", name := "sendProposal", desc := "(II)I" } : MethodName) ({ cls := "StreamChain", name := "sendProposal", desc := "(II)I" } : MethodName)) ∈ WL := WL_of (List.mem_append_left _ (List.mem_of_getElem? (i := 11) rfl)) rfl
theorem tw_0_12 : (Cond.selects "StreamChain$Node" ({ cls := "StreamChain$Node", name := "expectProposal", desc := "(I)Z" } : MethodName) ({ cls := "StreamChain$Node", name := "expectProposal", desc := "(I)Z" } : MethodName)) ∈ WL := WL_of (List.mem_append_left _ (List.mem_of_getElem? (i := 12) rfl)) rfl
theorem tw_0_13 : (Cond.selects "StreamChain" ({ cls := "StreamChain", name := "look", desc := "(LStreamChain$Node;)V" } : MethodName) ({ cls := "StreamChain", name := "look", desc := "(LStreamChain$Node;)V" } : MethodName)) ∈ WL := WL_of (List.mem_append_left _ (List.mem_of_getElem? (i := 13) rfl)) rfl
theorem tw_0_14 : (Cond.selects "StreamChain$Node" ({ cls := "StreamChain$Node", name := "choice", desc := "(I)I" } : MethodName) ({ cls := "StreamChain$Node", name := "choice", desc := "(I)I" } : MethodName)) ∈ WL := WL_of (List.mem_append_left _ (List.mem_of_getElem? (i := 14) rfl)) rfl
theorem tw_0_15 : (Cond.selects "StreamChain$Node" ({ cls := "StreamChain$Node", name := "haveVote", desc := "(II)V" } : MethodName) ({ cls := "StreamChain$Node", name := "haveVote", desc := "(II)V" } : MethodName)) ∈ WL := WL_of (List.mem_append_left _ (List.mem_of_getElem? (i := 15) rfl)) rfl
theorem tw_0_16 : (Cond.selects "StreamChain" ({ cls := "StreamChain", name := "sendVote", desc := "(III)I" } : MethodName) ({ cls := "StreamChain", name := "sendVote", desc := "(III)I" } : MethodName)) ∈ WL := WL_of (List.mem_append_left _ (List.mem_of_getElem? (i := 16) rfl)) rfl
theorem tw_0_17 : (Cond.selects "StreamChain$Node" ({ cls := "StreamChain$Node", name := "expectVote", desc := "(II)Z" } : MethodName) ({ cls := "StreamChain$Node", name := "expectVote", desc := "(II)Z" } : MethodName)) ∈ WL := WL_of (List.mem_append_left _ (List.mem_of_getElem? (i := 17) rfl)) rfl
theorem tw_0_18 : (Cond.selects "StreamChain$Blocks" ({ cls := "StreamChain$Blocks", name := "exist", desc := "(I)Z" } : MethodName) ({ cls := "StreamChain$Blocks", name := "exist", desc := "(I)Z" } : MethodName)) ∈ WL := WL_of (List.mem_append_left _ (List.mem_of_getElem? (i := 18) rfl)) rfl
theorem tw_0_19 : (Cond.selects "StreamChain" ({ cls := "StreamChain", name := "letProposalCome", desc := "(LStreamChain$Node;I)V" } : MethodName) ({ cls := "StreamChain", name := "letProposalCome", desc := "(LStreamChain$Node;I)V" } : MethodName)) ∈ WL := WL_of (List.mem_append_left _ (List.mem_of_getElem? (i := 19) rfl)) rfl
theorem tw_0_20 : (Cond.selects "StreamChain" ({ cls := "StreamChain", name := "letVoteCome", desc := "(LStreamChain$Node;II)V" } : MethodName) ({ cls := "StreamChain", name := "letVoteCome", desc := "(LStreamChain$Node;II)V" } : MethodName)) ∈ WL := WL_of (List.mem_append_left _ (List.mem_of_getElem? (i := 20) rfl)) rfl
theorem tw_0_21 : (Cond.selects "StreamChain" ({ cls := "StreamChain", name := "takeVote", desc := "(LStreamChain$Node;II)V" } : MethodName) ({ cls := "StreamChain", name := "takeVote", desc := "(LStreamChain$Node;II)V" } : MethodName)) ∈ WL := WL_of (List.mem_append_left _ (List.mem_of_getElem? (i := 21) rfl)) rfl
theorem tw_0_22 : (Cond.selects "StreamChain" ({ cls := "StreamChain", name := "letAllCome", desc := "(LStreamChain$Node;)I" } : MethodName) ({ cls := "StreamChain", name := "letAllCome", desc := "(LStreamChain$Node;)I" } : MethodName)) ∈ WL := WL_of (List.mem_append_left _ (List.mem_of_getElem? (i := 22) rfl)) rfl
theorem tw_0_23 : (Cond.selects "StreamChain" ({ cls := "StreamChain", name := "lettersUnderWay", desc := "()I" } : MethodName) ({ cls := "StreamChain", name := "lettersUnderWay", desc := "()I" } : MethodName)) ∈ WL := WL_of (List.mem_append_left _ (List.mem_of_getElem? (i := 23) rfl)) rfl
theorem tw_0_24 : (Cond.selects "StreamChain" ({ cls := "StreamChain", name := "areNodes", desc := "(I)Z" } : MethodName) ({ cls := "StreamChain", name := "areNodes", desc := "(I)Z" } : MethodName)) ∈ WL := WL_of (List.mem_append_left _ (List.mem_of_getElem? (i := 24) rfl)) rfl
theorem tw_0_25 : (Cond.selects "StreamChain" ({ cls := "StreamChain", name := "areInLine", desc := "(II)Z" } : MethodName) ({ cls := "StreamChain", name := "areInLine", desc := "(II)Z" } : MethodName)) ∈ WL := WL_of (List.mem_append_left _ (List.mem_of_getElem? (i := 25) rfl)) rfl
theorem tw_0_26 : (Cond.selects "StreamChain" ({ cls := "StreamChain", name := "falseNodes", desc := "()I" } : MethodName) ({ cls := "StreamChain", name := "falseNodes", desc := "()I" } : MethodName)) ∈ WL := WL_of (List.mem_append_left _ (List.mem_of_getElem? (i := 26) rfl)) rfl
theorem tw_0_27 : (Cond.selects "StreamChainModel" ({ cls := "StreamChainModel", name := "isNode", desc := "(I)Z" } : MethodName) ({ cls := "StreamChainModel", name := "isNode", desc := "(I)Z" } : MethodName)) ∈ WL := WL_of (List.mem_append_left _ (List.mem_of_getElem? (i := 27) rfl)) rfl
theorem tw_0_28 : (Cond.selects "StreamChainModel" ({ cls := "StreamChainModel", name := "workOut", desc := "(I)V" } : MethodName) ({ cls := "StreamChainModel", name := "workOut", desc := "(I)V" } : MethodName)) ∈ WL := WL_of (List.mem_append_left _ (List.mem_of_getElem? (i := 28) rfl)) rfl
theorem tw_0_29 : (Cond.selects "StreamChainModel" ({ cls := "StreamChainModel", name := "votesOf", desc := "(II)I" } : MethodName) ({ cls := "StreamChainModel", name := "votesOf", desc := "(II)I" } : MethodName)) ∈ WL := WL_of (List.mem_append_left _ (List.mem_of_getElem? (i := 29) rfl)) rfl
theorem tw_0_30 : (Cond.selects "StreamChainModel" ({ cls := "StreamChainModel", name := "newBlock", desc := "(IIII)I" } : MethodName) ({ cls := "StreamChainModel", name := "newBlock", desc := "(IIII)I" } : MethodName)) ∈ WL := WL_of (List.mem_append_left _ (List.mem_of_getElem? (i := 30) rfl)) rfl
theorem tw_0_31 : (Cond.selects "StreamChainModel" ({ cls := "StreamChainModel", name := "gain", desc := "(II)V" } : MethodName) ({ cls := "StreamChainModel", name := "gain", desc := "(II)V" } : MethodName)) ∈ WL := WL_of (List.mem_append_left _ (List.mem_of_getElem? (i := 31) rfl)) rfl
theorem tw_0_32 : (Cond.selects "StreamChainModel" ({ cls := "StreamChainModel", name := "look", desc := "(I)V" } : MethodName) ({ cls := "StreamChainModel", name := "look", desc := "(I)V" } : MethodName)) ∈ WL := WL_of (List.mem_append_left _ (List.mem_of_getElem? (i := 32) rfl)) rfl
theorem tw_0_33 : (Cond.selects "StreamChainModel" ({ cls := "StreamChainModel", name := "isBlock", desc := "(I)Z" } : MethodName) ({ cls := "StreamChainModel", name := "isBlock", desc := "(I)Z" } : MethodName)) ∈ WL := WL_of (List.mem_append_left _ (List.mem_of_getElem? (i := 33) rfl)) rfl
theorem tw_0_34 : (Cond.selects "StreamChainModel" ({ cls := "StreamChainModel", name := "comes", desc := "(II)V" } : MethodName) ({ cls := "StreamChainModel", name := "comes", desc := "(II)V" } : MethodName)) ∈ WL := WL_of (List.mem_append_left _ (List.mem_of_getElem? (i := 34) rfl)) rfl
theorem tw_0_35 : (Cond.selects "StreamChainModel" ({ cls := "StreamChainModel", name := "flowTo", desc := "(I)I" } : MethodName) ({ cls := "StreamChainModel", name := "flowTo", desc := "(I)I" } : MethodName)) ∈ WL := WL_of (List.mem_append_left _ (List.mem_of_getElem? (i := 35) rfl)) rfl
theorem tw_0_36 : (Cond.selects "StreamChainModel" ({ cls := "StreamChainModel", name := "isTo", desc := "(I)Z" } : MethodName) ({ cls := "StreamChainModel", name := "isTo", desc := "(I)Z" } : MethodName)) ∈ WL := WL_of (List.mem_append_left _ (List.mem_of_getElem? (i := 36) rfl)) rfl
theorem tw_0_37 : (Cond.selects "StreamChainModel" ({ cls := "StreamChainModel", name := "send", desc := "(II)I" } : MethodName) ({ cls := "StreamChainModel", name := "send", desc := "(II)I" } : MethodName)) ∈ WL := WL_of (List.mem_append_left _ (List.mem_of_getElem? (i := 37) rfl)) rfl
theorem tw_0_38 : (Cond.selects "StreamChainModel" ({ cls := "StreamChainModel", name := "isInChain", desc := "(II)Z" } : MethodName) ({ cls := "StreamChainModel", name := "isInChain", desc := "(II)Z" } : MethodName)) ∈ WL := WL_of (List.mem_append_left _ (List.mem_of_getElem? (i := 38) rfl)) rfl
/-- links to nest mates: no good words; they ride in a start -/
def nestL : List Cond := [(Cond.methodLinkNest "StreamChain" (20 : Nat) ({ cls := "StreamChain$Blocks", name := "<init>", desc := "()V" } : MethodName) "StreamChain"), (Cond.fieldLinkNest "StreamChain$Node" (81 : Nat) "StreamChain$Blocks" "parent" "[I" "StreamChain"), (Cond.fieldLinkNest "StreamChain" (127 : Nat) "StreamChain$Blocks" "parent" "[I" "StreamChain"), (Cond.fieldLinkNest "StreamChain$Node" (69 : Nat) "StreamChain$Blocks" "epoch" "[I" "StreamChain"), (Cond.fieldLinkNest "StreamChain" (130 : Nat) "StreamChain$Blocks" "epoch" "[I" "StreamChain"), (Cond.fieldLinkNest "StreamChain" (133 : Nat) "StreamChain$Blocks" "load" "[I" "StreamChain"), (Cond.fieldLinkNest "StreamChain$Node" (97 : Nat) "StreamChain$Blocks" "height" "[I" "StreamChain"), (Cond.fieldLinkNest "StreamChain" (136 : Nat) "StreamChain$Blocks" "height" "[I" "StreamChain"), (Cond.fieldLinkNest "StreamChain" (139 : Nat) "StreamChain$Blocks" "maker" "[I" "StreamChain"), (Cond.fieldLinkNest "StreamChain$Node" (100 : Nat) "StreamChain$Blocks" "chain" "[J" "StreamChain"), (Cond.fieldLinkNest "StreamChain" (169 : Nat) "StreamChain$Blocks" "chain" "[J" "StreamChain"), (Cond.fieldLinkNest "StreamChain" (209 : Nat) "StreamChain$Blocks" "chainLoad" "[I" "StreamChain"), (Cond.fieldLinkNest "StreamChain$Node" (78 : Nat) "StreamChain$Blocks" "total" "I" "StreamChain"), (Cond.fieldLinkNest "StreamChain" (173 : Nat) "StreamChain$Blocks" "total" "I" "StreamChain"), (Cond.methodLinkNest "StreamChain" (31 : Nat) ({ cls := "StreamChain$Node", name := "<init>", desc := "(IILStreamChain$Blocks;)V" } : MethodName) "StreamChain"), (Cond.fieldLinkNest "StreamChain" (200 : Nat) "StreamChain$Node" "number" "I" "StreamChain"), (Cond.fieldLinkNest "StreamChain" (53 : Nat) "StreamChain$Node" "isFalse" "Z" "StreamChain"), (Cond.fieldLinkNest "StreamChain" (57 : Nat) "StreamChain$Node" "wishes" "I" "StreamChain"), (Cond.fieldLinkNest "StreamChain" (124 : Nat) "StreamChain$Node" "proposals" "J" "StreamChain"), (Cond.fieldLinkNest "StreamChain" (74 : Nat) "StreamChain$Node" "proposalsUnderWay" "J" "StreamChain"), (Cond.fieldLinkNest "StreamChain" (151 : Nat) "StreamChain$Node" "voters" "[I" "StreamChain"), (Cond.fieldLinkNest "StreamChain" (86 : Nat) "StreamChain$Node" "votersUnderWay" "[I" "StreamChain"), (Cond.fieldLinkNest "StreamChain" (160 : Nat) "StreamChain$Node" "votedFor" "[I" "StreamChain"), (Cond.fieldLinkNest "StreamChain" (148 : Nat) "StreamChain$Node" "known" "J" "StreamChain"), (Cond.fieldLinkNest "StreamChain" (145 : Nat) "StreamChain$Node" "notarized" "J" "StreamChain"), (Cond.fieldLinkNest "StreamChain" (142 : Nat) "StreamChain$Node" "finals" "J" "StreamChain"), (Cond.fieldLinkNest "StreamChain" (163 : Nat) "StreamChain$Node" "tip" "I" "StreamChain"), (Cond.fieldLinkNest "StreamChain" (166 : Nat) "StreamChain$Node" "highestFinal" "I" "StreamChain"), (Cond.methodLinkNest "StreamChain" (50 : Nat) ({ cls := "StreamChain$Blocks", name := "hasOneOf", desc := "(I)Z" } : MethodName) "StreamChain"), (Cond.methodLinkNest "StreamChain" (60 : Nat) ({ cls := "StreamChain$Blocks", name := "haveRoom", desc := "()Z" } : MethodName) "StreamChain"), (Cond.methodLinkNest "StreamChain" (107 : Nat) ({ cls := "StreamChain$Blocks", name := "make", desc := "(IIII)I" } : MethodName) "StreamChain"), (Cond.methodLinkNest "StreamChain" (189 : Nat) ({ cls := "StreamChain$Node", name := "haveProposal", desc := "(I)V" } : MethodName) "StreamChain"), (Cond.methodLinkNest "StreamChain$Node" (63 : Nat) ({ cls := "StreamChain", name := "holds", desc := "(JI)Z" } : MethodName) "StreamChain"), (Cond.methodLinkNest "StreamChain" (203 : Nat) ({ cls := "StreamChain$Node", name := "expectProposal", desc := "(I)Z" } : MethodName) "StreamChain"), (Cond.methodLinkNest "StreamChain" (212 : Nat) ({ cls := "StreamChain$Node", name := "choice", desc := "(I)I" } : MethodName) "StreamChain"), (Cond.methodLinkNest "StreamChain" (196 : Nat) ({ cls := "StreamChain$Node", name := "haveVote", desc := "(II)V" } : MethodName) "StreamChain"), (Cond.methodLinkNest "StreamChain" (206 : Nat) ({ cls := "StreamChain$Node", name := "expectVote", desc := "(II)Z" } : MethodName) "StreamChain"), (Cond.methodLinkNest "StreamChain" (71 : Nat) ({ cls := "StreamChain$Blocks", name := "exist", desc := "(I)Z" } : MethodName) "StreamChain")]
theorem ntw_1_25 : (Cond.methodLinkNest "StreamChain" (20 : Nat) ({ cls := "StreamChain$Blocks", name := "<init>", desc := "()V" } : MethodName) "StreamChain") ∈ nestL := List.mem_of_getElem? (i := 0) rfl
theorem ntw_1_30 : (Cond.fieldLinkNest "StreamChain$Node" (81 : Nat) "StreamChain$Blocks" "parent" "[I" "StreamChain") ∈ nestL := List.mem_of_getElem? (i := 1) rfl
theorem ntw_1_31 : (Cond.fieldLinkNest "StreamChain" (127 : Nat) "StreamChain$Blocks" "parent" "[I" "StreamChain") ∈ nestL := List.mem_of_getElem? (i := 2) rfl
theorem ntw_1_33 : (Cond.fieldLinkNest "StreamChain$Node" (69 : Nat) "StreamChain$Blocks" "epoch" "[I" "StreamChain") ∈ nestL := List.mem_of_getElem? (i := 3) rfl
theorem ntw_1_34 : (Cond.fieldLinkNest "StreamChain" (130 : Nat) "StreamChain$Blocks" "epoch" "[I" "StreamChain") ∈ nestL := List.mem_of_getElem? (i := 4) rfl
theorem ntw_1_36 : (Cond.fieldLinkNest "StreamChain" (133 : Nat) "StreamChain$Blocks" "load" "[I" "StreamChain") ∈ nestL := List.mem_of_getElem? (i := 5) rfl
theorem ntw_1_38 : (Cond.fieldLinkNest "StreamChain$Node" (97 : Nat) "StreamChain$Blocks" "height" "[I" "StreamChain") ∈ nestL := List.mem_of_getElem? (i := 6) rfl
theorem ntw_1_39 : (Cond.fieldLinkNest "StreamChain" (136 : Nat) "StreamChain$Blocks" "height" "[I" "StreamChain") ∈ nestL := List.mem_of_getElem? (i := 7) rfl
theorem ntw_1_41 : (Cond.fieldLinkNest "StreamChain" (139 : Nat) "StreamChain$Blocks" "maker" "[I" "StreamChain") ∈ nestL := List.mem_of_getElem? (i := 8) rfl
theorem ntw_1_43 : (Cond.fieldLinkNest "StreamChain$Node" (100 : Nat) "StreamChain$Blocks" "chain" "[J" "StreamChain") ∈ nestL := List.mem_of_getElem? (i := 9) rfl
theorem ntw_1_44 : (Cond.fieldLinkNest "StreamChain" (169 : Nat) "StreamChain$Blocks" "chain" "[J" "StreamChain") ∈ nestL := List.mem_of_getElem? (i := 10) rfl
theorem ntw_1_46 : (Cond.fieldLinkNest "StreamChain" (209 : Nat) "StreamChain$Blocks" "chainLoad" "[I" "StreamChain") ∈ nestL := List.mem_of_getElem? (i := 11) rfl
theorem ntw_1_48 : (Cond.fieldLinkNest "StreamChain$Node" (78 : Nat) "StreamChain$Blocks" "total" "I" "StreamChain") ∈ nestL := List.mem_of_getElem? (i := 12) rfl
theorem ntw_1_49 : (Cond.fieldLinkNest "StreamChain" (173 : Nat) "StreamChain$Blocks" "total" "I" "StreamChain") ∈ nestL := List.mem_of_getElem? (i := 13) rfl
theorem ntw_1_72 : (Cond.methodLinkNest "StreamChain" (31 : Nat) ({ cls := "StreamChain$Node", name := "<init>", desc := "(IILStreamChain$Blocks;)V" } : MethodName) "StreamChain") ∈ nestL := List.mem_of_getElem? (i := 14) rfl
theorem ntw_1_80 : (Cond.fieldLinkNest "StreamChain" (200 : Nat) "StreamChain$Node" "number" "I" "StreamChain") ∈ nestL := List.mem_of_getElem? (i := 15) rfl
theorem ntw_1_83 : (Cond.fieldLinkNest "StreamChain" (53 : Nat) "StreamChain$Node" "isFalse" "Z" "StreamChain") ∈ nestL := List.mem_of_getElem? (i := 16) rfl
theorem ntw_1_84 : (Cond.fieldLinkNest "StreamChain" (57 : Nat) "StreamChain$Node" "wishes" "I" "StreamChain") ∈ nestL := List.mem_of_getElem? (i := 17) rfl
theorem ntw_1_86 : (Cond.fieldLinkNest "StreamChain" (124 : Nat) "StreamChain$Node" "proposals" "J" "StreamChain") ∈ nestL := List.mem_of_getElem? (i := 18) rfl
theorem ntw_1_88 : (Cond.fieldLinkNest "StreamChain" (74 : Nat) "StreamChain$Node" "proposalsUnderWay" "J" "StreamChain") ∈ nestL := List.mem_of_getElem? (i := 19) rfl
theorem ntw_1_90 : (Cond.fieldLinkNest "StreamChain" (151 : Nat) "StreamChain$Node" "voters" "[I" "StreamChain") ∈ nestL := List.mem_of_getElem? (i := 20) rfl
theorem ntw_1_92 : (Cond.fieldLinkNest "StreamChain" (86 : Nat) "StreamChain$Node" "votersUnderWay" "[I" "StreamChain") ∈ nestL := List.mem_of_getElem? (i := 21) rfl
theorem ntw_1_95 : (Cond.fieldLinkNest "StreamChain" (160 : Nat) "StreamChain$Node" "votedFor" "[I" "StreamChain") ∈ nestL := List.mem_of_getElem? (i := 22) rfl
theorem ntw_1_97 : (Cond.fieldLinkNest "StreamChain" (148 : Nat) "StreamChain$Node" "known" "J" "StreamChain") ∈ nestL := List.mem_of_getElem? (i := 23) rfl
theorem ntw_1_99 : (Cond.fieldLinkNest "StreamChain" (145 : Nat) "StreamChain$Node" "notarized" "J" "StreamChain") ∈ nestL := List.mem_of_getElem? (i := 24) rfl
theorem ntw_1_101 : (Cond.fieldLinkNest "StreamChain" (142 : Nat) "StreamChain$Node" "finals" "J" "StreamChain") ∈ nestL := List.mem_of_getElem? (i := 25) rfl
theorem ntw_1_103 : (Cond.fieldLinkNest "StreamChain" (163 : Nat) "StreamChain$Node" "tip" "I" "StreamChain") ∈ nestL := List.mem_of_getElem? (i := 26) rfl
theorem ntw_1_105 : (Cond.fieldLinkNest "StreamChain" (166 : Nat) "StreamChain$Node" "highestFinal" "I" "StreamChain") ∈ nestL := List.mem_of_getElem? (i := 27) rfl
theorem ntw_1_169 : (Cond.methodLinkNest "StreamChain" (50 : Nat) ({ cls := "StreamChain$Blocks", name := "hasOneOf", desc := "(I)Z" } : MethodName) "StreamChain") ∈ nestL := List.mem_of_getElem? (i := 28) rfl
theorem ntw_1_185 : (Cond.methodLinkNest "StreamChain" (60 : Nat) ({ cls := "StreamChain$Blocks", name := "haveRoom", desc := "()Z" } : MethodName) "StreamChain") ∈ nestL := List.mem_of_getElem? (i := 29) rfl
theorem ntw_1_193 : (Cond.methodLinkNest "StreamChain" (107 : Nat) ({ cls := "StreamChain$Blocks", name := "make", desc := "(IIII)I" } : MethodName) "StreamChain") ∈ nestL := List.mem_of_getElem? (i := 30) rfl
theorem ntw_1_201 : (Cond.methodLinkNest "StreamChain" (189 : Nat) ({ cls := "StreamChain$Node", name := "haveProposal", desc := "(I)V" } : MethodName) "StreamChain") ∈ nestL := List.mem_of_getElem? (i := 31) rfl
theorem ntw_1_210 : (Cond.methodLinkNest "StreamChain$Node" (63 : Nat) ({ cls := "StreamChain", name := "holds", desc := "(JI)Z" } : MethodName) "StreamChain") ∈ nestL := List.mem_of_getElem? (i := 32) rfl
theorem ntw_1_236 : (Cond.methodLinkNest "StreamChain" (203 : Nat) ({ cls := "StreamChain$Node", name := "expectProposal", desc := "(I)Z" } : MethodName) "StreamChain") ∈ nestL := List.mem_of_getElem? (i := 33) rfl
theorem ntw_2_4 : (Cond.methodLinkNest "StreamChain" (212 : Nat) ({ cls := "StreamChain$Node", name := "choice", desc := "(I)I" } : MethodName) "StreamChain") ∈ nestL := List.mem_of_getElem? (i := 34) rfl
theorem ntw_2_8 : (Cond.methodLinkNest "StreamChain" (196 : Nat) ({ cls := "StreamChain$Node", name := "haveVote", desc := "(II)V" } : MethodName) "StreamChain") ∈ nestL := List.mem_of_getElem? (i := 35) rfl
theorem ntw_2_16 : (Cond.methodLinkNest "StreamChain" (206 : Nat) ({ cls := "StreamChain$Node", name := "expectVote", desc := "(II)Z" } : MethodName) "StreamChain") ∈ nestL := List.mem_of_getElem? (i := 36) rfl
theorem ntw_2_24 : (Cond.methodLinkNest "StreamChain" (71 : Nat) ({ cls := "StreamChain$Blocks", name := "exist", desc := "(I)Z" } : MethodName) "StreamChain") ∈ nestL := List.mem_of_getElem? (i := 37) rfl
theorem nestL_in : ∀ w ∈ nestL, w ∈ lw_tbl := List.forall_mem_cons.mpr ⟨tw_1_25, List.forall_mem_cons.mpr ⟨tw_1_30, List.forall_mem_cons.mpr ⟨tw_1_31, List.forall_mem_cons.mpr ⟨tw_1_33, List.forall_mem_cons.mpr ⟨tw_1_34, List.forall_mem_cons.mpr ⟨tw_1_36, List.forall_mem_cons.mpr ⟨tw_1_38, List.forall_mem_cons.mpr ⟨tw_1_39, List.forall_mem_cons.mpr ⟨tw_1_41, List.forall_mem_cons.mpr ⟨tw_1_43, List.forall_mem_cons.mpr ⟨tw_1_44, List.forall_mem_cons.mpr ⟨tw_1_46, List.forall_mem_cons.mpr ⟨tw_1_48, List.forall_mem_cons.mpr ⟨tw_1_49, List.forall_mem_cons.mpr ⟨tw_1_72, List.forall_mem_cons.mpr ⟨tw_1_80, List.forall_mem_cons.mpr ⟨tw_1_83, List.forall_mem_cons.mpr ⟨tw_1_84, List.forall_mem_cons.mpr ⟨tw_1_86, List.forall_mem_cons.mpr ⟨tw_1_88, List.forall_mem_cons.mpr ⟨tw_1_90, List.forall_mem_cons.mpr ⟨tw_1_92, List.forall_mem_cons.mpr ⟨tw_1_95, List.forall_mem_cons.mpr ⟨tw_1_97, List.forall_mem_cons.mpr ⟨tw_1_99, List.forall_mem_cons.mpr ⟨tw_1_101, List.forall_mem_cons.mpr ⟨tw_1_103, List.forall_mem_cons.mpr ⟨tw_1_105, List.forall_mem_cons.mpr ⟨tw_1_169, List.forall_mem_cons.mpr ⟨tw_1_185, List.forall_mem_cons.mpr ⟨tw_1_193, List.forall_mem_cons.mpr ⟨tw_1_201, List.forall_mem_cons.mpr ⟨tw_1_210, List.forall_mem_cons.mpr ⟨tw_1_236, List.forall_mem_cons.mpr ⟨tw_2_4, List.forall_mem_cons.mpr ⟨tw_2_8, List.forall_mem_cons.mpr ⟨tw_2_16, List.forall_mem_cons.mpr ⟨tw_2_24, fun _ h => absurd h List.not_mem_nil⟩⟩⟩⟩⟩⟩⟩⟩⟩⟩⟩⟩⟩⟩⟩⟩⟩⟩⟩⟩⟩⟩⟩⟩⟩⟩⟩⟩⟩⟩⟩⟩⟩⟩⟩⟩⟩⟩
end
section
/-! a layer of my own over the kit: contracts over a world that is a function of a state -/
abbrev kG : Type := va_G × (ClassId × ClassId × ClassId × ClassId) × (Nat → Nat) × Nat
abbrev gD (G : kG) : va_G := G.1
abbrev gI (G : kG) : ClassId := G.2.1.1
abbrev gJ (G : kG) : ClassId := G.2.1.2.1
abbrev gZ (G : kG) : ClassId := G.2.1.2.2.1
abbrev gO (G : kG) : ClassId := G.2.1.2.2.2
abbrev gL (G : kG) : Nat → Nat := G.2.2.1
abbrev gn (G : kG) : Nat := G.2.2.2
def gT (G : kG) : List (ClassId × FieldType) := [(gI G, .int), (gJ G, .long), (gZ G, .boolean), (gO G, .object "StreamChain$Node")]
def isNest : Cond → Bool
  | .fieldLinkNest .. => true
  | .methodLinkNest .. => true
  | _ => false
theorem nestL_nest : ∀ w ∈ nestL, isNest w = true := List.all_eq_true.mp rfl
theorem isNest_tables {w : Cond} (h : isNest w = true) : w.onTables = true := by
  cases w <;> first | rfl | cases h
theorem isNest_warm {w : Cond} (h : isNest w = true) {s U : State} (hW : s.WarmedH U.vm) (hz : va_Nw w s) : va_Nw w U := by
  cases w <;> first | exact va_Nw.warmF hW hz | exact va_Nw.warmM hW hz | cases h
/-- what the tables say at a state: classes, kinds of arrays, links to nest mates -/
def kC (G : kG) (U : State) : Prop := va_K (gD G) vwCl (gT G) U ∧ ∀ w ∈ nestL, va_Nw w U
theorem kC.warm {G : kG} {s U : State} (hW : s.WarmedH U.vm) (h : kC G s) : kC G U :=
  ⟨va_K.moved hW.alike h.1, fun w hw => isNest_warm (nestL_nest w hw) hW (h.2 w hw)⟩
theorem kC.calling {G : kG} {U : State} {g : JFrame} {mk : MethodId} {a : Array Value} (h : kC G U) : kC G (U.calling g mk a) :=
  ⟨va_K.moved (u := U) (U := U.calling g mk a) (Vm.Alike.refl U.vm) h.1, fun w hw => va_Nw.same (isNest_tables (nestL_nest w hw)) (u := U) (U := U.calling g mk a) rfl (h.2 w hw)⟩
def KB (G : kG) {S : Type} (wd : S → va_W) : S → State → Prop := fun u t => va_P (gD G) vwCl (wd u) t.heap
def KPc (G : kG) (av : List Value) (ws : va_W) : Array Value → State → Prop := va_Pc av (fun U => kC G U ∧ va_P (gD G) vwCl ws U.heap)
theorem KPc.blind {G : kG} {av : List Value} {ws : va_W} : FrameBlind (KPc G av ws) := fun _ _ _ _ h => ⟨h.1, h.2.1.calling, h.2.2⟩
/-- contracts: an int, nothing, a reference or null -/
def KMi (l : Launch) (G : kG) (A : Nat → Prop) {S : Type} (wd : S → va_W) (y : MethodName) (cc : ByteArray) (mL : Nat) (ret : Option FieldType) (rm : Room) (av : List Value) (u : S) (post : Int32 → S → Prop) : Prop :=
  Met l y (.code y cc mL ret :: WL) rm (KPc G av (wd u)) (va_Qi post (KB G wd) A) 0 0 A
def KMv (l : Launch) (G : kG) (A : Nat → Prop) {S : Type} (wd : S → va_W) (y : MethodName) (cc : ByteArray) (mL : Nat) (ret : Option FieldType) (rm : Room) (av : List Value) (u : S) (post : S → Prop) : Prop :=
  Met l y (.code y cc mL ret :: WL) rm (KPc G av (wd u)) (va_Qv post (KB G wd) A) 0 0 A
def KMq (l : Launch) (G : kG) (A : Nat → Prop) {S : Type} (wd : S → va_W) (y : MethodName) (cc : ByteArray) (mL : Nat) (ret : Option FieldType) (rm : Room) (av : List Value) (u : S) (post : Option Nat → S → Prop) : Prop :=
  Met l y (.code y cc mL ret :: WL) rm (KPc G av (wd u)) (va_Qq post (KB G wd) A) 0 0 A
/-- a contract out of the walk of its body -/
theorem K_of {l : Launch} {G : kG} {y : MethodName} {cc : ByteArray} {mL : Nat} {ret : Option FieldType} {rm : Room} {av : List Value} {ws : va_W} {Qc : Array Value → State → Outcome → State → Prop} {mc ms : Nat} {free : Addr → Prop}
    (hy : plainName y.cls = true) (hlen : (lg_sl av).length ≤ mL)
    (body : ∀ (p : Program) (e : Env) (s : State) (m : MethodId) (below : List Frame) (meth : Method) (c : Code), CallFix p m c cc mL s av.toArray WL y.cls → meth.sig.returnType = ret → meth.locks = false → meth.name = y.name → kC G s → va_P (gD G) vwCl ws s.heap →
      ∀ ls : Array Slot, lv_has ls mL (lv_args 0 av) → W p l e rm s m av.toArray below meth c s.heap [] 0 0 (MQ below Qc av.toArray s mc ms free) (F0 m 0 ls [])) :
    Met l y (.code y cc mL ret :: WL) rm (KPc G av ws) Qc mc ms free := by
  refine Met.ofW (cc := cc) (maxL := mL) (ret := ret) hy rfl ?_
  intro p e s m args below meth c s₁ B hml hv
  obtain ⟨rfl, hK, hP⟩ := hv
  have hts := atoms_spec (ws := .code y cc mL ret :: WL) B.pre
  have hl := lv_entry av (n := mL) hlen
  rw [lg_entry_eq]
  exact body p e s m below meth c ⟨B.exec, B.bytes, hml, findClass_of_methodNamed B.named, fun w h => hts w (List.mem_cons_of_mem _ h)⟩ B.returns B.notSynchronized (name_of_methodNamed B.named B.method).1 hK hP _ hl
theorem WL_GoodIn : GoodIn WL WL := fun _ h => ⟨h, WL_good h⟩
theorem gz_c {y : MethodName} {cc : ByteArray} {mL : Nat} {ret : Option FieldType} (h5 : Cond.code y cc mL ret ∈ WL) : GoodIn WL (.code y cc mL ret :: WL) := fun w h => (List.mem_cons.mp h).elim (fun e => by rw [e]; exact ⟨h5, WL_good h5⟩) (fun h => ⟨h, WL_good h⟩)
theorem gz_cons {c : Cond} {ws : List Cond} (h : c ∈ WL) (hw : GoodIn WL ws) : GoodIn WL (c :: ws) := fun w hh => (List.mem_cons.mp hh).elim (fun e => by rw [e]; exact ⟨h, WL_good h⟩) (fun hh => hw w hh)
theorem gz_V {own C : String} {index : Nat} {y : MethodName} {cc : ByteArray} {mL : Nat} {ret : Option FieldType} (h1 : Cond.methodLink own index y ∈ WL) (h2 : Cond.instanceMethod y ∈ WL) (h3 : Cond.selects C y y ∈ WL) (h4 : Cond.initialized C ∈ WL) (h5 : Cond.code y cc mL ret ∈ WL) : GoodIn WL (wsV own index C y (.code y cc mL ret :: WL)) :=
  gz_cons h1 (gz_cons h2 (gz_cons h3 (gz_cons h4 (gz_c h5))))
theorem gz_S {own : String} {index : Nat} {y : MethodName} {cc : ByteArray} {mL : Nat} {ret : Option FieldType} (h1 : Cond.methodLink own index y ∈ WL) (h2 : Cond.static y ∈ WL) (h4 : Cond.initialized y.cls ∈ WL) (h5 : Cond.code y cc mL ret ∈ WL) : GoodIn WL (va_wsS own index y (.code y cc mL ret :: WL)) :=
  gz_cons h1 (gz_cons h2 (gz_cons h4 (gz_c h5)))
section KR
variable {p : Program} {l : Launch} {e : Env} {R : Room} {s : State} {m : MethodId} {args : Array Value} {below : List Frame} {meth : Method} {c : Code} {H : Heap} {locs : List Loc} {cells slots : Nat} {Q : State → Prop}
variable {G : kG} {A : Nat → Prop} {S : Type} {wd : S → va_W} {u : S} {cc : ByteArray} {nL : Nat} {own : String} {pc : Nat} {ls : Array Slot} {rest st : List Value} {ws : va_W} {a : Nat} {H0 : Heap}
/-- fields of one's own class -/
theorem k_get (X : CallFix p m c cc nL s args WL own) (hK : kC G s) {C : String} {T : u_T} {N ci : Nat} (hin : ∀ w ∈ u_ws C T N, w ∈ WL) (hc : vwCl[ci]? = some (C, T, N)) (hP : va_P (gD G) vwCl ws H) {q0 : Nat} {fs : List Value} (he : ws[q0]? = some (a, .inr (ci, fs))) (k : Nat) (hk : k < N) {index : Nat} (hl : Cond.fieldLink own index (T k).1 (T k).2.1 (T k).2.2.1 ∈ WL) {v : Value} (hv : fs[k]? = some v) (hdg : decode cc pc = .ok (.getfield index, 3))
    (kk : W p l e R s m args below meth c H locs cells slots Q (F0 m (pc + 3) ls (v :: rest))) : W p l e R s m args below meth c H locs cells slots Q (F0 m pc ls (.ref a :: rest)) :=
  va_get X.1 X.2.1 X.2.2.2.2 hin X.2.2.2.1 hK.1 hP q0 he hc k hk (X.2.2.2.2 _ hl) (fun _ h => h) hv hdg kk
/-- fields of a nest mate -/
theorem k_gn (X : CallFix p m c cc nL s args WL own) (hK : kC G s) {C : String} {T : u_T} {N ci : Nat} (hin : ∀ w ∈ u_ws C T N, w ∈ WL) (hc : vwCl[ci]? = some (C, T, N)) (hP : va_P (gD G) vwCl ws H) {q0 : Nat} {fs : List Value} (he : ws[q0]? = some (a, .inr (ci, fs))) (k : Nat) (hk : k < N) {index : Nat} {host : String} (hl : Cond.fieldLinkNest own index (T k).1 (T k).2.1 (T k).2.2.1 host ∈ nestL) {v : Value} (hv : fs[k]? = some v) (hdg : decode cc pc = .ok (.getfield index, 3))
    (kk : W p l e R s m args below meth c H locs cells slots Q (F0 m (pc + 3) ls (v :: rest))) : W p l e R s m args below meth c H locs cells slots Q (F0 m pc ls (.ref a :: rest)) :=
  va_getN X.1 X.2.1 X.2.2.2.2 hin X.2.2.2.1 hK.1 hP q0 he hc k hk (va_Nw.use rfl (hK.2 _ hl)) (fun _ h => h) hv hdg kk
theorem k_put (X : CallFix p m c cc nL s args WL own) (hK : kC G s) {C : String} {T : u_T} {N ci : Nat} (hin : ∀ w ∈ u_ws C T N, w ∈ WL) (hc : vwCl[ci]? = some (C, T, N)) {ty0 : Nat → FieldType} (hty : ∀ k, k < N → parseFieldDescriptor (T k).2.2.1 = some (ty0 k)) (hnm : ∀ a, a < N → ∀ b, b < N → a ≠ b → (T a).2.1 ≠ (T b).2.1) (hP : va_P (gD G) vwCl (wd u) H) (hD : va_D A (wd u)) (hS : va_S A H0 H locs) {q0 : Nat} {fs : List Value} (he : (wd u)[q0]? = some (a, .inr (ci, fs))) (k : Nat) (hk : k < N) {index : Nat} (hl : Cond.fieldLink own index (T k).1 (T k).2.1 (T k).2.2.1 ∈ WL) (hfin : (T k).2.2.2 = false) {v : Value} (hn : narrow (ty0 k) v = v) (hfit : fits (ty0 k) v = true) (hlen : k < fs.length) (u' : S) (hw : (wd u).set q0 (a, .inr (ci, fs.set k v)) = wd u') (hdg : decode cc pc = .ok (.putfield index, 3))
    (kk : ∀ (H1 : Heap) (locs1 : List Loc), va_P (gD G) vwCl (wd u') H1 → va_S A H0 H1 locs1 → W p l e R s m args below meth c H1 locs1 cells slots Q (F0 m (pc + 3) ls rest)) : W p l e R s m args below meth c H locs cells slots Q (F0 m pc ls (v :: .ref a :: rest)) :=
  va_put X.1 X.2.1 X.2.2.2.2 hin ty0 hty hnm X.2.2.2.1 hK.1 hP hD hS q0 he hc k hk (X.2.2.2.2 _ hl) (fun _ h => h) hfin (hty k hk) hn hfit hlen hdg (fun H1 locs1 h1 _ h3 => kk H1 locs1 (hw ▸ h1) h3)
theorem k_pn (X : CallFix p m c cc nL s args WL own) (hK : kC G s) {C : String} {T : u_T} {N ci : Nat} (hin : ∀ w ∈ u_ws C T N, w ∈ WL) (hc : vwCl[ci]? = some (C, T, N)) {ty0 : Nat → FieldType} (hty : ∀ k, k < N → parseFieldDescriptor (T k).2.2.1 = some (ty0 k)) (hnm : ∀ a, a < N → ∀ b, b < N → a ≠ b → (T a).2.1 ≠ (T b).2.1) (hP : va_P (gD G) vwCl (wd u) H) (hD : va_D A (wd u)) (hS : va_S A H0 H locs) {q0 : Nat} {fs : List Value} (he : (wd u)[q0]? = some (a, .inr (ci, fs))) (k : Nat) (hk : k < N) {index : Nat} {host : String} (hl : Cond.fieldLinkNest own index (T k).1 (T k).2.1 (T k).2.2.1 host ∈ nestL) (hfin : (T k).2.2.2 = false) {v : Value} (hn : narrow (ty0 k) v = v) (hfit : fits (ty0 k) v = true) (hlen : k < fs.length) (u' : S) (hw : (wd u).set q0 (a, .inr (ci, fs.set k v)) = wd u') (hdg : decode cc pc = .ok (.putfield index, 3))
    (kk : ∀ (H1 : Heap) (locs1 : List Loc), va_P (gD G) vwCl (wd u') H1 → va_S A H0 H1 locs1 → W p l e R s m args below meth c H1 locs1 cells slots Q (F0 m (pc + 3) ls rest)) : W p l e R s m args below meth c H locs cells slots Q (F0 m pc ls (v :: .ref a :: rest)) :=
  va_putN X.1 X.2.1 X.2.2.2.2 hin ty0 hty hnm X.2.2.2.1 hK.1 hP hD hS q0 he hc k hk (va_Nw.use rfl (hK.2 _ hl)) (fun _ h => h) hfin (hty k hk) hn hfit hlen hdg (fun H1 locs1 h1 _ h3 => kk H1 locs1 (hw ▸ h1) h3)
/-- arrays, at a place k that is a Nat -/
theorem k_ild (X : CallFix p m c cc nL s args WL own) (hK : kC G s) (hP : va_P (gD G) vwCl ws H) {q0 n : Nat} {f : Nat → Int32} (ha : ws[q0]? = some (a, .inl (gI G, n, .inl f))) {k : Nat} (hk : k < n) (hn : n < 2 ^ 31) {v : Int32} (hv : f k = v) (hdg : decode cc pc = .ok (.iaload, 1))
    (kk : W p l e R s m args below meth c H locs cells slots Q (F0 m (pc + 1) ls (.int v :: rest))) : W p l e R s m args below meth c H locs cells slots Q (F0 m pc ls (.int (nI k) :: .ref a :: rest)) := by
  refine va_iald X.1 X.2.1 hK.1 hP q0 0 ha rfl (vp_in_nI hk hn) hdg ?_
  rw [nI_clamp (Nat.lt_trans hk hn), hv]
  exact kk
theorem k_zld (X : CallFix p m c cc nL s args WL own) (hK : kC G s) (hP : va_P (gD G) vwCl ws H) {q0 n : Nat} {f : Nat → Int32} (ha : ws[q0]? = some (a, .inl (gZ G, n, .inl f))) {k : Nat} (hk : k < n) (hn : n < 2 ^ 31) {v : Int32} (hv : f k = v) (hdg : decode cc pc = .ok (.baload, 1))
    (kk : W p l e R s m args below meth c H locs cells slots Q (F0 m (pc + 1) ls (.int v :: rest))) : W p l e R s m args below meth c H locs cells slots Q (F0 m pc ls (.int (nI k) :: .ref a :: rest)) := by
  refine va_zald X.1 X.2.1 hK.1 hP q0 2 ha rfl (vp_in_nI hk hn) hdg ?_
  rw [nI_clamp (Nat.lt_trans hk hn), hv]
  exact kk
theorem k_lld (X : CallFix p m c cc nL s args WL own) (hK : kC G s) (hP : va_P (gD G) vwCl ws H) {q0 n : Nat} {f : Nat → Int64} (ha : ws[q0]? = some (a, .inl (gJ G, n, .inr (.inl f)))) {k : Nat} (hk : k < n) (hn : n < 2 ^ 31) {v : Int64} (hv : f k = v) (hdg : decode cc pc = .ok (.laload, 1))
    (kk : W p l e R s m args below meth c H locs cells slots Q (F0 m (pc + 1) ls (.long v :: rest))) : W p l e R s m args below meth c H locs cells slots Q (F0 m pc ls (.int (nI k) :: .ref a :: rest)) := by
  refine va_lald X.1 X.2.1 hK.1 hP q0 1 ha rfl (vp_in_nI hk hn) hdg ?_
  rw [nI_clamp (Nat.lt_trans hk hn), hv]
  exact kk
theorem k_ald (X : CallFix p m c cc nL s args WL own) (hK : kC G s) (hP : va_P (gD G) vwCl ws H) {q0 n : Nat} {f : Nat → Option Nat} (ha : ws[q0]? = some (a, .inl (gO G, n, .inr (.inr (.inr (.inr f)))))) {k : Nat} (hk : k < n) (hn : n < 2 ^ 31) {v : Nat} (hv : f k = some v) (hdg : decode cc pc = .ok (.aaload, 1))
    (kk : W p l e R s m args below meth c H locs cells slots Q (F0 m (pc + 1) ls (.ref v :: rest))) : W p l e R s m args below meth c H locs cells slots Q (F0 m pc ls (.int (nI k) :: .ref a :: rest)) := by
  refine va_aldq X.1 X.2.1 hK.1 hP q0 3 ha rfl (vp_in_nI hk hn) hdg ?_
  rw [nI_clamp (Nat.lt_trans hk hn), hv]
  exact kk
theorem k_ist (X : CallFix p m c cc nL s args WL own) (hK : kC G s) (hP : va_P (gD G) vwCl (wd u) H) (hD : va_D A (wd u)) (hS : va_S A H0 H locs) {q0 n : Nat} {f : Nat → Int32} (ha : (wd u)[q0]? = some (a, .inl (gI G, n, .inl f))) {k : Nat} (hk : k < n) (hn : n < 2 ^ 31) {x : Int32} (u' : S) (hw : (wd u).set q0 (a, .inl (gI G, n, .inl (upd f k x))) = wd u') (hdg : decode cc pc = .ok (.iastore, 1))
    (kk : ∀ (H1 : Heap) (locs1 : List Loc), va_P (gD G) vwCl (wd u') H1 → va_S A H0 H1 locs1 → W p l e R s m args below meth c H1 locs1 cells slots Q (F0 m (pc + 1) ls rest)) : W p l e R s m args below meth c H locs cells slots Q (F0 m pc ls (.int x :: .int (nI k) :: .ref a :: rest)) := by
  refine va_iast X.1 X.2.1 hK.1 hP hD hS q0 0 ha rfl (vp_in_nI hk hn) hdg (fun H1 locs1 h1 _ h3 => kk H1 locs1 ?_ h3)
  rw [nI_clamp (Nat.lt_trans hk hn), hw] at h1
  exact h1
theorem nar_bI (b : Bool) : vp_nar .boolean (if b then 1 else 0) = if b then 1 else 0 := by cases b <;> rfl
theorem k_zst (X : CallFix p m c cc nL s args WL own) (hK : kC G s) (hP : va_P (gD G) vwCl (wd u) H) (hD : va_D A (wd u)) (hS : va_S A H0 H locs) {q0 n : Nat} {f : Nat → Int32} (ha : (wd u)[q0]? = some (a, .inl (gZ G, n, .inl f))) {k : Nat} (hk : k < n) (hn : n < 2 ^ 31) {x : Int32} (hx : vp_nar .boolean x = x) (u' : S) (hw : (wd u).set q0 (a, .inl (gZ G, n, .inl (upd f k x))) = wd u') (hdg : decode cc pc = .ok (.bastore, 1))
    (kk : ∀ (H1 : Heap) (locs1 : List Loc), va_P (gD G) vwCl (wd u') H1 → va_S A H0 H1 locs1 → W p l e R s m args below meth c H1 locs1 cells slots Q (F0 m (pc + 1) ls rest)) : W p l e R s m args below meth c H locs cells slots Q (F0 m pc ls (.int x :: .int (nI k) :: .ref a :: rest)) := by
  refine va_zast X.1 X.2.1 hK.1 hP hD hS q0 2 ha rfl (vp_in_nI hk hn) hdg (fun H1 locs1 h1 _ h3 => kk H1 locs1 ?_ h3)
  rw [nI_clamp (Nat.lt_trans hk hn), hx, hw] at h1
  exact h1
theorem k_lst (X : CallFix p m c cc nL s args WL own) (hK : kC G s) (hP : va_P (gD G) vwCl (wd u) H) (hD : va_D A (wd u)) (hS : va_S A H0 H locs) {q0 n : Nat} {f : Nat → Int64} (ha : (wd u)[q0]? = some (a, .inl (gJ G, n, .inr (.inl f)))) {k : Nat} (hk : k < n) (hn : n < 2 ^ 31) {x : Int64} (u' : S) (hw : (wd u).set q0 (a, .inl (gJ G, n, .inr (.inl (vp_updL f k x)))) = wd u') (hdg : decode cc pc = .ok (.lastore, 1))
    (kk : ∀ (H1 : Heap) (locs1 : List Loc), va_P (gD G) vwCl (wd u') H1 → va_S A H0 H1 locs1 → W p l e R s m args below meth c H1 locs1 cells slots Q (F0 m (pc + 1) ls rest)) : W p l e R s m args below meth c H locs cells slots Q (F0 m pc ls (.long x :: .int (nI k) :: .ref a :: rest)) := by
  refine va_last X.1 X.2.1 hK.1 hP hD hS q0 1 ha rfl (vp_in_nI hk hn) hdg (fun H1 locs1 h1 _ h3 => kk H1 locs1 ?_ h3)
  rw [nI_clamp (Nat.lt_trans hk hn), hw] at h1
  exact h1
theorem k_len (X : CallFix p m c cc nL s args WL own) (hK : kC G s) (hP : va_P (gD G) vwCl ws H) {q0 n : Nat} {f : Nat → Option Nat} (ha : ws[q0]? = some (a, .inl (gO G, n, .inr (.inr (.inr (.inr f)))))) (hdg : decode cc pc = .ok (.arraylength, 1))
    (kk : W p l e R s m args below meth c H locs cells slots Q (F0 m (pc + 1) ls (.int (nI n) :: rest))) : W p l e R s m args below meth c H locs cells slots Q (F0 m pc ls (.ref a :: rest)) :=
  va_alen X.1 X.2.1 hK.1 hP q0 3 ha rfl rfl hdg kk
/-- another name for what is on the top -/
theorem k_ti {x y : Int32} (h : x = y) (kk : W p l e R s m args below meth c H locs cells slots Q (F0 m pc ls (.int y :: rest))) : W p l e R s m args below meth c H locs cells slots Q (F0 m pc ls (.int x :: rest)) := h ▸ kk
theorem k_tl {x y : Int64} (h : x = y) (kk : W p l e R s m args below meth c H locs cells slots Q (F0 m pc ls (.long y :: rest))) : W p l e R s m args below meth c H locs cells slots Q (F0 m pc ls (.long x :: rest)) := h ▸ kk
/-- the world behind another name -/
theorem k_su {u' : S} (h : u = u') (hP : va_P (gD G) vwCl (wd u) H) : va_P (gD G) vwCl (wd u') H := h ▸ hP
/-- ends -/
theorem k_reti {post : Int32 → S → Prop} {v : Int32} (X : CallFix p m c cc nL s args WL own) (hr : meth.sig.returnType = some .int) (hlocks : meth.locks = false) (hP : va_P (gD G) vwCl (wd u) H) (hS : va_S A s.heap H locs) (hdg : decode cc pc = .ok (.ireturn, 1)) (hq : post v u) : W p l e R s m args below meth c H locs cells slots (MQ below (va_Qi post (KB G wd) A) args s cells slots A) (F0 m pc ls [.int v]) :=
  W.iret (v := v) X.1 X.2.1 hr (fun t ht _ => ⟨⟨v, u, rfl, hq, by show va_P _ _ _ t.heap; rw [ht]; exact hP⟩, hS.F ht⟩) hS.2.2 hdg hlocks
theorem k_retz {post : Int32 → S → Prop} {v : Int32} (X : CallFix p m c cc nL s args WL own) (hr : meth.sig.returnType = some .boolean) (hlocks : meth.locks = false) (hP : va_P (gD G) vwCl (wd u) H) (hS : va_S A s.heap H locs) (hdg : decode cc pc = .ok (.ireturn, 1)) (hn : narrow .boolean (.int v) = .int v) (hq : post v u) : W p l e R s m args below meth c H locs cells slots (MQ below (va_Qi post (KB G wd) A) args s cells slots A) (F0 m pc ls [.int v]) :=
  W.zret (v := v) X.1 X.2.1 hr hn (fun t ht _ => ⟨⟨v, u, rfl, hq, by show va_P _ _ _ t.heap; rw [ht]; exact hP⟩, hS.F ht⟩) hS.2.2 hdg hlocks
theorem k_retv {post : S → Prop} (X : CallFix p m c cc nL s args WL own) (hr : meth.sig.returnType = none) (hlocks : meth.locks = false) (hP : va_P (gD G) vwCl (wd u) H) (hS : va_S A s.heap H locs) (hdg : decode cc pc = .ok (.return_, 1)) (hq : post u) : W p l e R s m args below meth c H locs cells slots (MQ below (va_Qv post (KB G wd) A) args s cells slots A) (F0 m pc ls []) :=
  W.vret X.1 X.2.1 hr (fun t ht _ => ⟨⟨u, rfl, hq, by show va_P _ _ _ t.heap; rw [ht]; exact hP⟩, hS.F ht⟩) hS.2.2 hdg hlocks
theorem k_retq {post : Option Nat → S → Prop} (r : Option Nat) {C : String} {v : Value} (hv : va_rf r = v) (X : CallFix p m c cc nL s args WL own) (hr : meth.sig.returnType = some (.object C)) (hlocks : meth.locks = false) (hP : va_P (gD G) vwCl (wd u) H) (hS : va_S A s.heap H locs) (hdg : decode cc pc = .ok (.areturn, 1)) (hq : post r u) : W p l e R s m args below meth c H locs cells slots (MQ below (va_Qq post (KB G wd) A) args s cells slots A) (F0 m pc ls [v]) :=
  W.aret X.1 X.2.1 hr (Or.inl ⟨C, rfl⟩) (hv ▸ va_rf_or r) (fun t ht _ => ⟨⟨r, u, by rw [hv], hq, by show va_P _ _ _ t.heap; rw [ht]; exact hP⟩, hS.F ht⟩) hS.2.2 hdg hlocks
/-- calls -/
theorem k_runV {y : MethodName} {bytes : ByteArray} {mL mc ms index : Nat} {ret : Option FieldType} {rm : Room} {Qc : Array Value → State → Outcome → State → Prop} {free : Addr → Prop} {b ci q0 : Nat} {fs As : List Value} {T : u_T} {N : Nat} (X : CallFix p m c cc nL s args WL own) (hK : kC G s) (hP : va_P (gD G) vwCl ws H)
    (he : ws[q0]? = some (b, .inr (ci, fs))) (hc : vwCl[ci]? = some (y.cls, T, N)) (hM : Met l y (.code y bytes mL ret :: WL) rm (KPc G (.ref b :: As) ws) Qc mc ms free) (hrc : rm.cells = mc ∧ rm.slots = ms)
    (h1 : Cond.methodLink own index y ∈ WL) (h2 : Cond.instanceMethod y ∈ WL) (h3 : Cond.selects y.cls y y ∈ WL) (h4 : Cond.initialized y.cls ∈ WL) (h5 : Cond.code y bytes mL ret ∈ WL)
    (hd : y.cls ≠ "java/lang/invoke/MethodHandle" ∧ y.cls ≠ "java/lang/invoke/VarHandle" ∧ (parseMethodDescriptor y.desc).map (fun d => d.parameters.length) = some As.length) (hR : rm.frames + 1 ≤ R.frames ∧ 8 + (mL + 11) + rm.locals ≤ R.locals)
    (hsize : ls.size = nL) (hst : st = As.reverse ++ .ref b :: rest) (hW : (rest.map fun v => v.category).sum ≤ 8) (hf : cells + mc ≤ R.cells ∧ slots + ms ≤ R.slots) (hdg : decode cc pc = .ok (.invokevirtual index, 3)) :
    va_Run p l e R s m args below meth c H locs cells slots mc ms (F0 m pc ls st) rest (Qc (Value.ref b :: As).toArray) free :=
  va_runV (g := F0 m pc ls st) X hM (cwV As.length X.2.2.2.2 (gz_V h1 h2 h3 h4 h5) rfl hrc.1 hrc.2 ⟨rfl, hd⟩ hR) ⟨KPc.blind, va_recv hK.1 hP hc he, fun U hU hW => ⟨rfl, hK.warm hW, by rw [hU]; exact hP⟩⟩ rfl rfl hsize hst (lv_room hW) hdg hf
theorem k_runN {y : MethodName} {bytes : ByteArray} {mL mc ms index : Nat} {ret : Option FieldType} {rm : Room} {Qc : Array Value → State → Outcome → State → Prop} {free : Addr → Prop} {b ci q0 : Nat} {fs As : List Value} {T : u_T} {N : Nat} {host : String} (X : CallFix p m c cc nL s args WL own) (hK : kC G s) (hP : va_P (gD G) vwCl ws H)
    (he : ws[q0]? = some (b, .inr (ci, fs))) (hc : vwCl[ci]? = some (y.cls, T, N)) (hM : Met l y (.code y bytes mL ret :: WL) rm (KPc G (.ref b :: As) ws) Qc mc ms free) (hrc : rm.cells = mc ∧ rm.slots = ms)
    (h1 : Cond.methodLinkNest own index y host ∈ nestL) (h2 : Cond.instanceMethod y ∈ WL) (h3 : Cond.selects y.cls y y ∈ WL) (h4 : Cond.initialized y.cls ∈ WL) (h5 : Cond.code y bytes mL ret ∈ WL)
    (hd : y.cls ≠ "java/lang/invoke/MethodHandle" ∧ y.cls ≠ "java/lang/invoke/VarHandle" ∧ (parseMethodDescriptor y.desc).map (fun d => d.parameters.length) = some As.length) (hR : rm.frames + 1 ≤ R.frames ∧ 8 + (mL + 11) + rm.locals ≤ R.locals)
    (hsize : ls.size = nL) (hst : st = As.reverse ++ .ref b :: rest) (hW : (rest.map fun v => v.category).sum ≤ 8) (hf : cells + mc ≤ R.cells ∧ slots + ms ≤ R.slots) (hdg : decode cc pc = .ok (.invokevirtual index, 3)) :
    va_Run p l e R s m args below meth c H locs cells slots mc ms (F0 m pc ls st) rest (Qc (Value.ref b :: As).toArray) free :=
  va_runVN (g := F0 m pc ls st) X hM ⟨va_cnB As.length X.2.2.2.2 (gz_c h5) rfl hrc.1 hrc.2 (hK.2 _ h1) (X.2.2.2.2 _ h4) hd hR, X.2.2.2.2 _ h2, X.2.2.2.2 _ h3⟩ ⟨KPc.blind, va_recv hK.1 hP hc he, fun U hU hW => ⟨rfl, hK.warm hW, by rw [hU]; exact hP⟩⟩ rfl rfl hsize hst (lv_room hW) hdg hf
theorem k_runS {y : MethodName} {bytes : ByteArray} {mL mc ms index : Nat} {ret : Option FieldType} {rm : Room} {Qc : Array Value → State → Outcome → State → Prop} {free : Addr → Prop} {As : List Value} (X : CallFix p m c cc nL s args WL own) (hK : kC G s) (hP : va_P (gD G) vwCl ws H)
    (hM : Met l y (.code y bytes mL ret :: WL) rm (KPc G As ws) Qc mc ms free) (hrc : rm.cells = mc ∧ rm.slots = ms)
    (h1 : Cond.methodLink own index y ∈ WL) (h2 : Cond.static y ∈ WL) (h4 : Cond.initialized y.cls ∈ WL) (h5 : Cond.code y bytes mL ret ∈ WL)
    (hd : y.cls ≠ "java/lang/invoke/MethodHandle" ∧ y.cls ≠ "java/lang/invoke/VarHandle" ∧ (parseMethodDescriptor y.desc).map (fun d => d.parameters.length) = some As.length) (hR : rm.frames + 1 ≤ R.frames ∧ 8 + (mL + 11) + rm.locals ≤ R.locals)
    (hsize : ls.size = nL) (hst : st = As.reverse ++ rest) (hW : (rest.map fun v => v.category).sum ≤ 8) (hf : cells + mc ≤ R.cells ∧ slots + ms ≤ R.slots) (hdg : decode cc pc = .ok (.invokestatic index, 3)) :
    va_Run p l e R s m args below meth c H locs cells slots mc ms (F0 m pc ls st) rest (Qc As.toArray) free :=
  va_runS (g := F0 m pc ls st) X hM (va_cwS As.length X.2.2.2.2 (gz_S h1 h2 h4 h5) rfl hrc.1 hrc.2 hd hR) ⟨KPc.blind, fun U hU hW => ⟨rfl, hK.warm hW, by rw [hU]; exact hP⟩⟩ rfl rfl hsize hst (lv_room hW) hdg hf
theorem k_runSN {y : MethodName} {bytes : ByteArray} {mL mc ms index : Nat} {ret : Option FieldType} {rm : Room} {Qc : Array Value → State → Outcome → State → Prop} {free : Addr → Prop} {As : List Value} {host : String} (X : CallFix p m c cc nL s args WL own) (hK : kC G s) (hP : va_P (gD G) vwCl ws H)
    (hM : Met l y (.code y bytes mL ret :: WL) rm (KPc G As ws) Qc mc ms free) (hrc : rm.cells = mc ∧ rm.slots = ms)
    (h1 : Cond.methodLinkNest own index y host ∈ nestL) (h2 : Cond.static y ∈ WL) (h4 : Cond.initialized y.cls ∈ WL) (h5 : Cond.code y bytes mL ret ∈ WL)
    (hd : y.cls ≠ "java/lang/invoke/MethodHandle" ∧ y.cls ≠ "java/lang/invoke/VarHandle" ∧ (parseMethodDescriptor y.desc).map (fun d => d.parameters.length) = some As.length) (hR : rm.frames + 1 ≤ R.frames ∧ 8 + (mL + 11) + rm.locals ≤ R.locals)
    (hsize : ls.size = nL) (hst : st = As.reverse ++ rest) (hW : (rest.map fun v => v.category).sum ≤ 8) (hf : cells + mc ≤ R.cells ∧ slots + ms ≤ R.slots) (hdg : decode cc pc = .ok (.invokestatic index, 3)) :
    va_Run p l e R s m args below meth c H locs cells slots mc ms (F0 m pc ls st) rest (Qc As.toArray) free :=
  va_runSN (g := F0 m pc ls st) X hM ⟨va_cnB As.length X.2.2.2.2 (gz_c h5) rfl hrc.1 hrc.2 (hK.2 _ h1) (X.2.2.2.2 _ h4) hd hR, X.2.2.2.2 _ h2, trivial⟩ ⟨KPc.blind, fun U hU hW => ⟨rfl, hK.warm hW, by rw [hU]; exact hP⟩⟩ rfl rfl hsize hst (lv_room hW) hdg hf
theorem k_ci {post : Int32 → S → Prop} {av : Array Value} (hr : va_Run p l e R s m args below meth c H locs cells slots 0 0 (F0 m pc ls st) rest (va_Qi post (KB G wd) A av) A) (hS : va_S A s.heap H locs)
    (kk : ∀ (r : Int32) (u' : S) (H1 : Heap) (locs1 : List Loc), post r u' → va_P (gD G) vwCl (wd u') H1 → va_S A s.heap H1 locs1 → W p l e R s m args below meth c H1 locs1 cells slots Q (F0 m (pc + 3) ls (.int r :: rest))) : W p l e R s m args below meth c H locs cells slots Q (F0 m pc ls st) :=
  va_calli hr hS (fun _ _ h => h) (fun _ h => h) (fun r u' t H1 locs1 ht _ hq hB _ _ hS1 => kk r u' H1 locs1 hq (ht ▸ hB) hS1)
theorem k_cv {post : S → Prop} {av : Array Value} (hr : va_Run p l e R s m args below meth c H locs cells slots 0 0 (F0 m pc ls st) rest (va_Qv post (KB G wd) A av) A) (hS : va_S A s.heap H locs)
    (kk : ∀ (u' : S) (H1 : Heap) (locs1 : List Loc), post u' → va_P (gD G) vwCl (wd u') H1 → va_S A s.heap H1 locs1 → W p l e R s m args below meth c H1 locs1 cells slots Q (F0 m (pc + 3) ls rest)) : W p l e R s m args below meth c H locs cells slots Q (F0 m pc ls st) :=
  va_callv hr hS (fun _ _ h => h) (fun _ h => h) (fun u' t H1 locs1 ht _ hq hB _ _ hS1 => kk u' H1 locs1 hq (ht ▸ hB) hS1)
theorem k_cq {post : Option Nat → S → Prop} {av : Array Value} (hr : va_Run p l e R s m args below meth c H locs cells slots 0 0 (F0 m pc ls st) rest (va_Qq post (KB G wd) A av) A) (hS : va_S A s.heap H locs)
    (kk : ∀ (r : Option Nat) (u' : S) (H1 : Heap) (locs1 : List Loc), post r u' → va_P (gD G) vwCl (wd u') H1 → va_S A s.heap H1 locs1 → W p l e R s m args below meth c H1 locs1 cells slots Q (F0 m (pc + 3) ls (va_rf r :: rest))) : W p l e R s m args below meth c H locs cells slots Q (F0 m pc ls st) :=
  va_callq hr hS (fun _ _ h => h) (fun _ h => h) (fun r u' t H1 locs1 ht _ hq hB _ _ hS1 => kk r u' H1 locs1 hq (ht ▸ hB) hS1)
end KR
end
section
/-! bits -/
def tI (x : Int32) (k : Nat) : Bool := x.toBitVec.getLsbD k
def tL (x : Int64) (k : Nat) : Bool := x.toBitVec.getLsbD k
def bI (b : Bool) : Int32 := if b then 1 else 0
def eBV (w : Nat) (f : Nat → Bool) : BitVec w := (BitVec.iunfoldr (fun (i : Fin w) (_ : Unit) => ((), f i.val)) ()).2
theorem eBV_get (w : Nat) (f : Nat → Bool) {k : Nat} (h : k < w) : (eBV w f).getLsbD k = f k := by
  have h1 := BitVec.iunfoldr_getLsbD (f := fun (i : Fin w) (_ : Unit) => ((), f i.val)) (fun _ => ()) ⟨k, h⟩ (fun _ => rfl)
  rw [BitVec.getLsbD_eq_getElem h]
  exact h1
theorem tI_ext {x y : Int32} (h : ∀ k, k < 32 → tI x k = tI y k) : x = y := Int32.toBitVec_inj.mp (BitVec.eq_of_getLsbD_eq fun i hi => h i hi)
theorem tL_ext {x y : Int64} (h : ∀ k, k < 64 → tL x k = tL y k) : x = y := Int64.toBitVec_inj.mp (BitVec.eq_of_getLsbD_eq fun i hi => h i hi)
theorem eI_ex (f : Nat → Bool) : ∃ x : Int32, ∀ k, k < 32 → tI x k = f k := ⟨Int32.ofBitVec (eBV 32 f), fun _ h => eBV_get 32 f h⟩
theorem eL_ex (f : Nat → Bool) : ∃ x : Int64, ∀ k, k < 64 → tL x k = f k := ⟨Int64.ofBitVec (eBV 64 f), fun _ h => eBV_get 64 f h⟩
noncomputable def eI (f : Nat → Bool) : Int32 := Classical.choose (eI_ex f)
noncomputable def eL (f : Nat → Bool) : Int64 := Classical.choose (eL_ex f)
theorem tI_eI (f : Nat → Bool) {k : Nat} (h : k < 32) : tI (eI f) k = f k := Classical.choose_spec (eI_ex f) k h
theorem tL_eL (f : Nat → Bool) {k : Nat} (h : k < 64) : tL (eL f) k = f k := Classical.choose_spec (eL_ex f) k h
theorem tI_or (x y : Int32) (k : Nat) : tI (x ||| y) k = (tI x k || tI y k) := by simp [tI]
theorem tI_and (x y : Int32) (k : Nat) : tI (x &&& y) k = (tI x k && tI y k) := by simp [tI]
theorem tL_or (x y : Int64) (k : Nat) : tL (x ||| y) k = (tL x k || tL y k) := by simp [tL]
theorem tL_and (x y : Int64) (k : Nat) : tL (x &&& y) k = (tL x k && tL y k) := by simp [tL]
theorem tI_xm {x : Int32} {k : Nat} (h : k < 32) : tI (x ^^^ (-1)) k = !(tI x k) := by
  have e : ((-1 : Int32).toBitVec) = BitVec.allOnes 32 := by decide
  simp [tI, e, h]
theorem tL_xm {x : Int64} {k : Nat} (h : k < 64) : tL (x ^^^ (-1)) k = !(tL x k) := by
  have e : ((-1 : Int64).toBitVec) = BitVec.allOnes 64 := by decide
  simp [tL, e, h]
theorem sh_I : ∀ l, l < 32 → ((1 : Int32) <<< (nI l &&& 31)).toBitVec = BitVec.twoPow 32 l := by decide +kernel
theorem sh_L : ∀ l, l < 64 → ((1 : Int64) <<< ((nI l).toInt64 &&& 63)).toBitVec = BitVec.twoPow 64 l := by decide +kernel
theorem tI_sh {l k : Nat} (hl : l < 32) (hk : k < 32) : tI ((1 : Int32) <<< (nI l &&& 31)) k = decide (k = l) := by
  simp only [tI, sh_I l hl, BitVec.getLsbD_twoPow]
  by_cases h : l = k
  · subst h; simp [hl]
  · simp [h, Ne.symm h]
theorem tL_sh {l k : Nat} (hl : l < 64) (hk : k < 64) : tL ((1 : Int64) <<< ((nI l).toInt64 &&& 63)) k = decide (k = l) := by
  simp only [tL, sh_L l hl, BitVec.getLsbD_twoPow]
  by_cases h : l = k
  · subst h; simp [hl]
  · simp [h, Ne.symm h]
theorem eI_or (f : Nat → Bool) {l : Nat} (hl : l < 32) : eI f ||| ((1 : Int32) <<< (nI l &&& 31)) = eI (va_up f l true) := tI_ext fun k hk => by
  rw [tI_or, tI_eI _ hk, tI_eI _ hk, tI_sh hl hk]
  by_cases h : k = l <;> simp [va_up, h]
theorem eI_clr (f : Nat → Bool) {l : Nat} (hl : l < 32) : eI f &&& (((1 : Int32) <<< (nI l &&& 31)) ^^^ (-1)) = eI (va_up f l false) := tI_ext fun k hk => by
  rw [tI_and, tI_eI _ hk, tI_eI _ hk, tI_xm hk, tI_sh hl hk]
  by_cases h : k = l <;> simp [va_up, h]
theorem eL_or (f : Nat → Bool) {l : Nat} (hl : l < 64) : eL f ||| ((1 : Int64) <<< ((nI l).toInt64 &&& 63)) = eL (va_up f l true) := tL_ext fun k hk => by
  rw [tL_or, tL_eL _ hk, tL_eL _ hk, tL_sh hl hk]
  by_cases h : k = l <;> simp [va_up, h]
theorem eL_clr (f : Nat → Bool) {l : Nat} (hl : l < 64) : eL f &&& (((1 : Int64) <<< ((nI l).toInt64 &&& 63)) ^^^ (-1)) = eL (va_up f l false) := tL_ext fun k hk => by
  rw [tL_and, tL_eL _ hk, tL_eL _ hk, tL_xm hk, tL_sh hl hk]
  by_cases h : k = l <;> simp [va_up, h]
theorem eL_lor (f g : Nat → Bool) : eL f ||| eL g = eL (fun k => f k || g k) := tL_ext fun k hk => by
  rw [tL_or, tL_eL _ hk, tL_eL _ hk, tL_eL _ hk]
theorem eI_ior (f g : Nat → Bool) : eI f ||| eI g = eI (fun k => f k || g k) := tI_ext fun k hk => by
  rw [tI_or, tI_eI _ hk, tI_eI _ hk, tI_eI _ hk]
/-- an int, widened: the same bits below 32 -/
theorem tL_wide (x : Int32) {k : Nat} (hk : k < 32) : tL x.toInt64 k = tI x k := by
  have e : x.toInt64.toBitVec = x.toBitVec.signExtend 64 := rfl
  simp only [tL, tI, e, BitVec.getLsbD_signExtend]
  simp [hk, Nat.lt_trans hk (by decide : 32 < 64)]
/-- what 'holds' works out -/
theorem sr_L : ∀ l, l < 64 → ((nI l).toInt64.toUInt64 &&& Int64.toUInt64 63) = UInt64.ofNat l := by decide +kernel
theorem holds_eq (x : Int64) {k : Nat} (hk : k < 64) : ((x.toUInt64 >>> ((nI k).toInt64.toUInt64 &&& Int64.toUInt64 63)).toInt64 &&& 1) = if tL x k then 1 else 0 := by
  rw [sr_L k hk]
  apply tL_ext
  intro j hj
  rw [tL_and]
  have e1 : ∀ j, tL (1 : Int64) j = decide (j = 0) := by
    intro j
    show (1#64).getLsbD j = _
    simp [BitVec.getLsbD_one]
  have e0 : ∀ j, tL (0 : Int64) j = false := by
    intro j
    show (0#64).getLsbD j = _
    simp
  have e2 : tL (x.toUInt64 >>> UInt64.ofNat k).toInt64 j = tL x (k + j) := by
    show ((x.toUInt64 >>> UInt64.ofNat k).toBitVec).getLsbD j = _
    have h3 : ((UInt64.ofNat k).toBitVec % (64 : BitVec 64)).toNat = k := by
      rw [BitVec.toNat_umod]
      show (UInt64.ofNat k).toNat % 64 = k
      rw [UInt64.toNat_ofNat']
      omega
    simp only [UInt64.toBitVec_shiftRight, BitVec.ushiftRight_eq', BitVec.getLsbD_ushiftRight]
    rw [h3]
    rfl
  rw [e1, e2]
  by_cases h : j = 0
  · subst h
    by_cases hx : tL x k = true <;> simp [hx, e0, e1]
  · by_cases hx : tL x k = true <;> simp [hx, h, e0, e1]
theorem bI_t : bI true = 1 := rfl
theorem bI_f : bI false = 0 := rfl
theorem bI_ne0 (b : Bool) : bI b ≠ 0 ↔ b = true := by cases b <;> decide
theorem bI_eq0 (b : Bool) : bI b = 0 ↔ b = false := by cases b <;> decide
theorem bI_nar (b : Bool) : narrow .boolean (.int (bI b)) = .int (bI b) := by cases b <;> rfl
theorem bI_vnar (b : Bool) : vp_nar .boolean (bI b) = bI b := by cases b <;> rfl
theorem bI_fit (b : Bool) : fits .boolean (.int (bI b)) = true := by cases b <;> rfl
/-- functions of two numbers, changed at one place -/
def up2 {α : Type} (f : Nat → Nat → α) (i j : Nat) (x : α) : Nat → Nat → α := fun i' j' => if i' = i ∧ j' = j then x else f i' j'
theorem up2_self {α : Type} (f : Nat → Nat → α) (i j : Nat) (x : α) : up2 f i j x i j = x := by simp [up2]
theorem up2_ne {α : Type} (f : Nat → Nat → α) {i j i' j' : Nat} (x : α) (h : ¬ (i' = i ∧ j' = j)) : up2 f i j x i' j' = f i' j' := by simp [up2, h]
theorem upd_fn {f g : Nat → Int32} {k : Nat} {x : Int32} (h1 : g k = x) (h2 : ∀ j, j ≠ k → g j = f j) : upd f k x = g := by
  funext j
  by_cases h : j = k
  · subst h; simp [upd, h1]
  · simp [upd, h, h2 j h]
theorem updL_fn {f g : Nat → Int64} {k : Nat} {x : Int64} (h1 : g k = x) (h2 : ∀ j, j ≠ k → g j = f j) : vp_updL f k x = g := by
  funext j
  by_cases h : j = k
  · subst h; simp [vp_updL, h1]
  · simp [vp_updL, h, h2 j h]
def oI (k : Nat) : Int32 := if k = 0 then -1 else nI k
def eP (f : Nat → Nat) (b : Nat) : Int32 := if b = 0 then -1 else nI (f b)
end
section
/-! the state: what class and reference have in common (MS), what the class has beside it (XS) -/
abbrev MS : Type := Nat × Nat × Nat × Nat × (Nat → Nat) × (Nat → Nat) × (Nat → Nat) × (Nat → Int32) × (Nat → Nat) × (Nat → Nat) × (Nat → Bool) × (Nat → Int32) × (Nat → Nat → Bool) × (Nat → Nat → Bool) × (Nat → Nat → Nat) × (Nat → Nat → Nat)
abbrev mT (M : MS) : Nat := M.1
abbrev mP (M : MS) : Nat := M.2.1
abbrev mG (M : MS) : Nat := M.2.2.1
abbrev mC (M : MS) : Nat := M.2.2.2.1
abbrev mLd (M : MS) : Nat → Nat := M.2.2.2.2.1
abbrev mPar (M : MS) : Nat → Nat := M.2.2.2.2.2.1
abbrev mEp (M : MS) : Nat → Nat := M.2.2.2.2.2.2.1
abbrev mLo (M : MS) : Nat → Int32 := M.2.2.2.2.2.2.2.1
abbrev mHt (M : MS) : Nat → Nat := M.2.2.2.2.2.2.2.2.1
abbrev mMk (M : MS) : Nat → Nat := M.2.2.2.2.2.2.2.2.2.1
abbrev mFa (M : MS) : Nat → Bool := M.2.2.2.2.2.2.2.2.2.2.1
abbrev mWi (M : MS) : Nat → Int32 := M.2.2.2.2.2.2.2.2.2.2.2.1
abbrev mHs (M : MS) : Nat → Nat → Bool := M.2.2.2.2.2.2.2.2.2.2.2.2.1
abbrev mWy (M : MS) : Nat → Nat → Bool := M.2.2.2.2.2.2.2.2.2.2.2.2.2.1
abbrev mFc (M : MS) : Nat → Nat → Nat := M.2.2.2.2.2.2.2.2.2.2.2.2.2.2.1
abbrev mVf (M : MS) : Nat → Nat → Nat := M.2.2.2.2.2.2.2.2.2.2.2.2.2.2.2
abbrev sT (M : MS) (x : Nat) : MS := (x, M.2)
abbrev sP (M : MS) (x : Nat) : MS := (M.1, x, M.2.2)
abbrev sG (M : MS) (x : Nat) : MS := (M.1, M.2.1, x, M.2.2.2)
abbrev sC (M : MS) (x : Nat) : MS := (M.1, M.2.1, M.2.2.1, x, M.2.2.2.2)
abbrev sLd (M : MS) (x : Nat → Nat) : MS := (M.1, M.2.1, M.2.2.1, M.2.2.2.1, x, M.2.2.2.2.2)
abbrev sPar (M : MS) (x : Nat → Nat) : MS := (M.1, M.2.1, M.2.2.1, M.2.2.2.1, M.2.2.2.2.1, x, M.2.2.2.2.2.2)
abbrev sEp (M : MS) (x : Nat → Nat) : MS := (M.1, M.2.1, M.2.2.1, M.2.2.2.1, M.2.2.2.2.1, M.2.2.2.2.2.1, x, M.2.2.2.2.2.2.2)
abbrev sLo (M : MS) (x : Nat → Int32) : MS := (M.1, M.2.1, M.2.2.1, M.2.2.2.1, M.2.2.2.2.1, M.2.2.2.2.2.1, M.2.2.2.2.2.2.1, x, M.2.2.2.2.2.2.2.2)
abbrev sHt (M : MS) (x : Nat → Nat) : MS := (M.1, M.2.1, M.2.2.1, M.2.2.2.1, M.2.2.2.2.1, M.2.2.2.2.2.1, M.2.2.2.2.2.2.1, M.2.2.2.2.2.2.2.1, x, M.2.2.2.2.2.2.2.2.2)
abbrev sMk (M : MS) (x : Nat → Nat) : MS := (M.1, M.2.1, M.2.2.1, M.2.2.2.1, M.2.2.2.2.1, M.2.2.2.2.2.1, M.2.2.2.2.2.2.1, M.2.2.2.2.2.2.2.1, M.2.2.2.2.2.2.2.2.1, x, M.2.2.2.2.2.2.2.2.2.2)
abbrev sFa (M : MS) (x : Nat → Bool) : MS := (M.1, M.2.1, M.2.2.1, M.2.2.2.1, M.2.2.2.2.1, M.2.2.2.2.2.1, M.2.2.2.2.2.2.1, M.2.2.2.2.2.2.2.1, M.2.2.2.2.2.2.2.2.1, M.2.2.2.2.2.2.2.2.2.1, x, M.2.2.2.2.2.2.2.2.2.2.2)
abbrev sWi (M : MS) (x : Nat → Int32) : MS := (M.1, M.2.1, M.2.2.1, M.2.2.2.1, M.2.2.2.2.1, M.2.2.2.2.2.1, M.2.2.2.2.2.2.1, M.2.2.2.2.2.2.2.1, M.2.2.2.2.2.2.2.2.1, M.2.2.2.2.2.2.2.2.2.1, M.2.2.2.2.2.2.2.2.2.2.1, x, M.2.2.2.2.2.2.2.2.2.2.2.2)
abbrev sHs (M : MS) (x : Nat → Nat → Bool) : MS := (M.1, M.2.1, M.2.2.1, M.2.2.2.1, M.2.2.2.2.1, M.2.2.2.2.2.1, M.2.2.2.2.2.2.1, M.2.2.2.2.2.2.2.1, M.2.2.2.2.2.2.2.2.1, M.2.2.2.2.2.2.2.2.2.1, M.2.2.2.2.2.2.2.2.2.2.1, M.2.2.2.2.2.2.2.2.2.2.2.1, x, M.2.2.2.2.2.2.2.2.2.2.2.2.2)
abbrev sWy (M : MS) (x : Nat → Nat → Bool) : MS := (M.1, M.2.1, M.2.2.1, M.2.2.2.1, M.2.2.2.2.1, M.2.2.2.2.2.1, M.2.2.2.2.2.2.1, M.2.2.2.2.2.2.2.1, M.2.2.2.2.2.2.2.2.1, M.2.2.2.2.2.2.2.2.2.1, M.2.2.2.2.2.2.2.2.2.2.1, M.2.2.2.2.2.2.2.2.2.2.2.1, M.2.2.2.2.2.2.2.2.2.2.2.2.1, x, M.2.2.2.2.2.2.2.2.2.2.2.2.2.2)
abbrev sFc (M : MS) (x : Nat → Nat → Nat) : MS := (M.1, M.2.1, M.2.2.1, M.2.2.2.1, M.2.2.2.2.1, M.2.2.2.2.2.1, M.2.2.2.2.2.2.1, M.2.2.2.2.2.2.2.1, M.2.2.2.2.2.2.2.2.1, M.2.2.2.2.2.2.2.2.2.1, M.2.2.2.2.2.2.2.2.2.2.1, M.2.2.2.2.2.2.2.2.2.2.2.1, M.2.2.2.2.2.2.2.2.2.2.2.2.1, M.2.2.2.2.2.2.2.2.2.2.2.2.2.1, x, M.2.2.2.2.2.2.2.2.2.2.2.2.2.2.2)
abbrev sVf (M : MS) (x : Nat → Nat → Nat) : MS := (M.1, M.2.1, M.2.2.1, M.2.2.2.1, M.2.2.2.2.1, M.2.2.2.2.2.1, M.2.2.2.2.2.2.1, M.2.2.2.2.2.2.2.1, M.2.2.2.2.2.2.2.2.1, M.2.2.2.2.2.2.2.2.2.1, M.2.2.2.2.2.2.2.2.2.2.1, M.2.2.2.2.2.2.2.2.2.2.2.1, M.2.2.2.2.2.2.2.2.2.2.2.2.1, M.2.2.2.2.2.2.2.2.2.2.2.2.2.1, M.2.2.2.2.2.2.2.2.2.2.2.2.2.2.1, x)
abbrev XS : Type := (Nat → Nat → Bool) × (Nat → Int32) × (Nat → Nat → Bool) × (Nat → Nat → Bool) × (Nat → Nat → Bool) × (Nat → Nat) × (Nat → Nat)
abbrev xCh (M : XS) : Nat → Nat → Bool := M.1
abbrev xCl (M : XS) : Nat → Int32 := M.2.1
abbrev xKn (M : XS) : Nat → Nat → Bool := M.2.2.1
abbrev xNo (M : XS) : Nat → Nat → Bool := M.2.2.2.1
abbrev xFi (M : XS) : Nat → Nat → Bool := M.2.2.2.2.1
abbrev xTp (M : XS) : Nat → Nat := M.2.2.2.2.2.1
abbrev xHf (M : XS) : Nat → Nat := M.2.2.2.2.2.2
abbrev tCh (M : XS) (x : Nat → Nat → Bool) : XS := (x, M.2)
abbrev tCl (M : XS) (x : Nat → Int32) : XS := (M.1, x, M.2.2)
abbrev tKn (M : XS) (x : Nat → Nat → Bool) : XS := (M.1, M.2.1, x, M.2.2.2)
abbrev tNo (M : XS) (x : Nat → Nat → Bool) : XS := (M.1, M.2.1, M.2.2.1, x, M.2.2.2.2)
abbrev tFi (M : XS) (x : Nat → Nat → Bool) : XS := (M.1, M.2.1, M.2.2.1, M.2.2.2.1, x, M.2.2.2.2.2)
abbrev tTp (M : XS) (x : Nat → Nat) : XS := (M.1, M.2.1, M.2.2.1, M.2.2.2.1, M.2.2.2.2.1, x, M.2.2.2.2.2.2)
abbrev tHf (M : XS) (x : Nat → Nat) : XS := (M.1, M.2.1, M.2.2.1, M.2.2.2.1, M.2.2.2.2.1, M.2.2.2.2.2.1, x)
abbrev CS : Type := MS × XS
/-- votes of a node for a block, as bits -/
def vB (f : Nat → Nat → Bool) (b v : Nat) : Nat → Bool := fun x => decide (x < 10) && f (11 * b + 1 + x) v
/-- proposals that a node has, as bits -/
def pB (f : Nat → Nat → Bool) (v : Nat) : Nat → Bool := fun b => f (11 * b) v
abbrev fsC (G : kG) (u : CS) : List Value := [.ref (gL G 3), .ref (gL G 1), .ref (gL G 2), .int (nI (mP u.1)), .int (nI (mG u.1)), .int (nI (mC u.1))]
abbrev fsB (G : kG) (u : CS) : List Value := [.ref (gL G 4), .ref (gL G 5), .ref (gL G 6), .ref (gL G 7), .ref (gL G 8), .ref (gL G 9), .ref (gL G 10), .int (nI (mT u.1))]
noncomputable abbrev fsN (G : kG) (u : CS) (v : Nat) : List Value := [.int (nI v), .int (nI (gn G)), .ref (gL G 3), .int (bI (mFa u.1 v)), .int (mWi u.1 v), .long (eL (pB (mHs u.1) v)), .long (eL (pB (mWy u.1) v)), .ref (gL G (12 + 5 * v)), .ref (gL G (13 + 5 * v)), .ref (gL G (14 + 5 * v)), .ref (gL G (15 + 5 * v)), .long (eL (xKn u.2 v)), .long (eL (xNo u.2 v)), .long (eL (xFi u.2 v)), .int (nI (xTp u.2 v)), .int (nI (xHf u.2 v))]
noncomputable def gbC (G : kG) (u : CS) (k : Nat) : va_E := match k with
  | 0 => .inr (2, fsC G u)
  | 1 => .inl (gO G, gn G, .inr (.inr (.inr (.inr (fun v => some (gL G (11 + 5 * v)))))))
  | 2 => .inl (gI G, 41, .inl (fun e => nI (mLd u.1 e)))
  | 3 => .inr (0, fsB G u)
  | 4 => .inl (gI G, 61, .inl (eP (mPar u.1)))
  | 5 => .inl (gI G, 61, .inl (fun b => nI (mEp u.1 b)))
  | 6 => .inl (gI G, 61, .inl (mLo u.1))
  | 7 => .inl (gI G, 61, .inl (fun b => nI (mHt u.1 b)))
  | 8 => .inl (gI G, 61, .inl (eP (mMk u.1)))
  | 9 => .inl (gJ G, 61, .inr (.inl (fun b => eL (xCh u.2 b))))
  | _ => .inl (gI G, 61, .inl (xCl u.2))
noncomputable def ndC (G : kG) (u : CS) (v i : Nat) : va_E := match i with
  | 0 => .inr (1, fsN G u v)
  | 1 => .inl (gI G, 61, .inl (fun b => eI (vB (mHs u.1) b v)))
  | 2 => .inl (gI G, 61, .inl (fun b => eI (vB (mWy u.1) b v)))
  | 3 => .inl (gI G, 41, .inl (fun e => oI (mFc u.1 v e)))
  | _ => .inl (gI G, 41, .inl (fun e => oI (mVf u.1 v e)))
noncomputable def ctC (G : kG) (u : CS) (k : Nat) : va_E := if k < 11 then gbC G u k else ndC G u ((k - 11) / 5) ((k - 11) % 5)
/-- the world of a StreamChain -/
noncomputable def wC (G : kG) (u : CS) : va_W := (List.range (11 + 5 * gn G)).map (fun k => (gL G k, ctC G u k))
def AC (G : kG) : Nat → Prop := fun q => ∃ k, k < 11 + 5 * gn G ∧ q = gL G k
/-- the addresses are apart -/
def lay (G : kG) : Prop := ∀ i j, i < 11 + 5 * gn G → j < 11 + 5 * gn G → gL G i = gL G j → i = j
theorem wC_at (G : kG) (u : CS) {k : Nat} (h : k < 11 + 5 * gn G) : (wC G u)[k]? = some (gL G k, ctC G u k) := by
  simp [wC, h]
theorem wC_some {G : kG} {u : CS} {k : Nat} {q : Nat × va_E} (h : (wC G u)[k]? = some q) : k < 11 + 5 * gn G ∧ q = (gL G k, ctC G u k) := by
  by_cases hk : k < 11 + 5 * gn G
  · rw [wC_at G u hk] at h
    exact ⟨hk, (Option.some.inj h).symm⟩
  · simp [wC, hk] at h
theorem wC_D {G : kG} (hL : lay G) (u : CS) : va_D (AC G) (wC G u) := by
  refine ⟨fun i j p q hi hj h => ?_, fun k q hk => ?_⟩
  · obtain ⟨h1, rfl⟩ := wC_some hi
    obtain ⟨h2, rfl⟩ := wC_some hj
    exact hL i j h1 h2 h
  · obtain ⟨h1, rfl⟩ := wC_some hk
    exact ⟨k, h1, rfl⟩
theorem wC_g (G : kG) (u : CS) {k : Nat} (h : k < 11) : (wC G u)[k]? = some (gL G k, gbC G u k) := by
  rw [wC_at G u (by omega)]
  simp [ctC, h]
theorem ctC_n (G : kG) (u : CS) (v : Nat) {i : Nat} (hi : i < 5) : ctC G u (11 + 5 * v + i) = ndC G u v i := by
  have e1 : (11 + 5 * v + i - 11) / 5 = v := by omega
  have e2 : (11 + 5 * v + i - 11) % 5 = i := by omega
  simp only [ctC]
  rw [if_neg (by omega), e1, e2]
theorem wC_n (G : kG) (u : CS) {v i : Nat} (hv : v < gn G) (hi : i < 5) : (wC G u)[11 + 5 * v + i]? = some (gL G (11 + 5 * v + i), ndC G u v i) := by
  rw [wC_at G u (by omega), ctC_n G u v hi]
theorem wC_n0 (G : kG) (u : CS) {v : Nat} (hv : v < gn G) : (wC G u)[11 + 5 * v]? = some (gL G (11 + 5 * v), .inr (1, fsN G u v)) := wC_n G u (i := 0) hv (by decide)
theorem wC_n1 (G : kG) (u : CS) {v : Nat} (hv : v < gn G) : (wC G u)[12 + 5 * v]? = some (gL G (12 + 5 * v), ndC G u v 1) := by have h := wC_n G u (i := 1) hv (by decide); rw [show 11 + 5 * v + 1 = 12 + 5 * v by omega] at h; exact h
theorem wC_n2 (G : kG) (u : CS) {v : Nat} (hv : v < gn G) : (wC G u)[13 + 5 * v]? = some (gL G (13 + 5 * v), ndC G u v 2) := by have h := wC_n G u (i := 2) hv (by decide); rw [show 11 + 5 * v + 2 = 13 + 5 * v by omega] at h; exact h
theorem wC_n3 (G : kG) (u : CS) {v : Nat} (hv : v < gn G) : (wC G u)[14 + 5 * v]? = some (gL G (14 + 5 * v), ndC G u v 3) := by have h := wC_n G u (i := 3) hv (by decide); rw [show 11 + 5 * v + 3 = 14 + 5 * v by omega] at h; exact h
theorem wC_n4 (G : kG) (u : CS) {v : Nat} (hv : v < gn G) : (wC G u)[15 + 5 * v]? = some (gL G (15 + 5 * v), ndC G u v 4) := by have h := wC_n G u (i := 4) hv (by decide); rw [show 11 + 5 * v + 4 = 15 + 5 * v by omega] at h; exact h
theorem lt11 {Q : Nat → Prop} (h0 : Q 0) (h1 : Q 1) (h2 : Q 2) (h3 : Q 3) (h4 : Q 4) (h5 : Q 5) (h6 : Q 6) (h7 : Q 7) (h8 : Q 8) (h9 : Q 9) (h10 : Q 10) : ∀ j, j < 11 → Q j := by
  intro j hj
  match j, hj with
  | 0, _ => exact h0
  | 1, _ => exact h1
  | 2, _ => exact h2
  | 3, _ => exact h3
  | 4, _ => exact h4
  | 5, _ => exact h5
  | 6, _ => exact h6
  | 7, _ => exact h7
  | 8, _ => exact h8
  | 9, _ => exact h9
  | 10, _ => exact h10
theorem wC_set {G : kG} {u u' : CS} {k : Nat} {e : va_E} (hk : k < 11 + 5 * gn G) (h1 : ctC G u' k = e) (h2 : ∀ j, j < 11 + 5 * gn G → j ≠ k → ctC G u' j = ctC G u j) : (wC G u).set k (gL G k, e) = wC G u' := by
  apply List.ext_getElem?
  intro j
  by_cases hj : j < 11 + 5 * gn G
  · rw [wC_at G u' hj]
    by_cases hjk : j = k
    · subst hjk
      rw [List.getElem?_set_self (by simp [wC]; exact hk), h1]
    · rw [List.getElem?_set_ne (Ne.symm hjk), wC_at G u hj, h2 j hj hjk]
  · rw [List.getElem?_eq_none (by simp [wC]; omega), List.getElem?_eq_none (by simp [wC]; omega)]
theorem wC_setg {G : kG} {u u' : CS} {k : Nat} {e : va_E} (hk : k < 11) (h1 : gbC G u' k = e) (h2 : ∀ j, j < 11 → j ≠ k → gbC G u' j = gbC G u j) (h3 : ∀ v i, v < gn G → i < 5 → ndC G u' v i = ndC G u v i) : (wC G u).set k (gL G k, e) = wC G u' := by
  refine wC_set (by omega) (by simp only [ctC, if_pos hk]; exact h1) (fun j hj hjk => ?_)
  by_cases h : j < 11
  · simp only [ctC, if_pos h]
    exact h2 j h hjk
  · simp only [ctC, if_neg h]
    exact h3 _ _ (by omega) (by omega)
theorem wC_setn {G : kG} {u u' : CS} {v i : Nat} {e : va_E} (hv : v < gn G) (hi : i < 5) (h1 : ndC G u' v i = e) (h2 : ∀ j, j < 11 → gbC G u' j = gbC G u j) (h3 : ∀ v' i', v' < gn G → i' < 5 → ¬ (v' = v ∧ i' = i) → ndC G u' v' i' = ndC G u v' i') : (wC G u).set (11 + 5 * v + i) (gL G (11 + 5 * v + i), e) = wC G u' := by
  refine wC_set (by omega) (by rw [ctC_n G u' v hi]; exact h1) (fun j hj hjk => ?_)
  by_cases h : j < 11
  · simp only [ctC, if_pos h]
    exact h2 j h
  · simp only [ctC, if_neg h]
    exact h3 _ _ (by omega) (by omega) (by omega)
theorem cs_P (G : kG) (u : CS) (x : Nat) : (wC G u).set 0 (gL G 0, .inr (2, (fsC G u).set 3 (.int (nI x)))) = wC G (sP u.1 x, u.2) := wC_setg (by decide) (rfl) (fun j hj => lt11 (Q := fun j => j ≠ 0 → gbC G (sP u.1 x, u.2) j = gbC G u j) (fun h => absurd rfl h) (fun _ => rfl) (fun _ => rfl) (fun _ => rfl) (fun _ => rfl) (fun _ => rfl) (fun _ => rfl) (fun _ => rfl) (fun _ => rfl) (fun _ => rfl) (fun _ => rfl) j hj) (fun v i _ _ => rfl)
theorem cs_G (G : kG) (u : CS) (x : Nat) : (wC G u).set 0 (gL G 0, .inr (2, (fsC G u).set 4 (.int (nI x)))) = wC G (sG u.1 x, u.2) := wC_setg (by decide) (rfl) (fun j hj => lt11 (Q := fun j => j ≠ 0 → gbC G (sG u.1 x, u.2) j = gbC G u j) (fun h => absurd rfl h) (fun _ => rfl) (fun _ => rfl) (fun _ => rfl) (fun _ => rfl) (fun _ => rfl) (fun _ => rfl) (fun _ => rfl) (fun _ => rfl) (fun _ => rfl) (fun _ => rfl) j hj) (fun v i _ _ => rfl)
theorem cs_C (G : kG) (u : CS) (x : Nat) : (wC G u).set 0 (gL G 0, .inr (2, (fsC G u).set 5 (.int (nI x)))) = wC G (sC u.1 x, u.2) := wC_setg (by decide) (rfl) (fun j hj => lt11 (Q := fun j => j ≠ 0 → gbC G (sC u.1 x, u.2) j = gbC G u j) (fun h => absurd rfl h) (fun _ => rfl) (fun _ => rfl) (fun _ => rfl) (fun _ => rfl) (fun _ => rfl) (fun _ => rfl) (fun _ => rfl) (fun _ => rfl) (fun _ => rfl) (fun _ => rfl) j hj) (fun v i _ _ => rfl)
theorem cs_Ld (G : kG) (u : CS) (k x : Nat) : (wC G u).set 2 (gL G 2, .inl (gI G, 41, .inl (upd (fun e => nI (mLd u.1 e)) k (nI x)))) = wC G (sLd u.1 (va_up (mLd u.1) k x), u.2) := wC_setg (by decide) (congrArg (fun f => (.inl (gI G, 41, .inl f) : va_E)) (upd_fn (g := fun e => nI (va_up (mLd u.1) k x e)) (by simp [va_up]) (fun j h => by simp [va_up, h])).symm) (fun j hj => lt11 (Q := fun j => j ≠ 2 → gbC G (sLd u.1 (va_up (mLd u.1) k x), u.2) j = gbC G u j) (fun _ => rfl) (fun _ => rfl) (fun h => absurd rfl h) (fun _ => rfl) (fun _ => rfl) (fun _ => rfl) (fun _ => rfl) (fun _ => rfl) (fun _ => rfl) (fun _ => rfl) (fun _ => rfl) j hj) (fun v i _ _ => rfl)
theorem cs_T (G : kG) (u : CS) (x : Nat) : (wC G u).set 3 (gL G 3, .inr (0, (fsB G u).set 7 (.int (nI x)))) = wC G (sT u.1 x, u.2) := wC_setg (by decide) (rfl) (fun j hj => lt11 (Q := fun j => j ≠ 3 → gbC G (sT u.1 x, u.2) j = gbC G u j) (fun _ => rfl) (fun _ => rfl) (fun _ => rfl) (fun h => absurd rfl h) (fun _ => rfl) (fun _ => rfl) (fun _ => rfl) (fun _ => rfl) (fun _ => rfl) (fun _ => rfl) (fun _ => rfl) j hj) (fun v i _ _ => rfl)
theorem cs_Par (G : kG) (u : CS) {k : Nat} (hk : 0 < k) (x : Nat) : (wC G u).set 4 (gL G 4, .inl (gI G, 61, .inl (upd (eP (mPar u.1)) k (nI x)))) = wC G (sPar u.1 (va_up (mPar u.1) k x), u.2) := wC_setg (by decide) (congrArg (fun f => (.inl (gI G, 61, .inl f) : va_E)) (upd_fn (g := eP (va_up (mPar u.1) k x)) (by simp [eP, va_up, Nat.ne_of_gt hk]) (fun j h => by simp [eP, va_up, h])).symm) (fun j hj => lt11 (Q := fun j => j ≠ 4 → gbC G (sPar u.1 (va_up (mPar u.1) k x), u.2) j = gbC G u j) (fun _ => rfl) (fun _ => rfl) (fun _ => rfl) (fun _ => rfl) (fun h => absurd rfl h) (fun _ => rfl) (fun _ => rfl) (fun _ => rfl) (fun _ => rfl) (fun _ => rfl) (fun _ => rfl) j hj) (fun v i _ _ => rfl)
theorem cs_Ep (G : kG) (u : CS) (k x : Nat) : (wC G u).set 5 (gL G 5, .inl (gI G, 61, .inl (upd (fun b => nI (mEp u.1 b)) k (nI x)))) = wC G (sEp u.1 (va_up (mEp u.1) k x), u.2) := wC_setg (by decide) (congrArg (fun f => (.inl (gI G, 61, .inl f) : va_E)) (upd_fn (g := fun e => nI (va_up (mEp u.1) k x e)) (by simp [va_up]) (fun j h => by simp [va_up, h])).symm) (fun j hj => lt11 (Q := fun j => j ≠ 5 → gbC G (sEp u.1 (va_up (mEp u.1) k x), u.2) j = gbC G u j) (fun _ => rfl) (fun _ => rfl) (fun _ => rfl) (fun _ => rfl) (fun _ => rfl) (fun h => absurd rfl h) (fun _ => rfl) (fun _ => rfl) (fun _ => rfl) (fun _ => rfl) (fun _ => rfl) j hj) (fun v i _ _ => rfl)
theorem cs_Lo (G : kG) (u : CS) (k : Nat) (x : Int32) : (wC G u).set 6 (gL G 6, .inl (gI G, 61, .inl (upd (mLo u.1) k x))) = wC G (sLo u.1 (va_up (mLo u.1) k x), u.2) := wC_setg (by decide) (congrArg (fun f => (.inl (gI G, 61, .inl f) : va_E)) (upd_fn (g := va_up (mLo u.1) k x) (by simp [va_up]) (fun j h => by simp [va_up, h])).symm) (fun j hj => lt11 (Q := fun j => j ≠ 6 → gbC G (sLo u.1 (va_up (mLo u.1) k x), u.2) j = gbC G u j) (fun _ => rfl) (fun _ => rfl) (fun _ => rfl) (fun _ => rfl) (fun _ => rfl) (fun _ => rfl) (fun h => absurd rfl h) (fun _ => rfl) (fun _ => rfl) (fun _ => rfl) (fun _ => rfl) j hj) (fun v i _ _ => rfl)
theorem cs_Ht (G : kG) (u : CS) (k x : Nat) : (wC G u).set 7 (gL G 7, .inl (gI G, 61, .inl (upd (fun b => nI (mHt u.1 b)) k (nI x)))) = wC G (sHt u.1 (va_up (mHt u.1) k x), u.2) := wC_setg (by decide) (congrArg (fun f => (.inl (gI G, 61, .inl f) : va_E)) (upd_fn (g := fun e => nI (va_up (mHt u.1) k x e)) (by simp [va_up]) (fun j h => by simp [va_up, h])).symm) (fun j hj => lt11 (Q := fun j => j ≠ 7 → gbC G (sHt u.1 (va_up (mHt u.1) k x), u.2) j = gbC G u j) (fun _ => rfl) (fun _ => rfl) (fun _ => rfl) (fun _ => rfl) (fun _ => rfl) (fun _ => rfl) (fun _ => rfl) (fun h => absurd rfl h) (fun _ => rfl) (fun _ => rfl) (fun _ => rfl) j hj) (fun v i _ _ => rfl)
theorem cs_Mk (G : kG) (u : CS) {k : Nat} (hk : 0 < k) (x : Nat) : (wC G u).set 8 (gL G 8, .inl (gI G, 61, .inl (upd (eP (mMk u.1)) k (nI x)))) = wC G (sMk u.1 (va_up (mMk u.1) k x), u.2) := wC_setg (by decide) (congrArg (fun f => (.inl (gI G, 61, .inl f) : va_E)) (upd_fn (g := eP (va_up (mMk u.1) k x)) (by simp [eP, va_up, Nat.ne_of_gt hk]) (fun j h => by simp [eP, va_up, h])).symm) (fun j hj => lt11 (Q := fun j => j ≠ 8 → gbC G (sMk u.1 (va_up (mMk u.1) k x), u.2) j = gbC G u j) (fun _ => rfl) (fun _ => rfl) (fun _ => rfl) (fun _ => rfl) (fun _ => rfl) (fun _ => rfl) (fun _ => rfl) (fun _ => rfl) (fun h => absurd rfl h) (fun _ => rfl) (fun _ => rfl) j hj) (fun v i _ _ => rfl)
theorem cs_Ch (G : kG) (u : CS) (k : Nat) (f : Nat → Bool) : (wC G u).set 9 (gL G 9, .inl (gJ G, 61, .inr (.inl (vp_updL (fun b => eL (xCh u.2 b)) k (eL f))))) = wC G (u.1, tCh u.2 (va_up (xCh u.2) k f)) := wC_setg (by decide) (congrArg (fun f => (.inl (gJ G, 61, .inr (.inl f)) : va_E)) (updL_fn (g := fun b => eL (va_up (xCh u.2) k f b)) (by simp [va_up]) (fun j h => by simp [va_up, h])).symm) (fun j hj => lt11 (Q := fun j => j ≠ 9 → gbC G (u.1, tCh u.2 (va_up (xCh u.2) k f)) j = gbC G u j) (fun _ => rfl) (fun _ => rfl) (fun _ => rfl) (fun _ => rfl) (fun _ => rfl) (fun _ => rfl) (fun _ => rfl) (fun _ => rfl) (fun _ => rfl) (fun h => absurd rfl h) (fun _ => rfl) j hj) (fun v i _ _ => rfl)
theorem cs_Cl (G : kG) (u : CS) (k : Nat) (x : Int32) : (wC G u).set 10 (gL G 10, .inl (gI G, 61, .inl (upd (xCl u.2) k x))) = wC G (u.1, tCl u.2 (va_up (xCl u.2) k x)) := wC_setg (by decide) (congrArg (fun f => (.inl (gI G, 61, .inl f) : va_E)) (upd_fn (g := va_up (xCl u.2) k x) (by simp [va_up]) (fun j h => by simp [va_up, h])).symm) (fun j hj => lt11 (Q := fun j => j ≠ 10 → gbC G (u.1, tCl u.2 (va_up (xCl u.2) k x)) j = gbC G u j) (fun _ => rfl) (fun _ => rfl) (fun _ => rfl) (fun _ => rfl) (fun _ => rfl) (fun _ => rfl) (fun _ => rfl) (fun _ => rfl) (fun _ => rfl) (fun _ => rfl) (fun h => absurd rfl h) j hj) (fun v i _ _ => rfl)
end
section
/-! changes at a node -/
theorem fsN_congr {G : kG} {u u' : CS} {v : Nat} (h3 : mFa u'.1 v = mFa u.1 v) (h4 : mWi u'.1 v = mWi u.1 v) (h5 : pB (mHs u'.1) v = pB (mHs u.1) v) (h6 : pB (mWy u'.1) v = pB (mWy u.1) v) (h11 : xKn u'.2 v = xKn u.2 v) (h12 : xNo u'.2 v = xNo u.2 v) (h13 : xFi u'.2 v = xFi u.2 v) (h14 : xTp u'.2 v = xTp u.2 v) (h15 : xHf u'.2 v = xHf u.2 v) : fsN G u' v = fsN G u v := by
  simp only [fsN, h3, h4, h5, h6, h11, h12, h13, h14, h15]
theorem ndC_congr {G : kG} {u u' : CS} {v i : Nat} (hi : i < 5) (h0 : i = 0 → fsN G u' v = fsN G u v) (h1 : i = 1 → ∀ b, vB (mHs u'.1) b v = vB (mHs u.1) b v) (h2 : i = 2 → ∀ b, vB (mWy u'.1) b v = vB (mWy u.1) b v) (h3 : i = 3 → mFc u'.1 v = mFc u.1 v) (h4 : i = 4 → mVf u'.1 v = mVf u.1 v) : ndC G u' v i = ndC G u v i := by
  match i, hi with
  | 0, _ => simp only [ndC, h0 rfl]
  | 1, _ => simp only [ndC, h1 rfl]
  | 2, _ => simp only [ndC, h2 rfl]
  | 3, _ => simp only [ndC, h3 rfl]
  | 4, _ => simp only [ndC, h4 rfl]
theorem pB_up (f : Nat → Nat → Bool) (b v : Nat) (y : Bool) : pB (up2 f (11 * b) v y) v = va_up (pB f v) b y := by
  funext k
  by_cases h : k = b
  · subst h; simp [pB, up2, va_up]
  · have : ¬ 11 * k = 11 * b := by omega
    simp [pB, up2, va_up, h, this]
theorem pB_ne (f : Nat → Nat → Bool) {l v v' : Nat} (y : Bool) (h : v' ≠ v) : pB (up2 f l v y) v' = pB f v' := by
  funext k
  simp [pB, up2, h]
theorem pB_vote (f : Nat → Nat → Bool) {b x v : Nat} (y : Bool) (hx : x < 10) (v' : Nat) : pB (up2 f (11 * b + 1 + x) v y) v' = pB f v' := by
  funext k
  have : ¬ 11 * k = 11 * b + 1 + x := by omega
  simp [pB, up2, this]
theorem vB_prop (f : Nat → Nat → Bool) (b v : Nat) (y : Bool) (b' v' : Nat) : vB (up2 f (11 * b) v y) b' v' = vB f b' v' := by
  funext x
  by_cases hx : x < 10
  · have : ¬ 11 * b' + 1 + x = 11 * b := by omega
    simp [vB, up2, this]
  · simp [vB, hx]
theorem vB_ne (f : Nat → Nat → Bool) {l v v' : Nat} (y : Bool) (h : v' ≠ v) (b' : Nat) : vB (up2 f l v y) b' v' = vB f b' v' := by
  funext x
  simp [vB, up2, h]
theorem vB_up (f : Nat → Nat → Bool) {b x v : Nat} (y : Bool) (hx : x < 10) : vB (up2 f (11 * b + 1 + x) v y) b v = va_up (vB f b v) x y := by
  funext k
  by_cases h : k = x
  · subst h; simp [vB, up2, va_up, hx]
  · have : ¬ 11 * b + 1 + k = 11 * b + 1 + x := by omega
    simp [vB, up2, va_up, h]
theorem vB_nb (f : Nat → Nat → Bool) {b x v : Nat} (y : Bool) (hx : x < 10) {b' : Nat} (h : b' ≠ b) (v' : Nat) : vB (up2 f (11 * b + 1 + x) v y) b' v' = vB f b' v' := by
  funext k
  by_cases hk : k < 10
  · have : ¬ 11 * b' + 1 + k = 11 * b + 1 + x := by omega
    simp [vB, up2, this]
  · simp [vB, hk]
theorem up2_row {α : Type} (f : Nat → Nat → α) (i j : Nat) (x : α) : up2 f i j x i = va_up (f i) j x := by
  funext k
  by_cases h : k = j <;> simp [up2, va_up, h]
theorem up2_rne {α : Type} (f : Nat → Nat → α) {i i' : Nat} (j : Nat) (x : α) (h : i' ≠ i) : up2 f i j x i' = f i' := by
  funext k
  simp [up2, h]
theorem cn_Fa (G : kG) (u : CS) {v : Nat} (hv : v < gn G) (x : Bool) : (wC G u).set (11 + 5 * v) (gL G (11 + 5 * v), .inr (1, (fsN G u v).set 3 (.int (bI x)))) = wC G (sFa u.1 (va_up (mFa u.1) v x), u.2) :=
  wC_setn (i := 0) hv (by decide) (by
    have e : mFa (sFa u.1 (va_up (mFa u.1) v x), u.2).1 v = x := va_up_self _ _ _
    show (Sum.inr (1, fsN G (sFa u.1 (va_up (mFa u.1) v x), u.2) v) : va_E) = .inr (1, (fsN G u v).set 3 (.int (bI x)))
    simp only [fsN, List.set] at e ⊢
    rw [e])
    (fun j hj => lt11 (Q := fun j => gbC G (sFa u.1 (va_up (mFa u.1) v x), u.2) j = gbC G u j) rfl rfl rfl rfl rfl rfl rfl rfl rfl rfl rfl j hj)
    (fun v' i' hv' hi' hne => ndC_congr hi' (fun hz => have h : v' ≠ v := fun q => hne ⟨q, hz⟩; fsN_congr (va_up_ne _ _ h) (rfl) (rfl) (rfl) (rfl) (rfl) (rfl) (rfl) (rfl)) (fun _ _ => rfl) (fun _ _ => rfl) (fun _ => rfl) (fun _ => rfl))
theorem cn_Wi (G : kG) (u : CS) {v : Nat} (hv : v < gn G) (x : Int32) : (wC G u).set (11 + 5 * v) (gL G (11 + 5 * v), .inr (1, (fsN G u v).set 4 (.int x))) = wC G (sWi u.1 (va_up (mWi u.1) v x), u.2) :=
  wC_setn (i := 0) hv (by decide) (by
    have e : mWi (sWi u.1 (va_up (mWi u.1) v x), u.2).1 v = x := va_up_self _ _ _
    show (Sum.inr (1, fsN G (sWi u.1 (va_up (mWi u.1) v x), u.2) v) : va_E) = .inr (1, (fsN G u v).set 4 (.int x))
    simp only [fsN, List.set] at e ⊢
    rw [e])
    (fun j hj => lt11 (Q := fun j => gbC G (sWi u.1 (va_up (mWi u.1) v x), u.2) j = gbC G u j) rfl rfl rfl rfl rfl rfl rfl rfl rfl rfl rfl j hj)
    (fun v' i' hv' hi' hne => ndC_congr hi' (fun hz => have h : v' ≠ v := fun q => hne ⟨q, hz⟩; fsN_congr (rfl) (va_up_ne _ _ h) (rfl) (rfl) (rfl) (rfl) (rfl) (rfl) (rfl)) (fun _ _ => rfl) (fun _ _ => rfl) (fun _ => rfl) (fun _ => rfl))
theorem cn_Hs (G : kG) (u : CS) {v : Nat} (hv : v < gn G) (b : Nat) (x : Bool) : (wC G u).set (11 + 5 * v) (gL G (11 + 5 * v), .inr (1, (fsN G u v).set 5 (.long (eL (va_up (pB (mHs u.1) v) b x))))) = wC G (sHs u.1 (up2 (mHs u.1) (11 * b) v x), u.2) :=
  wC_setn (i := 0) hv (by decide) (by
    have e : pB (mHs (sHs u.1 (up2 (mHs u.1) (11 * b) v x), u.2).1) v = va_up (pB (mHs u.1) v) b x := pB_up _ _ _ _
    show (Sum.inr (1, fsN G (sHs u.1 (up2 (mHs u.1) (11 * b) v x), u.2) v) : va_E) = .inr (1, (fsN G u v).set 5 (.long (eL (va_up (pB (mHs u.1) v) b x))))
    simp only [fsN, List.set] at e ⊢
    rw [e])
    (fun j hj => lt11 (Q := fun j => gbC G (sHs u.1 (up2 (mHs u.1) (11 * b) v x), u.2) j = gbC G u j) rfl rfl rfl rfl rfl rfl rfl rfl rfl rfl rfl j hj)
    (fun v' i' hv' hi' hne => ndC_congr hi' (fun hz => have h : v' ≠ v := fun q => hne ⟨q, hz⟩; fsN_congr (rfl) (rfl) (pB_ne _ _ h) (rfl) (rfl) (rfl) (rfl) (rfl) (rfl)) (fun _ b' => vB_prop _ _ _ _ _ _) (fun _ _ => rfl) (fun _ => rfl) (fun _ => rfl))
theorem cn_Wy (G : kG) (u : CS) {v : Nat} (hv : v < gn G) (b : Nat) (x : Bool) : (wC G u).set (11 + 5 * v) (gL G (11 + 5 * v), .inr (1, (fsN G u v).set 6 (.long (eL (va_up (pB (mWy u.1) v) b x))))) = wC G (sWy u.1 (up2 (mWy u.1) (11 * b) v x), u.2) :=
  wC_setn (i := 0) hv (by decide) (by
    have e : pB (mWy (sWy u.1 (up2 (mWy u.1) (11 * b) v x), u.2).1) v = va_up (pB (mWy u.1) v) b x := pB_up _ _ _ _
    show (Sum.inr (1, fsN G (sWy u.1 (up2 (mWy u.1) (11 * b) v x), u.2) v) : va_E) = .inr (1, (fsN G u v).set 6 (.long (eL (va_up (pB (mWy u.1) v) b x))))
    simp only [fsN, List.set] at e ⊢
    rw [e])
    (fun j hj => lt11 (Q := fun j => gbC G (sWy u.1 (up2 (mWy u.1) (11 * b) v x), u.2) j = gbC G u j) rfl rfl rfl rfl rfl rfl rfl rfl rfl rfl rfl j hj)
    (fun v' i' hv' hi' hne => ndC_congr hi' (fun hz => have h : v' ≠ v := fun q => hne ⟨q, hz⟩; fsN_congr (rfl) (rfl) (rfl) (pB_ne _ _ h) (rfl) (rfl) (rfl) (rfl) (rfl)) (fun _ _ => rfl) (fun _ b' => vB_prop _ _ _ _ _ _) (fun _ => rfl) (fun _ => rfl))
theorem cn_Kn (G : kG) (u : CS) {v : Nat} (hv : v < gn G) (b : Nat) (x : Bool) : (wC G u).set (11 + 5 * v) (gL G (11 + 5 * v), .inr (1, (fsN G u v).set 11 (.long (eL (va_up (xKn u.2 v) b x))))) = wC G (u.1, tKn u.2 (up2 (xKn u.2) v b x)) :=
  wC_setn (i := 0) hv (by decide) (by
    have e : xKn (u.1, tKn u.2 (up2 (xKn u.2) v b x)).2 v = va_up (xKn u.2 v) b x := up2_row _ _ _ _
    show (Sum.inr (1, fsN G (u.1, tKn u.2 (up2 (xKn u.2) v b x)) v) : va_E) = .inr (1, (fsN G u v).set 11 (.long (eL (va_up (xKn u.2 v) b x))))
    simp only [fsN, List.set] at e ⊢
    rw [e])
    (fun j hj => lt11 (Q := fun j => gbC G (u.1, tKn u.2 (up2 (xKn u.2) v b x)) j = gbC G u j) rfl rfl rfl rfl rfl rfl rfl rfl rfl rfl rfl j hj)
    (fun v' i' hv' hi' hne => ndC_congr hi' (fun hz => have h : v' ≠ v := fun q => hne ⟨q, hz⟩; fsN_congr (rfl) (rfl) (rfl) (rfl) (up2_rne _ _ _ h) (rfl) (rfl) (rfl) (rfl)) (fun _ _ => rfl) (fun _ _ => rfl) (fun _ => rfl) (fun _ => rfl))
theorem cn_No (G : kG) (u : CS) {v : Nat} (hv : v < gn G) (b : Nat) (x : Bool) : (wC G u).set (11 + 5 * v) (gL G (11 + 5 * v), .inr (1, (fsN G u v).set 12 (.long (eL (va_up (xNo u.2 v) b x))))) = wC G (u.1, tNo u.2 (up2 (xNo u.2) v b x)) :=
  wC_setn (i := 0) hv (by decide) (by
    have e : xNo (u.1, tNo u.2 (up2 (xNo u.2) v b x)).2 v = va_up (xNo u.2 v) b x := up2_row _ _ _ _
    show (Sum.inr (1, fsN G (u.1, tNo u.2 (up2 (xNo u.2) v b x)) v) : va_E) = .inr (1, (fsN G u v).set 12 (.long (eL (va_up (xNo u.2 v) b x))))
    simp only [fsN, List.set] at e ⊢
    rw [e])
    (fun j hj => lt11 (Q := fun j => gbC G (u.1, tNo u.2 (up2 (xNo u.2) v b x)) j = gbC G u j) rfl rfl rfl rfl rfl rfl rfl rfl rfl rfl rfl j hj)
    (fun v' i' hv' hi' hne => ndC_congr hi' (fun hz => have h : v' ≠ v := fun q => hne ⟨q, hz⟩; fsN_congr (rfl) (rfl) (rfl) (rfl) (rfl) (up2_rne _ _ _ h) (rfl) (rfl) (rfl)) (fun _ _ => rfl) (fun _ _ => rfl) (fun _ => rfl) (fun _ => rfl))
theorem cn_Fi (G : kG) (u : CS) {v : Nat} (hv : v < gn G) (f : Nat → Bool) : (wC G u).set (11 + 5 * v) (gL G (11 + 5 * v), .inr (1, (fsN G u v).set 13 (.long (eL f)))) = wC G (u.1, tFi u.2 (va_up (xFi u.2) v f)) :=
  wC_setn (i := 0) hv (by decide) (by
    have e : xFi (u.1, tFi u.2 (va_up (xFi u.2) v f)).2 v = f := va_up_self _ _ _
    show (Sum.inr (1, fsN G (u.1, tFi u.2 (va_up (xFi u.2) v f)) v) : va_E) = .inr (1, (fsN G u v).set 13 (.long (eL f)))
    simp only [fsN, List.set] at e ⊢
    rw [e])
    (fun j hj => lt11 (Q := fun j => gbC G (u.1, tFi u.2 (va_up (xFi u.2) v f)) j = gbC G u j) rfl rfl rfl rfl rfl rfl rfl rfl rfl rfl rfl j hj)
    (fun v' i' hv' hi' hne => ndC_congr hi' (fun hz => have h : v' ≠ v := fun q => hne ⟨q, hz⟩; fsN_congr (rfl) (rfl) (rfl) (rfl) (rfl) (rfl) (va_up_ne _ _ h) (rfl) (rfl)) (fun _ _ => rfl) (fun _ _ => rfl) (fun _ => rfl) (fun _ => rfl))
theorem cn_Tp (G : kG) (u : CS) {v : Nat} (hv : v < gn G) (x : Nat) : (wC G u).set (11 + 5 * v) (gL G (11 + 5 * v), .inr (1, (fsN G u v).set 14 (.int (nI x)))) = wC G (u.1, tTp u.2 (va_up (xTp u.2) v x)) :=
  wC_setn (i := 0) hv (by decide) (by
    have e : xTp (u.1, tTp u.2 (va_up (xTp u.2) v x)).2 v = x := va_up_self _ _ _
    show (Sum.inr (1, fsN G (u.1, tTp u.2 (va_up (xTp u.2) v x)) v) : va_E) = .inr (1, (fsN G u v).set 14 (.int (nI x)))
    simp only [fsN, List.set] at e ⊢
    rw [e])
    (fun j hj => lt11 (Q := fun j => gbC G (u.1, tTp u.2 (va_up (xTp u.2) v x)) j = gbC G u j) rfl rfl rfl rfl rfl rfl rfl rfl rfl rfl rfl j hj)
    (fun v' i' hv' hi' hne => ndC_congr hi' (fun hz => have h : v' ≠ v := fun q => hne ⟨q, hz⟩; fsN_congr (rfl) (rfl) (rfl) (rfl) (rfl) (rfl) (rfl) (va_up_ne _ _ h) (rfl)) (fun _ _ => rfl) (fun _ _ => rfl) (fun _ => rfl) (fun _ => rfl))
theorem cn_Hf (G : kG) (u : CS) {v : Nat} (hv : v < gn G) (x : Nat) : (wC G u).set (11 + 5 * v) (gL G (11 + 5 * v), .inr (1, (fsN G u v).set 15 (.int (nI x)))) = wC G (u.1, tHf u.2 (va_up (xHf u.2) v x)) :=
  wC_setn (i := 0) hv (by decide) (by
    have e : xHf (u.1, tHf u.2 (va_up (xHf u.2) v x)).2 v = x := va_up_self _ _ _
    show (Sum.inr (1, fsN G (u.1, tHf u.2 (va_up (xHf u.2) v x)) v) : va_E) = .inr (1, (fsN G u v).set 15 (.int (nI x)))
    simp only [fsN, List.set] at e ⊢
    rw [e])
    (fun j hj => lt11 (Q := fun j => gbC G (u.1, tHf u.2 (va_up (xHf u.2) v x)) j = gbC G u j) rfl rfl rfl rfl rfl rfl rfl rfl rfl rfl rfl j hj)
    (fun v' i' hv' hi' hne => ndC_congr hi' (fun hz => have h : v' ≠ v := fun q => hne ⟨q, hz⟩; fsN_congr (rfl) (rfl) (rfl) (rfl) (rfl) (rfl) (rfl) (rfl) (va_up_ne _ _ h)) (fun _ _ => rfl) (fun _ _ => rfl) (fun _ => rfl) (fun _ => rfl))
theorem cn_vo (G : kG) (u : CS) {v : Nat} (hv : v < gn G) {b x : Nat} (hx : x < 10) (y : Bool) : (wC G u).set (12 + 5 * v) (gL G (12 + 5 * v), .inl (gI G, 61, .inl (upd (fun b => eI (vB (mHs u.1) b v)) b (eI (va_up (vB (mHs u.1) b v) x y))))) = wC G (sHs u.1 (up2 (mHs u.1) (11 * b + 1 + x) v y), u.2) := by
  have h := wC_setn (G := G) (u := u) (u' := (sHs u.1 (up2 (mHs u.1) (11 * b + 1 + x) v y), u.2)) (i := 1) hv (by decide) (congrArg (fun f => (.inl (gI G, 61, .inl f) : va_E)) (upd_fn (g := fun b' => eI (vB (up2 (mHs u.1) (11 * b + 1 + x) v y) b' v)) (congrArg eI (vB_up _ y hx)) (fun j h => congrArg eI (vB_nb _ y hx h v))).symm)
    (fun j hj => lt11 (Q := fun j => gbC G (sHs u.1 (up2 (mHs u.1) (11 * b + 1 + x) v y), u.2) j = gbC G u j) rfl rfl rfl rfl rfl rfl rfl rfl rfl rfl rfl j hj)
    (fun v' i' hv' hi' hne => ndC_congr hi' (fun _ => fsN_congr rfl rfl (pB_vote _ y hx _) rfl rfl rfl rfl rfl rfl) (fun hz b' => vB_ne _ y (fun q => hne ⟨q, hz⟩) b') (fun _ _ => rfl) (fun _ => rfl) (fun _ => rfl))
  rw [show 11 + 5 * v + 1 = 12 + 5 * v by omega] at h
  exact h
theorem cn_vw (G : kG) (u : CS) {v : Nat} (hv : v < gn G) {b x : Nat} (hx : x < 10) (y : Bool) : (wC G u).set (13 + 5 * v) (gL G (13 + 5 * v), .inl (gI G, 61, .inl (upd (fun b => eI (vB (mWy u.1) b v)) b (eI (va_up (vB (mWy u.1) b v) x y))))) = wC G (sWy u.1 (up2 (mWy u.1) (11 * b + 1 + x) v y), u.2) := by
  have h := wC_setn (G := G) (u := u) (u' := (sWy u.1 (up2 (mWy u.1) (11 * b + 1 + x) v y), u.2)) (i := 2) hv (by decide) (congrArg (fun f => (.inl (gI G, 61, .inl f) : va_E)) (upd_fn (g := fun b' => eI (vB (up2 (mWy u.1) (11 * b + 1 + x) v y) b' v)) (congrArg eI (vB_up _ y hx)) (fun j h => congrArg eI (vB_nb _ y hx h v))).symm)
    (fun j hj => lt11 (Q := fun j => gbC G (sWy u.1 (up2 (mWy u.1) (11 * b + 1 + x) v y), u.2) j = gbC G u j) rfl rfl rfl rfl rfl rfl rfl rfl rfl rfl rfl j hj)
    (fun v' i' hv' hi' hne => ndC_congr hi' (fun _ => fsN_congr rfl rfl rfl (pB_vote _ y hx _) rfl rfl rfl rfl rfl) (fun _ _ => rfl) (fun hz b' => vB_ne _ y (fun q => hne ⟨q, hz⟩) b') (fun _ => rfl) (fun _ => rfl))
  rw [show 11 + 5 * v + 2 = 13 + 5 * v by omega] at h
  exact h
theorem cn_fc (G : kG) (u : CS) {v : Nat} (hv : v < gn G) (k y : Nat) : (wC G u).set (14 + 5 * v) (gL G (14 + 5 * v), .inl (gI G, 41, .inl (upd (fun e => oI (mFc u.1 v e)) k (oI y)))) = wC G (sFc u.1 (up2 (mFc u.1) v k y), u.2) := by
  have h := wC_setn (G := G) (u := u) (u' := (sFc u.1 (up2 (mFc u.1) v k y), u.2)) (i := 3) hv (by decide) (congrArg (fun f => (.inl (gI G, 41, .inl f) : va_E)) (upd_fn (g := fun e => oI (up2 (mFc u.1) v k y v e)) (f := fun e => oI (mFc u.1 v e)) (k := k) (x := oI y) (by simp [up2]) (fun j h => by simp [up2, h])).symm)
    (fun j hj => lt11 (Q := fun j => gbC G (sFc u.1 (up2 (mFc u.1) v k y), u.2) j = gbC G u j) rfl rfl rfl rfl rfl rfl rfl rfl rfl rfl rfl j hj)
    (fun v' i' hv' hi' hne => ndC_congr hi' (fun _ => rfl) (fun _ _ => rfl) (fun _ _ => rfl) (fun hz => up2_rne _ _ _ (fun q => hne ⟨q, hz⟩)) (fun _ => rfl))
  rw [show 11 + 5 * v + 3 = 14 + 5 * v by omega] at h
  exact h
theorem cn_vf (G : kG) (u : CS) {v : Nat} (hv : v < gn G) (k y : Nat) : (wC G u).set (15 + 5 * v) (gL G (15 + 5 * v), .inl (gI G, 41, .inl (upd (fun e => oI (mVf u.1 v e)) k (oI y)))) = wC G (sVf u.1 (up2 (mVf u.1) v k y), u.2) := by
  have h := wC_setn (G := G) (u := u) (u' := (sVf u.1 (up2 (mVf u.1) v k y), u.2)) (i := 4) hv (by decide) (congrArg (fun f => (.inl (gI G, 41, .inl f) : va_E)) (upd_fn (g := fun e => oI (up2 (mVf u.1) v k y v e)) (f := fun e => oI (mVf u.1 v e)) (k := k) (x := oI y) (by simp [up2]) (fun j h => by simp [up2, h])).symm)
    (fun j hj => lt11 (Q := fun j => gbC G (sVf u.1 (up2 (mVf u.1) v k y), u.2) j = gbC G u j) rfl rfl rfl rfl rfl rfl rfl rfl rfl rfl rfl j hj)
    (fun v' i' hv' hi' hne => ndC_congr hi' (fun _ => rfl) (fun _ _ => rfl) (fun _ _ => rfl) (fun _ => rfl) (fun hz => up2_rne _ _ _ (fun q => hne ⟨q, hz⟩)))
  rw [show 11 + 5 * v + 4 = 15 + 5 * v by omega] at h
  exact h
end
section
/-! small rows: compares of small numbers, fields' words -/
theorem cLe {a b : Nat} (h : nI a ≤ nI b) (ha : a < 2 ^ 31) (hb : b < 2 ^ 31) : a ≤ b := (nI_leI ha hb).mp h
theorem cNle {a b : Nat} (h : ¬ nI a ≤ nI b) (ha : b < 2 ^ 31) (hb : a < 2 ^ 31) : b < a := Nat.lt_of_not_le fun q => h ((nI_leI hb ha).mpr q)
theorem cLt {a b : Nat} (h : nI a < nI b) (ha : a < 2 ^ 31) (hb : b < 2 ^ 31) : a < b := (nI_ltI ha hb).mp h
theorem cNlt {a b : Nat} (h : ¬ nI a < nI b) (ha : b < 2 ^ 31) (hb : a < 2 ^ 31) : b ≤ a := Nat.le_of_not_lt fun q => h ((nI_ltI hb ha).mpr q)
theorem cEq {a b : Nat} (h : nI a = nI b) (ha : a < 2 ^ 31) (hb : b < 2 ^ 31) : a = b := (nI_eq ha hb).mp h
theorem cNe {a b : Nat} (h : ¬ nI a = nI b) (_ : a < 2 ^ 31) (_ : b < 2 ^ 31) : a ≠ b := fun q => h (congrArg nI q)
theorem czEq {a : Nat} (h : nI a = 0) (ha : a < 2 ^ 31) (_ : 0 < 2 ^ 31) : a = 0 := cEq (b := 0) h ha (by decide)
theorem czNe {a : Nat} (h : ¬ nI a = 0) (_ : a < 2 ^ 31) (_ : 0 < 2 ^ 31) : a ≠ 0 := fun q => h (congrArg nI q)
theorem czLt {a : Nat} (h : nI a < 0) (ha : a < 2 ^ 31) (_ : 0 < 2 ^ 31) : a < 0 := cLt (b := 0) h ha (by decide)
theorem czNlt {a : Nat} (h : ¬ nI a < 0) (_ : 0 < 2 ^ 31) (ha : a < 2 ^ 31) : 0 ≤ a := Nat.zero_le _
theorem czLe {a : Nat} (h : nI a ≤ 0) (ha : a < 2 ^ 31) (_ : 0 < 2 ^ 31) : a ≤ 0 := cLe (b := 0) h ha (by decide)
theorem czNle {a : Nat} (h : ¬ nI a ≤ 0) (_ : 0 < 2 ^ 31) (ha : a < 2 ^ 31) : 0 < a := cNle (b := 0) h (by decide) ha
theorem czrLt {a : Nat} (h : 0 < nI a) (_ : 0 < 2 ^ 31) (ha : a < 2 ^ 31) : 0 < a := cLt (a := 0) h (by decide) ha
theorem czrNlt {a : Nat} (h : ¬ 0 < nI a) (ha : a < 2 ^ 31) (_ : 0 < 2 ^ 31) : a ≤ 0 := cNlt (a := 0) h ha (by decide)
theorem czrLe {a : Nat} (_ : 0 ≤ nI a) (_ : 0 < 2 ^ 31) (ha : a < 2 ^ 31) : 0 ≤ a := Nat.zero_le _
theorem czrNle {a : Nat} (h : ¬ 0 ≤ nI a) (ha : a < 2 ^ 31) (_ : 0 < 2 ^ 31) : a < 0 := cNle (a := 0) h ha (by decide)
theorem oI_pos {k : Nat} (h : 0 < k) : nI k = oI k := by simp [oI, Nat.ne_of_gt h]
theorem eP_pos {f : Nat → Nat} {k : Nat} (h : 0 < k) : eP f k = nI (f k) := by simp [eP, Nat.ne_of_gt h]
theorem eP_0 {f : Nat → Nat} : eP f 0 = -1 := by simp [eP]
theorem m1_ne {n : Nat} (h : n < 2 ^ 31) : nI n ≠ -1 := by
  intro e
  have h1 := nI_toInt h
  rw [e] at h1
  have h2 : (-1 : Int32).toInt = -1 := by decide
  rw [h2] at h1
  omega
theorem oI_m1 {k : Nat} (h : k < 2 ^ 31) : oI k = -1 ↔ k = 0 := by
  by_cases hk : k = 0
  · simp [oI, hk]
  · simp only [oI, if_neg hk]
    exact ⟨fun e => absurd e (m1_ne h), fun e => absurd e hk⟩
theorem eP_m1 {f : Nat → Nat} {k : Nat} (h : f k < 2 ^ 31) : eP f k = -1 ↔ k = 0 := by
  by_cases hk : k = 0
  · simp [eP, hk]
  · simp only [eP, if_neg hk]
    exact ⟨fun e => absurd e (m1_ne h), fun e => absurd e hk⟩
theorem sb_gt {a b : Nat} (ha : a < 2 ^ 30) (hb : b < 2 ^ 30) : 0 < nI a - nI b ↔ b < a := by
  rw [Int32.lt_iff_toInt_lt, pk_sub_toInt ha hb]
  have e : (0 : Int32).toInt = 0 := rfl
  rw [e]
  omega
theorem sb_eq {a b : Nat} (ha : a < 2 ^ 30) (hb : b < 2 ^ 30) : nI a - nI b = 0 ↔ a = b := by
  rw [← Int32.toInt_inj, pk_sub_toInt ha hb]
  have e : (0 : Int32).toInt = 0 := rfl
  rw [e]
  omega
/-- an int, and a bound: below 0, a small number below n, or not below n -/
theorem ix3 (x : Int32) (n : Nat) (hn : n < 2 ^ 31) : (∃ j : Nat, j < n ∧ x = nI j) ∨ (∀ j : Nat, j < n → x ≠ nI j) := by
  by_cases h : ∃ j : Nat, j < n ∧ x = nI j
  · exact Or.inl h
  · exact Or.inr fun j hj e => h ⟨j, hj, e⟩
theorem ix_in {x : Int32} {n : Nat} (h0 : ¬ x < 0) (h1 : x < nI n) (hn : n < 2 ^ 31) : ∃ j : Nat, j < n ∧ x = nI j := by
  obtain ⟨j, hj, rfl⟩ := nI_of h0
  exact ⟨j, cLt h1 hj hn, rfl⟩
theorem ix_lo {x : Int32} {j n : Nat} (h : x < 0) (hj : j < n) (hn : n < 2 ^ 31) : x ≠ nI j := fun e => by
  rw [e] at h
  exact nI_pos (Nat.lt_trans hj hn) h
theorem ix_hi {x : Int32} {j n : Nat} (h : nI n ≤ x) (hj : j < n) (hn : n < 2 ^ 31) : x ≠ nI j := fun e => by
  rw [e] at h
  have := cLe h hn (Nat.lt_trans hj hn)
  omega
theorem inX0 : ∀ w ∈ u_ws RX0 TX0 8, w ∈ WL := by
  show ∀ w ∈ ([(Cond.laysFinal "StreamChain$Blocks" "StreamChain$Blocks" "parent" "[I"), (Cond.laysFinal "StreamChain$Blocks" "StreamChain$Blocks" "epoch" "[I"), (Cond.laysFinal "StreamChain$Blocks" "StreamChain$Blocks" "load" "[I"), (Cond.laysFinal "StreamChain$Blocks" "StreamChain$Blocks" "height" "[I"), (Cond.laysFinal "StreamChain$Blocks" "StreamChain$Blocks" "maker" "[I"), (Cond.laysFinal "StreamChain$Blocks" "StreamChain$Blocks" "chain" "[J"), (Cond.laysFinal "StreamChain$Blocks" "StreamChain$Blocks" "chainLoad" "[I"), (Cond.lays "StreamChain$Blocks" "StreamChain$Blocks" "total" "I")] : List Cond), w ∈ WL
  exact List.forall_mem_cons.mpr ⟨tw_1_50, List.forall_mem_cons.mpr ⟨tw_1_52, List.forall_mem_cons.mpr ⟨tw_1_54, List.forall_mem_cons.mpr ⟨tw_1_56, List.forall_mem_cons.mpr ⟨tw_1_58, List.forall_mem_cons.mpr ⟨tw_1_60, List.forall_mem_cons.mpr ⟨tw_1_62, List.forall_mem_cons.mpr ⟨tw_1_64, fun _ h => absurd h List.not_mem_nil⟩⟩⟩⟩⟩⟩⟩⟩
theorem inX1 : ∀ w ∈ u_ws RX1 TX1 16, w ∈ WL := by
  show ∀ w ∈ ([(Cond.laysFinal "StreamChain$Node" "StreamChain$Node" "number" "I"), (Cond.laysFinal "StreamChain$Node" "StreamChain$Node" "size" "I"), (Cond.laysFinal "StreamChain$Node" "StreamChain$Node" "blocks" "LStreamChain$Blocks;"), (Cond.lays "StreamChain$Node" "StreamChain$Node" "isFalse" "Z"), (Cond.lays "StreamChain$Node" "StreamChain$Node" "wishes" "I"), (Cond.lays "StreamChain$Node" "StreamChain$Node" "proposals" "J"), (Cond.lays "StreamChain$Node" "StreamChain$Node" "proposalsUnderWay" "J"), (Cond.laysFinal "StreamChain$Node" "StreamChain$Node" "voters" "[I"), (Cond.laysFinal "StreamChain$Node" "StreamChain$Node" "votersUnderWay" "[I"), (Cond.laysFinal "StreamChain$Node" "StreamChain$Node" "firstCome" "[I"), (Cond.laysFinal "StreamChain$Node" "StreamChain$Node" "votedFor" "[I"), (Cond.lays "StreamChain$Node" "StreamChain$Node" "known" "J"), (Cond.lays "StreamChain$Node" "StreamChain$Node" "notarized" "J"), (Cond.lays "StreamChain$Node" "StreamChain$Node" "finals" "J"), (Cond.lays "StreamChain$Node" "StreamChain$Node" "tip" "I"), (Cond.lays "StreamChain$Node" "StreamChain$Node" "highestFinal" "I")] : List Cond), w ∈ WL
  exact List.forall_mem_cons.mpr ⟨tw_1_106, List.forall_mem_cons.mpr ⟨tw_1_108, List.forall_mem_cons.mpr ⟨tw_1_110, List.forall_mem_cons.mpr ⟨tw_1_112, List.forall_mem_cons.mpr ⟨tw_1_114, List.forall_mem_cons.mpr ⟨tw_1_116, List.forall_mem_cons.mpr ⟨tw_1_118, List.forall_mem_cons.mpr ⟨tw_1_120, List.forall_mem_cons.mpr ⟨tw_1_122, List.forall_mem_cons.mpr ⟨tw_1_124, List.forall_mem_cons.mpr ⟨tw_1_126, List.forall_mem_cons.mpr ⟨tw_1_128, List.forall_mem_cons.mpr ⟨tw_1_130, List.forall_mem_cons.mpr ⟨tw_1_132, List.forall_mem_cons.mpr ⟨tw_1_134, List.forall_mem_cons.mpr ⟨tw_1_136, fun _ h => absurd h List.not_mem_nil⟩⟩⟩⟩⟩⟩⟩⟩⟩⟩⟩⟩⟩⟩⟩⟩
theorem inX2 : ∀ w ∈ u_ws RX2 TX2 6, w ∈ WL := by
  show ∀ w ∈ ([(Cond.laysFinal "StreamChain" "StreamChain" "blocks" "LStreamChain$Blocks;"), (Cond.laysFinal "StreamChain" "StreamChain" "nodes" "[LStreamChain$Node;"), (Cond.laysFinal "StreamChain" "StreamChain" "leaders" "[I"), (Cond.lays "StreamChain" "StreamChain" "present" "I"), (Cond.lays "StreamChain" "StreamChain" "votesGiven" "I"), (Cond.lays "StreamChain" "StreamChain" "lettersCome" "I")] : List Cond), w ∈ WL
  exact List.forall_mem_cons.mpr ⟨tw_1_145, List.forall_mem_cons.mpr ⟨tw_1_147, List.forall_mem_cons.mpr ⟨tw_1_149, List.forall_mem_cons.mpr ⟨tw_1_151, List.forall_mem_cons.mpr ⟨tw_1_153, List.forall_mem_cons.mpr ⟨tw_1_155, fun _ h => absurd h List.not_mem_nil⟩⟩⟩⟩⟩⟩
theorem inX3 : ∀ w ∈ u_ws RX3 TX3 27, w ∈ WL := by
  show ∀ w ∈ ([(Cond.lays "StreamChainModel" "StreamChainModel" "thrown" "I"), (Cond.laysFinal "StreamChainModel" "StreamChainModel" "n" "I"), (Cond.laysFinal "StreamChainModel" "StreamChainModel" "isFalse" "[Z"), (Cond.laysFinal "StreamChainModel" "StreamChainModel" "wishes" "[I"), (Cond.laysFinal "StreamChainModel" "StreamChainModel" "leader" "[I"), (Cond.lays "StreamChainModel" "StreamChainModel" "present" "I"), (Cond.lays "StreamChainModel" "StreamChainModel" "blocks" "I"), (Cond.laysFinal "StreamChainModel" "StreamChainModel" "parent" "[I"), (Cond.laysFinal "StreamChainModel" "StreamChainModel" "epochOf" "[I"), (Cond.laysFinal "StreamChainModel" "StreamChainModel" "load" "[I"), (Cond.laysFinal "StreamChainModel" "StreamChainModel" "height" "[I"), (Cond.laysFinal "StreamChainModel" "StreamChainModel" "maker" "[I"), (Cond.laysFinal "StreamChainModel" "StreamChainModel" "has" "[Z"), (Cond.laysFinal "StreamChainModel" "StreamChainModel" "isWay" "[Z"), (Cond.laysFinal "StreamChainModel" "StreamChainModel" "cameAt" "[I"), (Cond.lays "StreamChainModel" "StreamChainModel" "came" "I"), (Cond.lays "StreamChainModel" "StreamChainModel" "arrived" "I"), (Cond.laysFinal "StreamChainModel" "StreamChainModel" "vote" "[I"), (Cond.lays "StreamChainModel" "StreamChainModel" "given" "I"), (Cond.laysFinal "StreamChainModel" "StreamChainModel" "isKnown" "[Z"), (Cond.laysFinal "StreamChainModel" "StreamChainModel" "isNotarized" "[Z"), (Cond.laysFinal "StreamChainModel" "StreamChainModel" "isFinal" "[Z"), (Cond.lays "StreamChainModel" "StreamChainModel" "reach" "I"), (Cond.lays "StreamChainModel" "StreamChainModel" "tip" "I"), (Cond.lays "StreamChainModel" "StreamChainModel" "highest" "I"), (Cond.laysFinal "StreamChainModel" "StreamChainModel" "isToCome" "[Z"), (Cond.laysFinal "StreamChainModel" "StreamChainModel" "chain" "[I")] : List Cond), w ∈ WL
  exact List.forall_mem_cons.mpr ⟨tw_2_162, List.forall_mem_cons.mpr ⟨tw_2_164, List.forall_mem_cons.mpr ⟨tw_2_166, List.forall_mem_cons.mpr ⟨tw_2_168, List.forall_mem_cons.mpr ⟨tw_2_170, List.forall_mem_cons.mpr ⟨tw_2_172, List.forall_mem_cons.mpr ⟨tw_2_174, List.forall_mem_cons.mpr ⟨tw_2_176, List.forall_mem_cons.mpr ⟨tw_2_178, List.forall_mem_cons.mpr ⟨tw_2_180, List.forall_mem_cons.mpr ⟨tw_2_182, List.forall_mem_cons.mpr ⟨tw_2_184, List.forall_mem_cons.mpr ⟨tw_2_186, List.forall_mem_cons.mpr ⟨tw_2_188, List.forall_mem_cons.mpr ⟨tw_2_190, List.forall_mem_cons.mpr ⟨tw_2_192, List.forall_mem_cons.mpr ⟨tw_2_194, List.forall_mem_cons.mpr ⟨tw_2_196, List.forall_mem_cons.mpr ⟨tw_2_198, List.forall_mem_cons.mpr ⟨tw_2_200, List.forall_mem_cons.mpr ⟨tw_2_202, List.forall_mem_cons.mpr ⟨tw_2_204, List.forall_mem_cons.mpr ⟨tw_2_206, List.forall_mem_cons.mpr ⟨tw_2_208, List.forall_mem_cons.mpr ⟨tw_2_210, List.forall_mem_cons.mpr ⟨tw_2_212, List.forall_mem_cons.mpr ⟨tw_2_214, fun _ h => absurd h List.not_mem_nil⟩⟩⟩⟩⟩⟩⟩⟩⟩⟩⟩⟩⟩⟩⟩⟩⟩⟩⟩⟩⟩⟩⟩⟩⟩⟩⟩
end
section
/-- the ranges that the class's state keeps to -/
def okC (G : kG) (u : CS) : Prop := 4 ≤ gn G ∧ gn G ≤ 10 ∧ 1 ≤ mT u.1 ∧ mT u.1 ≤ 61 ∧ mP u.1 ≤ 40 ∧ (∀ e, mLd u.1 e < gn G) ∧ (∀ b, 0 < b → mPar u.1 b < b) ∧ (∀ b, mEp u.1 b ≤ 40) ∧ (∀ b, mHt u.1 b ≤ b) ∧ (∀ v e, mFc u.1 v e < mT u.1) ∧ (∀ v e, mVf u.1 v e ≤ 60) ∧ (∀ v, xTp u.2 v < mT u.1) ∧ (∀ v, xHf u.2 v < mT u.1)
/-- a set of nodes, as 'to' -/
def toOk (n : Nat) (x : Int32) : Prop := 0 ≤ x.toInt ∧ x.toInt < 2 ^ n
def hasEp (M : MS) (e : Nat) : Bool := (List.range (mT M)).any (fun b => mEp M b == e)
theorem sh_n : ∀ n, n ≤ 10 → ((1 : Int32) <<< (nI n &&& 31)).toInt = 2 ^ n := by decide +kernel
theorem sh_n1 : ∀ n, n ≤ 10 → ((1 : Int32) <<< (nI n &&& 31)) - nI 1 = nI (2 ^ n - 1) := by decide +kernel
end
section
set_option maxHeartbeats 4000000 in
set_option maxRecDepth 100000 in
theorem m2_holds (l : Launch) (G : kG) (A : Nat → Prop) {S : Type} (wd : S → va_W) (u : S) (x : Int64) {k : Nat} (hk : k < 64) : KMi l G A wd yX2_holds cX2_holds 3 (Option.some FieldType.boolean) ({ frames := 0, cells := 0, slots := 0, locals := 0 }) [.long (x), .int (nI k)] u (fun r u' => r = bI (tL x k) ∧ u' = u) := by
  refine K_of (by decide) (Nat.le_of_ble_eq_true rfl) ?_
  intro p e s m below meth c X hr hlocks hnm hK hP ls hl
  have hx := X.1
  have hb := X.2.1
  have hown := X.2.2.2.1
  have hts := X.2.2.2.2
  have hS : va_S A s.heap s.heap [] := va_S.rf
  have hl : lv_has ls 3 [(0, .long (x)), (2, .int (nI k))] := hl
  refine lv_lload_n hx hb dX2_holds_0 rfl (lv_at hl 0 rfl) ?_
  refine lv_iload_n hx hb dX2_holds_1 rfl (lv_at hl 1 rfl) ?_
  refine lv_lushr (v := (x.toUInt64 >>> ((nI k).toInt64.toUInt64 &&& Int64.toUInt64 63)).toInt64) hx hb dX2_holds_2 rfl ?_
  refine lv_lconst (v := 1) hx hb dX2_holds_3 rfl ?_
  refine lv_land hx hb dX2_holds_4 ?_
  refine k_tl (holds_eq x hk) ?_
  refine lv_lconst (v := 0) hx hb dX2_holds_5 rfl ?_
  refine W.lcmp hx hb dX2_holds_6 ?_
  refine lv_if_eq (tgt := 14) hx hb dX2_holds_7 (by decide) (fun c_7 => ?_) (fun c_7 => ?_)
  · have hz : tL x k = false := by
      have h := (lg_cmp_eq _ _).mp c_7
      cases hb : tL x k
      · rfl
      · rw [hb] at h; exact absurd h (by decide)
    refine lv_iconst (v := nI 0) hx hb dX2_holds_14 (by decide) ?_
    exact k_retz X hr hlocks hP hS dX2_holds_15 rfl ⟨by rw [hz]; rfl, rfl⟩
  · have hz : tL x k = true := by
      cases hb : tL x k
      · exact absurd ((lg_cmp_eq _ _).mpr (by rw [hb]; rfl)) c_7
      · rfl
    refine lv_iconst (v := nI 1) hx hb dX2_holds_10 (by decide) ?_
    refine lv_goto (tgt := 15) hx hb dX2_holds_11 (by decide) ?_
    exact k_retz X hr hlocks hP hS dX2_holds_15 rfl ⟨by rw [hz]; rfl, rfl⟩

set_option maxHeartbeats 4000000 in
set_option maxRecDepth 100000 in
theorem m2_isEpoch (l : Launch) (G : kG) (A : Nat → Prop) {S : Type} (wd : S → va_W) (u : S) (x : Int32) : KMi l G A wd yX2_isEpoch cX2_isEpoch 1 (Option.some FieldType.boolean) ({ frames := 0, cells := 0, slots := 0, locals := 0 }) [.int (x)] u (fun r u' => u' = u ∧ ((∃ j : Nat, (1 ≤ j ∧ j ≤ 40) ∧ x = nI j ∧ r = 1) ∨ ((∀ j : Nat, 1 ≤ j ∧ j ≤ 40 → x ≠ nI j) ∧ r = 0))) := by
  refine K_of (by decide) (Nat.le_of_ble_eq_true rfl) ?_
  intro p e s m below meth c X hr hlocks hnm hK hP ls hl
  have hx := X.1
  have hb := X.2.1
  have hown := X.2.2.2.1
  have hts := X.2.2.2.2
  have hS : va_S A s.heap s.heap [] := va_S.rf
  have hl : lv_has ls 1 [(0, .int (x))] := hl
  refine lv_iload_n hx hb dX2_isEpoch_0 rfl (lv_at hl 0 rfl) ?_
  refine lv_iconst (v := nI 1) hx hb dX2_isEpoch_1 (by decide) ?_
  refine lv_icmp_lt (tgt := 15) hx hb dX2_isEpoch_2 (by decide) (fun c_2 => ?_) (fun c_2 => ?_)
  · have hz : ∀ j : Nat, 1 ≤ j ∧ j ≤ 40 → x ≠ nI j := fun j hj e => by
      rw [e] at c_2
      have := cLt c_2 (by omega) (by omega)
      omega
    refine lv_iconst (v := nI 0) hx hb dX2_isEpoch_15 (by decide) ?_
    exact k_retz X hr hlocks hP hS dX2_isEpoch_16 rfl ⟨rfl, Or.inr ⟨hz, rfl⟩⟩
  · refine lv_iload_n hx hb dX2_isEpoch_5 rfl (lv_at hl 0 rfl) ?_
    refine lv_bipush (v := nI 40) hx hb dX2_isEpoch_6 (by decide) ?_
    refine lv_icmp_gt (tgt := 15) hx hb dX2_isEpoch_8 (by decide) (fun c_8 => ?_) (fun c_8 => ?_)
    · have hz : ∀ j : Nat, 1 ≤ j ∧ j ≤ 40 → x ≠ nI j := fun j hj e => by
        rw [e] at c_8
        have := cLt c_8 (by omega) (by omega)
        omega
      refine lv_iconst (v := nI 0) hx hb dX2_isEpoch_15 (by decide) ?_
      exact k_retz X hr hlocks hP hS dX2_isEpoch_16 rfl ⟨rfl, Or.inr ⟨hz, rfl⟩⟩
    · have hz : ∃ j : Nat, (1 ≤ j ∧ j ≤ 40) ∧ x = nI j := by
        have h0 : ¬ x < 0 := fun h => c_2 (by have e : (0 : Int32).toInt = 0 := rfl; rw [Int32.lt_iff_toInt_lt] at h ⊢; rw [e] at h; rw [nI_toInt (by decide)]; omega)
        obtain ⟨j, hj, rfl⟩ := nI_of h0
        exact ⟨j, ⟨cNlt c_2 (by omega) (by omega), cNlt c_8 (by omega) (by omega)⟩, rfl⟩
      refine lv_iconst (v := nI 1) hx hb dX2_isEpoch_11 (by decide) ?_
      refine lv_goto (tgt := 16) hx hb dX2_isEpoch_12 (by decide) ?_
      exact k_retz X hr hlocks hP hS dX2_isEpoch_16 rfl ⟨rfl, Or.inl (hz.elim fun j hj => ⟨j, hj.1, hj.2, rfl⟩)⟩

set_option maxHeartbeats 4000000 in
set_option maxRecDepth 100000 in
theorem m2_nodeAt (l : Launch) (G : kG) (u : CS) (hL : lay G) (hk : okC G u) (x : Int32) : KMq l G (AC G) (wC G) yX2_nodeAt cX2_nodeAt 2 (Option.some (FieldType.object "StreamChain$Node")) ({ frames := 0, cells := 0, slots := 0, locals := 0 }) [.ref (gL G 0), .int (x)] u (fun r u' => u' = u ∧ ((∃ j : Nat, j < gn G ∧ x = nI j ∧ r = some (gL G (11 + 5 * j))) ∨ ((∀ j : Nat, j < gn G → x ≠ nI j) ∧ r = none))) := by
  refine K_of (by decide) (Nat.le_of_ble_eq_true rfl) ?_
  intro p e s m below meth c X hr hlocks hnm hK hP ls hl
  have hx := X.1
  have hb := X.2.1
  have hown := X.2.2.2.1
  have hts := X.2.2.2.2
  have hS : va_S (AC G) s.heap s.heap [] := va_S.rf
  have hl : lv_has ls 2 [(0, .ref (gL G 0)), (1, .int (x))] := hl
  obtain ⟨kn4, kn10, kT1, kT61, kP40, kLd, kPar, kEp, kHt, kFc, kVf, kTp, kHf⟩ := id hk
  refine lv_iload_n hx hb dX2_nodeAt_0 rfl (lv_at hl 1 rfl) ?_
  refine lv_if_lt (tgt := 22) hx hb dX2_nodeAt_1 (by decide) (fun c_1 => ?_) (fun c_1 => ?_)
  · have hz : ∀ j : Nat, j < gn G → x ≠ nI j := fun j hj => ix_lo c_1 hj (by omega)
    refine lv_null hx hb dX2_nodeAt_22 ?_
    exact k_retq none rfl X hr hlocks hP hS dX2_nodeAt_23 ⟨rfl, Or.inr ⟨hz, rfl⟩⟩
  · refine lv_iload_n hx hb dX2_nodeAt_4 rfl (lv_at hl 1 rfl) ?_
    refine lv_aload_n hx hb dX2_nodeAt_5 rfl (lv_at hl 0 rfl) ?_
    refine k_get (v := .ref (gL G 1)) X hK inX2 rfl hP (wC_g G u (k := 0) (by decide)) 1 (by decide) tw_1_140 rfl dX2_nodeAt_6 ?_
    refine k_len X hK hP (wC_g G u (k := 1) (by decide)) dX2_nodeAt_9 ?_
    refine lv_icmp_ge (tgt := 22) hx hb dX2_nodeAt_10 (by decide) (fun c_10 => ?_) (fun c_10 => ?_)
    · have hz : ∀ j : Nat, j < gn G → x ≠ nI j := fun j hj => ix_hi c_10 hj (by omega)
      refine lv_null hx hb dX2_nodeAt_22 ?_
      exact k_retq none rfl X hr hlocks hP hS dX2_nodeAt_23 ⟨rfl, Or.inr ⟨hz, rfl⟩⟩
    · obtain ⟨j, hj, rfl⟩ : ∃ j : Nat, j < gn G ∧ x = nI j := ix_in c_1 (by rw [Int32.lt_iff_toInt_lt]; rw [Int32.le_iff_toInt_le] at c_10; omega) (by omega)
      refine lv_aload_n hx hb dX2_nodeAt_13 rfl (lv_at hl 0 rfl) ?_
      refine k_get (v := .ref (gL G 1)) X hK inX2 rfl hP (wC_g G u (k := 0) (by decide)) 1 (by decide) tw_1_140 rfl dX2_nodeAt_14 ?_
      refine lv_iload_n hx hb dX2_nodeAt_17 rfl (lv_at hl 1 rfl) ?_
      refine k_ald (v := gL G (11 + 5 * j)) X hK hP (wC_g G u (k := 1) (by decide)) (hj) (by omega) rfl dX2_nodeAt_18 ?_
      refine lv_goto (tgt := 23) hx hb dX2_nodeAt_19 (by decide) ?_
      exact k_retq (some (gL G (11 + 5 * j))) rfl X hr hlocks hP hS dX2_nodeAt_23 ⟨rfl, Or.inl ⟨j, hj, rfl, rfl⟩⟩

set_option maxHeartbeats 4000000 in
set_option maxRecDepth 100000 in
theorem m2_areNodes (l : Launch) (G : kG) (u : CS) (hL : lay G) (hk : okC G u) (x : Int32) : KMi l G (AC G) (wC G) yX2_areNodes cX2_areNodes 2 (Option.some FieldType.boolean) ({ frames := 0, cells := 0, slots := 0, locals := 0 }) [.ref (gL G 0), .int (x)] u (fun r u' => u' = u ∧ ((toOk (gn G) x ∧ r = 1) ∨ (¬ toOk (gn G) x ∧ r = 0))) := by
  refine K_of (by decide) (Nat.le_of_ble_eq_true rfl) ?_
  intro p e s m below meth c X hr hlocks hnm hK hP ls hl
  have hx := X.1
  have hb := X.2.1
  have hown := X.2.2.2.1
  have hts := X.2.2.2.2
  have hS : va_S (AC G) s.heap s.heap [] := va_S.rf
  have hl : lv_has ls 2 [(0, .ref (gL G 0)), (1, .int (x))] := hl
  obtain ⟨kn4, kn10, kT1, kT61, kP40, kLd, kPar, kEp, kHt, kFc, kVf, kTp, kHf⟩ := id hk
  refine lv_iload_n hx hb dX2_areNodes_0 rfl (lv_at hl 1 rfl) ?_
  refine lv_if_lt (tgt := 19) hx hb dX2_areNodes_1 (by decide) (fun c_1 => ?_) (fun c_1 => ?_)
  · have hz : ¬ toOk (gn G) x := fun h => by
      rw [Int32.lt_iff_toInt_lt] at c_1
      have e : (0 : Int32).toInt = 0 := rfl
      rw [e] at c_1
      exact absurd h.1 (by omega)
    refine lv_iconst (v := nI 0) hx hb dX2_areNodes_19 (by decide) ?_
    exact k_retz X hr hlocks hP hS dX2_areNodes_20 rfl ⟨rfl, Or.inr ⟨hz, rfl⟩⟩
  · refine lv_iload_n hx hb dX2_areNodes_4 rfl (lv_at hl 1 rfl) ?_
    refine lv_iconst (v := nI 1) hx hb dX2_areNodes_5 (by decide) ?_
    refine lv_aload_n hx hb dX2_areNodes_6 rfl (lv_at hl 0 rfl) ?_
    refine k_get (v := .ref (gL G 1)) X hK inX2 rfl hP (wC_g G u (k := 0) (by decide)) 1 (by decide) tw_1_140 rfl dX2_areNodes_7 ?_
    refine k_len X hK hP (wC_g G u (k := 1) (by decide)) dX2_areNodes_10 ?_
    refine lv_ishl hx hb dX2_areNodes_11 ?_
    refine k_ti (show nI 1 <<< (nI (gn G) &&& 31) = (1 : Int32) <<< (nI (gn G) &&& 31) from rfl) ?_
    refine lv_icmp_ge (tgt := 19) hx hb dX2_areNodes_12 (by decide) (fun c_12 => ?_) (fun c_12 => ?_)
    · have hz : ¬ toOk (gn G) x := fun h => by
        rw [Int32.le_iff_toInt_le, sh_n _ kn10] at c_12
        exact absurd h.2 (by omega)
      refine lv_iconst (v := nI 0) hx hb dX2_areNodes_19 (by decide) ?_
      exact k_retz X hr hlocks hP hS dX2_areNodes_20 rfl ⟨rfl, Or.inr ⟨hz, rfl⟩⟩
    · have hz : toOk (gn G) x := by
        rw [Int32.le_iff_toInt_le, sh_n _ kn10] at c_12
        rw [Int32.lt_iff_toInt_lt] at c_1
        have e : (0 : Int32).toInt = 0 := rfl
        rw [e] at c_1
        exact ⟨by omega, by omega⟩
      refine lv_iconst (v := nI 1) hx hb dX2_areNodes_15 (by decide) ?_
      refine lv_goto (tgt := 20) hx hb dX2_areNodes_16 (by decide) ?_
      exact k_retz X hr hlocks hP hS dX2_areNodes_20 rfl ⟨rfl, Or.inl ⟨hz, rfl⟩⟩

set_option maxHeartbeats 4000000 in
set_option maxRecDepth 100000 in
theorem m2_allNodes (l : Launch) (G : kG) (u : CS) (hL : lay G) (hk : okC G u) : KMi l G (AC G) (wC G) yX2_allNodes cX2_allNodes 1 (Option.some FieldType.int) ({ frames := 0, cells := 0, slots := 0, locals := 0 }) [.ref (gL G 0)] u (fun r u' => r = nI (2 ^ gn G - 1) ∧ u' = u) := by
  refine K_of (by decide) (Nat.le_of_ble_eq_true rfl) ?_
  intro p e s m below meth c X hr hlocks hnm hK hP ls hl
  have hx := X.1
  have hb := X.2.1
  have hown := X.2.2.2.1
  have hts := X.2.2.2.2
  have hS : va_S (AC G) s.heap s.heap [] := va_S.rf
  have hl : lv_has ls 1 [(0, .ref (gL G 0))] := hl
  obtain ⟨kn4, kn10, kT1, kT61, kP40, kLd, kPar, kEp, kHt, kFc, kVf, kTp, kHf⟩ := id hk
  refine lv_iconst (v := nI 1) hx hb dX2_allNodes_0 (by decide) ?_
  refine lv_aload_n hx hb dX2_allNodes_1 rfl (lv_at hl 0 rfl) ?_
  refine k_get (v := .ref (gL G 1)) X hK inX2 rfl hP (wC_g G u (k := 0) (by decide)) 1 (by decide) tw_1_140 rfl dX2_allNodes_2 ?_
  refine k_len X hK hP (wC_g G u (k := 1) (by decide)) dX2_allNodes_5 ?_
  refine lv_ishl hx hb dX2_allNodes_6 ?_
  refine k_ti (show nI 1 <<< (nI (gn G) &&& 31) = (1 : Int32) <<< (nI (gn G) &&& 31) from rfl) ?_
  refine lv_iconst (v := nI 1) hx hb dX2_allNodes_7 (by decide) ?_
  refine lv_isub hx hb dX2_allNodes_8 ?_
  refine k_ti (sh_n1 _ kn10) ?_
  exact k_reti X hr hlocks hP hS dX2_allNodes_9 ⟨rfl, rfl⟩

set_option maxHeartbeats 4000000 in
set_option maxRecDepth 100000 in
theorem m0_exist (l : Launch) (G : kG) (u : CS) (hL : lay G) (hk : okC G u) (x : Int32) : KMi l G (AC G) (wC G) yX0_exist cX0_exist 2 (Option.some FieldType.boolean) ({ frames := 0, cells := 0, slots := 0, locals := 0 }) [.ref (gL G 3), .int (x)] u (fun r u' => u' = u ∧ ((∃ j : Nat, j < mT u.1 ∧ x = nI j ∧ r = 1) ∨ ((∀ j : Nat, j < mT u.1 → x ≠ nI j) ∧ r = 0))) := by
  refine K_of (by decide) (Nat.le_of_ble_eq_true rfl) ?_
  intro p e s m below meth c X hr hlocks hnm hK hP ls hl
  have hx := X.1
  have hb := X.2.1
  have hown := X.2.2.2.1
  have hts := X.2.2.2.2
  have hS : va_S (AC G) s.heap s.heap [] := va_S.rf
  have hl : lv_has ls 2 [(0, .ref (gL G 3)), (1, .int (x))] := hl
  obtain ⟨kn4, kn10, kT1, kT61, kP40, kLd, kPar, kEp, kHt, kFc, kVf, kTp, kHf⟩ := id hk
  refine lv_iload_n hx hb dX0_exist_0 rfl (lv_at hl 1 rfl) ?_
  refine lv_if_lt (tgt := 16) hx hb dX0_exist_1 (by decide) (fun c_1 => ?_) (fun c_1 => ?_)
  · have hz : ∀ j : Nat, j < mT u.1 → x ≠ nI j := fun j hj => ix_lo c_1 hj (by omega)
    refine lv_iconst (v := nI 0) hx hb dX0_exist_16 (by decide) ?_
    exact k_retz X hr hlocks hP hS dX0_exist_17 rfl ⟨rfl, Or.inr ⟨hz, rfl⟩⟩
  · refine lv_iload_n hx hb dX0_exist_4 rfl (lv_at hl 1 rfl) ?_
    refine lv_aload_n hx hb dX0_exist_5 rfl (lv_at hl 0 rfl) ?_
    refine k_get (v := .int (nI (mT u.1))) X hK inX0 rfl hP (wC_g G u (k := 3) (by decide)) 7 (by decide) tw_1_47 rfl dX0_exist_6 ?_
    refine lv_icmp_ge (tgt := 16) hx hb dX0_exist_9 (by decide) (fun c_9 => ?_) (fun c_9 => ?_)
    · have hz : ∀ j : Nat, j < mT u.1 → x ≠ nI j := fun j hj => ix_hi c_9 hj (by omega)
      refine lv_iconst (v := nI 0) hx hb dX0_exist_16 (by decide) ?_
      exact k_retz X hr hlocks hP hS dX0_exist_17 rfl ⟨rfl, Or.inr ⟨hz, rfl⟩⟩
    · have hz : ∃ j : Nat, j < mT u.1 ∧ x = nI j := ix_in c_1 (by rw [Int32.lt_iff_toInt_lt]; rw [Int32.le_iff_toInt_le] at c_9; omega) (by omega)
      refine lv_iconst (v := nI 1) hx hb dX0_exist_12 (by decide) ?_
      refine lv_goto (tgt := 17) hx hb dX0_exist_13 (by decide) ?_
      exact k_retz X hr hlocks hP hS dX0_exist_17 rfl ⟨rfl, Or.inl (hz.elim fun j hj => ⟨j, hj.1, hj.2, rfl⟩)⟩

set_option maxHeartbeats 4000000 in
set_option maxRecDepth 100000 in
theorem m0_haveRoom (l : Launch) (G : kG) (u : CS) (hL : lay G) (hk : okC G u) : KMi l G (AC G) (wC G) yX0_haveRoom cX0_haveRoom 1 (Option.some FieldType.boolean) ({ frames := 0, cells := 0, slots := 0, locals := 0 }) [.ref (gL G 3)] u (fun r u' => r = bI (decide (mT u.1 ≤ 60)) ∧ u' = u) := by
  refine K_of (by decide) (Nat.le_of_ble_eq_true rfl) ?_
  intro p e s m below meth c X hr hlocks hnm hK hP ls hl
  have hx := X.1
  have hb := X.2.1
  have hown := X.2.2.2.1
  have hts := X.2.2.2.2
  have hS : va_S (AC G) s.heap s.heap [] := va_S.rf
  have hl : lv_has ls 1 [(0, .ref (gL G 3))] := hl
  obtain ⟨kn4, kn10, kT1, kT61, kP40, kLd, kPar, kEp, kHt, kFc, kVf, kTp, kHf⟩ := id hk
  refine lv_aload_n hx hb dX0_haveRoom_0 rfl (lv_at hl 0 rfl) ?_
  refine k_get (v := .int (nI (mT u.1))) X hK inX0 rfl hP (wC_g G u (k := 3) (by decide)) 7 (by decide) tw_1_47 rfl dX0_haveRoom_1 ?_
  refine lv_bipush (v := nI 60) hx hb dX0_haveRoom_4 (by decide) ?_
  refine lv_icmp_gt (tgt := 13) hx hb dX0_haveRoom_6 (by decide) (fun c_6 => ?_) (fun c_6 => ?_)
  · have c_6 : 60 < (mT u.1) := cLt c_6 (by omega) (by omega)
    refine lv_iconst (v := nI 0) hx hb dX0_haveRoom_13 (by decide) ?_
    exact k_retz X hr hlocks hP hS dX0_haveRoom_14 rfl ⟨by rw [show decide (mT u.1 ≤ 60) = false from decide_eq_false (by omega)]; rfl, rfl⟩
  · have c_6 : (mT u.1) ≤ 60 := cNlt c_6 (by omega) (by omega)
    refine lv_iconst (v := nI 1) hx hb dX0_haveRoom_9 (by decide) ?_
    refine lv_goto (tgt := 14) hx hb dX0_haveRoom_10 (by decide) ?_
    exact k_retz X hr hlocks hP hS dX0_haveRoom_14 rfl ⟨by rw [show decide (mT u.1 ≤ 60) = true from decide_eq_true (by omega)]; rfl, rfl⟩
end
section
/-! what the class's methods do, as functions of the state -/
def cnt (f : Nat → Bool) : Nat → Nat
  | 0 => 0
  | k + 1 => cnt f k + (if f k then 1 else 0)
/-- how many votes for a block a node has -/
def nVo (M : MS) (b v : Nat) : Nat := cnt (fun x => mHs M (11 * b + 1 + x) v) 10
theorem cnt_le (f : Nat → Bool) (k : Nat) : cnt f k ≤ k := by
  induction k with
  | zero => exact Nat.le_refl _
  | succ k ih => simp only [cnt]; split <;> omega
theorem cnt_congr {f g : Nat → Bool} {k : Nat} (h : ∀ j, j < k → f j = g j) : cnt f k = cnt g k := by
  induction k with
  | zero => rfl
  | succ k ih => simp only [cnt, h k (Nat.lt_succ_self k)]; rw [ih fun j hj => h j (Nat.lt_succ_of_lt hj)]
theorem cnt_ext {f : Nat → Bool} {a : Nat} (b : Nat) (h : ∀ j, a ≤ j → j < a + b → f j = false) : cnt f (a + b) = cnt f a := by
  induction b with
  | zero => rfl
  | succ b ih =>
    show cnt f (a + b) + (if f (a + b) then 1 else 0) = _
    rw [h (a + b) (by omega) (by omega), ih fun j h1 h2 => h j h1 (by omega)]
    rfl
def mMake (M : MS) (o e : Nat) (w : Int32) (v : Nat) : MS := sMk (sHt (sLo (sEp (sPar (sT M (mT M + 1)) (va_up (mPar M) (mT M) o)) (va_up (mEp M) (mT M) e)) (va_up (mLo M) (mT M) w)) (va_up (mHt M) (mT M) (mHt M o + 1))) (va_up (mMk M) (mT M) v)
def xMake (M : MS) (X : XS) (o : Nat) (w : Int32) : XS := tCl (tCh X (va_up (xCh X) (mT M) (va_up (xCh X o) (mT M) true))) (va_up (xCl X) (mT M) (xCl X o ||| w))
def cMake (u : CS) (o e : Nat) (w : Int32) (v : Nat) : CS := (mMake u.1 o e w v, xMake u.1 u.2 o w)
/-- is b a better tip than t -/
def better (M : MS) (t b : Nat) : Bool := decide (mHt M t < mHt M b) || (decide (mHt M t = mHt M b) && (decide (mEp M t < mEp M b) || (decide (mEp M t = mEp M b) && decide (b < t))))
theorem better_iff (M : MS) (t b : Nat) : better M t b = true ↔ mHt M t < mHt M b ∨ (mHt M t = mHt M b ∧ (mEp M t < mEp M b ∨ (mEp M t = mEp M b ∧ b < t))) := by
  simp only [better, Bool.or_eq_true, Bool.and_eq_true, decide_eq_true_eq]
def cTip (M : MS) (X : XS) (v b : Nat) : XS := if better M (xTp X v) b then tTp X (va_up (xTp X) v b) else X
def betterF (M : MS) (h p : Nat) : Bool := decide (mHt M h < mHt M p) || (decide (mHt M h = mHt M p) && decide (p < h))
theorem betterF_iff (M : MS) (t b : Nat) : betterF M t b = true ↔ mHt M t < mHt M b ∨ (mHt M t = mHt M b ∧ b < t) := by
  simp only [betterF, Bool.or_eq_true, Bool.and_eq_true, decide_eq_true_eq]
def isThree (M : MS) (c p : Nat) : Bool := decide (p ≠ 0) && (decide (mEp M p = mEp M (mPar M p) + 1) && decide (mEp M c = mEp M p + 1))
theorem isThree_iff (M : MS) (c p : Nat) : isThree M c p = true ↔ p ≠ 0 ∧ mEp M p = mEp M (mPar M p) + 1 ∧ mEp M c = mEp M p + 1 := by
  simp only [isThree, Bool.and_eq_true, decide_eq_true_eq]
def cFin1 (X : XS) (v p : Nat) : XS := tFi X (va_up (xFi X) v (fun k => xFi X v k || xCh X p k))
def cFin (M : MS) (X : XS) (v c p : Nat) : XS := if isThree M c p then (if betterF M (xHf X v) p then tHf (cFin1 X v p) (va_up (xHf X) v p) else cFin1 X v p) else X
def jKn (M : MS) (X : XS) (v b : Nat) : XS := if mHs M (11 * b) v && xKn X v (mPar M b) then tKn X (up2 (xKn X) v b true) else X
def jNo (n : Nat) (M : MS) (X : XS) (v b : Nat) : XS := if decide (2 * n ≤ 3 * nVo M b v) && (!(xNo X v b) && (xKn X v b && xNo X v (mPar M b))) then cFin M (cTip M (tNo X (up2 (xNo X) v b true)) v b) v b (mPar M b) else X
/-- what a letter of a node changes, at one block -/
def jStep (n : Nat) (M : MS) (X : XS) (v b : Nat) : XS := if b = 0 then X else jNo n M (jKn M X v b) v b
def jFold (n : Nat) (M : MS) (v : Nat) (X : XS) (c : Nat) : Nat → XS
  | 0 => X
  | k + 1 => jStep n M (jFold n M v X c k) v (c + k)
def judge (n : Nat) (M : MS) (X : XS) (v c : Nat) : XS := jFold n M v X c (mT M - c)
theorem jFold_succ {n : Nat} {M : MS} {v : Nat} {X : XS} {c i : Nat} (h : c ≤ i) : jFold n M v X c (i + 1 - c) = jStep n M (jFold n M v X c (i - c)) v i := by
  rw [show i + 1 - c = (i - c) + 1 by omega]
  show jStep n M _ v (c + (i - c)) = _
  rw [show c + (i - c) = i by omega]
def mHaveP (M : MS) (v b : Nat) : MS := if mFc M v (mEp M b) = 0 then sFc (sWy (sHs M (up2 (mHs M) (11 * b) v true)) (up2 (mWy M) (11 * b) v false)) (up2 (mFc M) v (mEp M b) b) else sWy (sHs M (up2 (mHs M) (11 * b) v true)) (up2 (mWy M) (11 * b) v false)
def mHaveV (M : MS) (v x b : Nat) : MS := sWy (sHs M (up2 (mHs M) (11 * b + 1 + x) v true)) (up2 (mWy M) (11 * b + 1 + x) v false)
def cHaveP (n : Nat) (u : CS) (v b : Nat) : CS := (mHaveP u.1 v b, judge n (mHaveP u.1 v b) u.2 v b)
def cHaveV (n : Nat) (u : CS) (v x b : Nat) : CS := (mHaveV u.1 v x b, judge n (mHaveV u.1 v x b) u.2 v b)
/-- a letter l is under way to one node more, v -/
def newL (M : MS) (l v : Nat) : Bool := !(mHs M l v || mWy M l v)
def mExp (M : MS) (l v : Nat) : MS := if newL M l v then sWy M (up2 (mWy M) l v true) else M
/-- for which block a node votes as it looks; 0: none -/
def cChoice (M : MS) (X : XS) (v p : Nat) : Nat := if decide (mFc M v p ≠ 0) && (decide (mVf M v p = 0) && (xKn X v (mFc M v p) && (xNo X v (mPar M (mFc M v p)) && decide (mHt M (mPar M (mFc M v p)) = mHt M (xTp X v))))) then mFc M v p else 0
/-! ranges that stay -/
theorem ok_X {G : kG} {u : CS} (hk : okC G u) {X : XS} (h1 : ∀ v, xTp X v < mT u.1) (h2 : ∀ v, xHf X v < mT u.1) : okC G (u.1, X) := by
  obtain ⟨a1, a2, a3, a4, a5, a6, a7, a8, a9, a10, a11, -, -⟩ := hk
  exact ⟨a1, a2, a3, a4, a5, a6, a7, a8, a9, a10, a11, h1, h2⟩
theorem jKn_tp (M : MS) (X : XS) (v b : Nat) : xTp (jKn M X v b) = xTp X := by unfold jKn; split <;> rfl
theorem jKn_hf (M : MS) (X : XS) (v b : Nat) : xHf (jKn M X v b) = xHf X := by unfold jKn; split <;> rfl
theorem cTip_tp {K : Nat} {M : MS} {X : XS} {v b : Nat} (hb : b < K) (h : ∀ v, xTp X v < K) : ∀ w, xTp (cTip M X v b) w < K := by
  intro w
  unfold cTip
  split
  · show va_up (xTp X) v b w < K
    unfold va_up; split
    · exact hb
    · exact h w
  · exact h w
theorem cTip_hf (M : MS) (X : XS) (v b : Nat) : xHf (cTip M X v b) = xHf X := by unfold cTip; split <;> rfl
theorem cFin_tp (M : MS) (X : XS) (v c p : Nat) : xTp (cFin M X v c p) = xTp X := by unfold cFin; split <;> first | rfl | (split <;> rfl)
theorem cFin_hf {K : Nat} {M : MS} {X : XS} {v c p : Nat} (hp : p < K) (h : ∀ v, xHf X v < K) : ∀ w, xHf (cFin M X v c p) w < K := by
  intro w
  unfold cFin
  split
  · split
    · show va_up (xHf X) v p w < K
      unfold va_up; split
      · exact hp
      · exact h w
    · exact h w
  · exact h w
theorem jStep_le {K n : Nat} {M : MS} {X : XS} {v b : Nat} (hb : b < K) (hp : b ≠ 0 → mPar M b < K) (h1 : ∀ v, xTp X v < K) (h2 : ∀ v, xHf X v < K) : (∀ w, xTp (jStep n M X v b) w < K) ∧ ∀ w, xHf (jStep n M X v b) w < K := by
  unfold jStep
  split
  · exact ⟨h1, h2⟩
  · rename_i hb0
    unfold jNo
    split
    · refine ⟨fun w => ?_, fun w => ?_⟩
      · rw [cFin_tp]
        exact cTip_tp hb (fun w => by show xTp (jKn M X v b) w < K; rw [jKn_tp]; exact h1 w) w
      · exact cFin_hf (hp hb0) (fun w => by rw [cTip_hf]; show xHf (jKn M X v b) w < K; rw [jKn_hf]; exact h2 w) w
    · exact ⟨fun w => by rw [jKn_tp]; exact h1 w, fun w => by rw [jKn_hf]; exact h2 w⟩
theorem jFold_le {K n : Nat} {M : MS} {X : XS} {v c k : Nat} (hc : c + k ≤ K) (hp : ∀ b, b ≠ 0 → b < K → mPar M b < K) (h1 : ∀ v, xTp X v < K) (h2 : ∀ v, xHf X v < K) : (∀ w, xTp (jFold n M v X c k) w < K) ∧ ∀ w, xHf (jFold n M v X c k) w < K := by
  induction k with
  | zero => exact ⟨h1, h2⟩
  | succ k ih =>
    have h := ih (by omega)
    exact jStep_le (by omega) (fun h0 => hp _ h0 (by omega)) h.1 h.2
theorem ok_Fc {G : kG} {u : CS} (hk : okC G u) {v e b : Nat} (hb : b < mT u.1) : okC G (sFc u.1 (up2 (mFc u.1) v e b), u.2) := by
  obtain ⟨a1, a2, a3, a4, a5, a6, a7, a8, a9, a10, a11, a12, a13⟩ := hk
  refine ⟨a1, a2, a3, a4, a5, a6, a7, a8, a9, fun v' e' => ?_, a11, a12, a13⟩
  show up2 (mFc u.1) v e b v' e' < mT u.1
  unfold up2; split
  · exact hb
  · exact a10 v' e'
theorem ok_Vf {G : kG} {u : CS} (hk : okC G u) {v e b : Nat} (hb : b ≤ 60) : okC G (sVf u.1 (up2 (mVf u.1) v e b), u.2) := by
  obtain ⟨a1, a2, a3, a4, a5, a6, a7, a8, a9, a10, a11, a12, a13⟩ := hk
  refine ⟨a1, a2, a3, a4, a5, a6, a7, a8, a9, a10, fun v' e' => ?_, a12, a13⟩
  show up2 (mVf u.1) v e b v' e' ≤ 60
  unfold up2; split
  · exact hb
  · exact a11 v' e'
theorem ok_haveP {G : kG} {u : CS} (hk : okC G u) {v b : Nat} (hb : b < mT u.1) : okC G (mHaveP u.1 v b, u.2) := by
  unfold mHaveP
  split
  · exact ok_Fc (u := (sWy (sHs u.1 (up2 (mHs u.1) (11 * b) v true)) (up2 (mWy u.1) (11 * b) v false), u.2)) hk hb
  · exact hk
theorem ok_judge {G : kG} {u : CS} (hk : okC G u) {v c : Nat} (hc : c ≤ mT u.1) : okC G (u.1, judge (gn G) u.1 u.2 v c) := by
  have h := hk
  obtain ⟨a1, a2, a3, a4, a5, a6, a7, a8, a9, a10, a11, a12, a13⟩ := hk
  have hj := jFold_le (K := mT u.1) (n := gn G) (M := u.1) (X := u.2) (v := v) (c := c) (k := mT u.1 - c) (by omega) (fun b h0 hb => by have := a7 b (Nat.pos_of_ne_zero h0); omega) a12 a13
  exact ok_X h hj.1 hj.2
/-- Integer.bitCount, Long.bitCount -/
def bc1 (x : Int32) : Int32 := x - ((x.toUInt32 >>> ((nI 1).toUInt32 &&& Int32.toUInt32 31)).toInt32 &&& 1431655765)
def bc2 (x : Int32) : Int32 := (x &&& 858993459) + ((x.toUInt32 >>> ((nI 2).toUInt32 &&& Int32.toUInt32 31)).toInt32 &&& 858993459)
def bc3 (x : Int32) : Int32 := (x + (x.toUInt32 >>> ((nI 4).toUInt32 &&& Int32.toUInt32 31)).toInt32) &&& 252645135
def bc4 (x : Int32) : Int32 := x + (x.toUInt32 >>> ((nI 8).toUInt32 &&& Int32.toUInt32 31)).toInt32
def bc5 (x : Int32) : Int32 := x + (x.toUInt32 >>> ((nI 16).toUInt32 &&& Int32.toUInt32 31)).toInt32
def lc1 (x : Int64) : Int64 := x - ((x.toUInt64 >>> ((nI 1).toInt64.toUInt64 &&& Int64.toUInt64 63)).toInt64 &&& 6148914691236517205)
def lc2 (x : Int64) : Int64 := (x &&& 3689348814741910323) + ((x.toUInt64 >>> ((nI 2).toInt64.toUInt64 &&& Int64.toUInt64 63)).toInt64 &&& 3689348814741910323)
def lc3 (x : Int64) : Int64 := (x + (x.toUInt64 >>> ((nI 4).toInt64.toUInt64 &&& Int64.toUInt64 63)).toInt64) &&& 1085102592571150095
def lc4 (x : Int64) : Int64 := x + (x.toUInt64 >>> ((nI 8).toInt64.toUInt64 &&& Int64.toUInt64 63)).toInt64
def lc5 (x : Int64) : Int64 := x + (x.toUInt64 >>> ((nI 16).toInt64.toUInt64 &&& Int64.toUInt64 63)).toInt64
def lc6 (x : Int64) : Int64 := x + (x.toUInt64 >>> ((nI 32).toInt64.toUInt64 &&& Int64.toUInt64 63)).toInt64
theorem bc32_eq (x : Int32) : bc5 (bc4 (bc3 (bc2 (bc1 x)))) &&& nI 63 = nI (cnt (tI x) 32) := sorry
theorem bc64_eq (x : Int64) : (lc6 (lc5 (lc4 (lc3 (lc2 (lc1 x)))))).toInt32 &&& nI 127 = nI (cnt (tL x) 64) := sorry
end
section
set_option maxHeartbeats 4000000 in
set_option maxRecDepth 100000 in
theorem m0_hasOneOf (l : Launch) (G : kG) (u : CS) (hL : lay G) (hk : okC G u) {e0 : Nat} (he0 : e0 ≤ 40) : KMi l G (AC G) (wC G) yX0_hasOneOf cX0_hasOneOf 3 (Option.some FieldType.boolean) ({ frames := 0, cells := 0, slots := 0, locals := 0 }) [.ref (gL G 3), .int (nI e0)] u (fun r u' => r = bI (hasEp u.1 e0) ∧ u' = u) := by
  refine K_of (by decide) (Nat.le_of_ble_eq_true rfl) ?_
  intro p e s m below meth c X hr hlocks hnm hK hP ls hl
  have hx := X.1
  have hb := X.2.1
  have hown := X.2.2.2.1
  have hts := X.2.2.2.2
  have hS : va_S (AC G) s.heap s.heap [] := va_S.rf
  have hl : lv_has ls 3 [(0, .ref (gL G 3)), (1, .int (nI e0))] := hl
  obtain ⟨kn4, kn10, kT1, kT61, kP40, kLd, kPar, kEp, kHt, kFc, kVf, kTp, kHf⟩ := id hk
  refine lv_iconst (v := nI 0) hx hb dX0_hasOneOf_0 (by decide) ?_
  refine lv_istore_n (lv' := [(2, .int (nI 0)), (0, .ref (gL G 3)), (1, .int (nI e0))]) hx hb dX0_hasOneOf_1 rfl hl (by decide) rfl (fun ls hl => ?_)
  have loop_2 : ∀ (d_2 : Nat) (i : Nat), mT u.1 - i = d_2 → (i ≤ mT u.1) → (∀ b, b < i → mEp u.1 b ≠ e0) → ∀ (H : Heap) (locs : List Loc) (ls : Array Slot), va_P (gD G) vwCl ((wC G) u) H → va_S (AC G) s.heap H locs → lv_has ls 3 [(0, .ref (gL G 3)), (1, .int (nI e0)), (2, .int (nI i))] → W p l e ({ frames := 0, cells := 0, slots := 0, locals := 0 } : Room) s m ([.ref (gL G 3), .int (nI e0)] : List Value).toArray below meth c H locs 0 0 (MQ below (va_Qi (fun r u' => r = bI (hasEp u.1 e0) ∧ u' = u) (KB G (wC G)) (AC G)) ([.ref (gL G 3), .int (nI e0)] : List Value).toArray s 0 0 (AC G)) (F0 m 2 ls []) := by
    intro d_2
    induction d_2 using Nat.strongRecOn with
    | ind d_2 ih_2 =>
      intro i hd_2 hi hne H locs ls hP hS hl
      refine lv_iload_n hx hb dX0_hasOneOf_2 rfl (lv_at hl 2 rfl) ?_
      refine lv_aload_n hx hb dX0_hasOneOf_3 rfl (lv_at hl 0 rfl) ?_
      refine k_get (v := .int (nI (mT u.1))) X hK inX0 rfl hP (wC_g G u (k := 3) (by decide)) 7 (by decide) tw_1_47 rfl dX0_hasOneOf_4 ?_
      refine lv_icmp_ge (tgt := 28) hx hb dX0_hasOneOf_7 (by decide) (fun c_7 => ?_) (fun c_7 => ?_)
      · have c_7 : (mT u.1) ≤ i := cLe c_7 (by omega) (by omega)
        refine lv_iconst (v := nI 0) hx hb dX0_hasOneOf_28 (by decide) ?_
        exact k_retz X hr hlocks hP hS dX0_hasOneOf_29 rfl ⟨by rw [show hasEp u.1 e0 = false from List.any_eq_false.mpr fun b hb => by simp [hne b (Nat.lt_of_lt_of_le (List.mem_range.mp hb) c_7)]]; rfl, rfl⟩
      · have c_7 : i < (mT u.1) := cNle c_7 (by omega) (by omega)
        refine lv_aload_n hx hb dX0_hasOneOf_10 rfl (lv_at hl 0 rfl) ?_
        refine k_get (v := .ref (gL G 5)) X hK inX0 rfl hP (wC_g G u (k := 3) (by decide)) 1 (by decide) tw_1_32 rfl dX0_hasOneOf_11 ?_
        refine lv_iload_n hx hb dX0_hasOneOf_14 rfl (lv_at hl 2 rfl) ?_
        refine k_ild (v := nI (mEp u.1 i)) X hK hP (wC_g G u (k := 5) (by decide)) (by omega) (by decide) rfl dX0_hasOneOf_15 ?_
        refine lv_iload_n hx hb dX0_hasOneOf_16 rfl (lv_at hl 1 rfl) ?_
        have hEi := kEp i
        refine lv_icmp_ne (tgt := 22) hx hb dX0_hasOneOf_17 (by decide) (fun c_17 => ?_) (fun c_17 => ?_)
        · have c_17 : (mEp u.1 i) ≠ e0 := cNe c_17 (by omega) (by omega)
          have hEi := kEp i
          refine lv_iinc (v := nI (i + 1)) (lv' := [(2, .int (nI (i + 1))), (0, .ref (gL G 3)), (1, .int (nI e0))]) hx hb dX0_hasOneOf_22 hl (k := 2) rfl (nI_add i 1) (by decide) rfl (fun ls hl => ?_)
          refine lv_goto (tgt := 2) hx hb dX0_hasOneOf_25 (by decide) ?_
          exact ih_2 (mT u.1 - (i + 1)) (by omega) (i + 1) rfl (c_7) (lt_s hne c_17) _ _ _ hP hS (lv_sub hl [1, 2, 0] rfl)
        · have c_17 : (mEp u.1 i) = e0 := cEq c_17 (by omega) (by omega)
          have hEi := kEp i
          refine lv_iconst (v := nI 1) hx hb dX0_hasOneOf_20 (by decide) ?_
          exact k_retz X hr hlocks hP hS dX0_hasOneOf_21 rfl ⟨by rw [show hasEp u.1 e0 = true from List.any_eq_true.mpr ⟨i, List.mem_range.mpr c_7, by simp [c_17]⟩]; rfl, rfl⟩
  exact loop_2 _ 0 rfl (Nat.zero_le _) (fun b h => absurd h (Nat.not_lt_zero _)) _ _ _ hP hS (lv_sub hl [1, 2, 0] rfl)

set_option maxHeartbeats 4000000 in
set_option maxRecDepth 100000 in
theorem m0_make (l : Launch) (G : kG) (u : CS) (hL : lay G) (hk : okC G u) {o e0 v : Nat} (ho : o < mT u.1) (he0 : e0 ≤ 40) (hT : mT u.1 ≤ 60) (w : Int32) : KMi l G (AC G) (wC G) yX0_make cX0_make 6 (Option.some FieldType.int) ({ frames := 0, cells := 0, slots := 0, locals := 0 }) [.ref (gL G 3), .int (nI o), .int (nI e0), .int (w), .int (nI v)] u (fun r u' => r = nI (mT u.1) ∧ u' = cMake u o e0 w v) := by
  refine K_of (by decide) (Nat.le_of_ble_eq_true rfl) ?_
  intro p e s m below meth c X hr hlocks hnm hK hP ls hl
  have hx := X.1
  have hb := X.2.1
  have hown := X.2.2.2.1
  have hts := X.2.2.2.2
  have hS : va_S (AC G) s.heap s.heap [] := va_S.rf
  have hl : lv_has ls 6 [(0, .ref (gL G 3)), (1, .int (nI o)), (2, .int (nI e0)), (3, .int (w)), (4, .int (nI v))] := hl
  obtain ⟨kn4, kn10, kT1, kT61, kP40, kLd, kPar, kEp, kHt, kFc, kVf, kTp, kHf⟩ := id hk
  refine lv_aload_n hx hb dX0_make_0 rfl (lv_at hl 0 rfl) ?_
  refine k_get (v := .int (nI (mT u.1))) X hK inX0 rfl hP (wC_g G u (k := 3) (by decide)) 7 (by decide) tw_1_47 rfl dX0_make_1 ?_
  refine lv_istore (lv' := [(5, .int (nI (mT u.1))), (0, .ref (gL G 3)), (1, .int (nI o)), (2, .int (nI e0)), (3, .int (w)), (4, .int (nI v))]) hx hb dX0_make_4 hl (by decide) rfl (fun ls hl => ?_)
  refine lv_aload_n hx hb dX0_make_6 rfl (lv_at hl 1 rfl) ?_
  refine lv_dup hx hb dX0_make_7 rfl ?_
  refine k_get (v := .int (nI (mT u.1))) X hK inX0 rfl hP (wC_g G u (k := 3) (by decide)) 7 (by decide) tw_1_47 rfl dX0_make_8 ?_
  refine lv_iconst (v := nI 1) hx hb dX0_make_11 (by decide) ?_
  refine lv_iadd hx hb dX0_make_12 ?_
  refine k_ti (nI_add (mT u.1) 1) ?_
  refine k_put (v := .int (nI ((mT u.1) + 1))) X hK inX0 rfl tyX0_ok nmX0 hP (wC_D hL _) hS (wC_g G u (k := 3) (by decide)) 7 (by decide) tw_1_47 rfl rfl rfl (Nat.le_of_ble_eq_true rfl) ((sT u.1 ((mT u.1) + 1), u.2)) (cs_T G u ((mT u.1) + 1)) dX0_make_13 (fun H locs hP hS => ?_)
  refine lv_aload_n hx hb dX0_make_16 rfl (lv_at hl 1 rfl) ?_
  refine k_get (v := .ref (gL G 4)) X hK inX0 rfl hP (wC_g G ((sT u.1 ((mT u.1) + 1), u.2)) (k := 3) (by decide)) 0 (by decide) tw_1_29 rfl dX0_make_17 ?_
  refine lv_iload hx hb dX0_make_20 (lv_at hl 0 rfl) ?_
  refine lv_iload_n hx hb dX0_make_22 rfl (lv_at hl 2 rfl) ?_
  refine k_ist (x := nI o) X hK hP (wC_D hL _) hS (wC_g G ((sT u.1 ((mT u.1) + 1), u.2)) (k := 4) (by decide)) (by omega) (by decide) ((sPar (sT u.1 ((mT u.1) + 1)) (va_up (mPar u.1) (mT u.1) o), u.2)) (cs_Par G ((sT u.1 ((mT u.1) + 1), u.2)) (k := (mT u.1)) (by omega) o) dX0_make_23 (fun H locs hP hS => ?_)
  refine lv_aload_n hx hb dX0_make_24 rfl (lv_at hl 1 rfl) ?_
  refine k_get (v := .ref (gL G 5)) X hK inX0 rfl hP (wC_g G ((sPar (sT u.1 ((mT u.1) + 1)) (va_up (mPar u.1) (mT u.1) o), u.2)) (k := 3) (by decide)) 1 (by decide) tw_1_32 rfl dX0_make_25 ?_
  refine lv_iload hx hb dX0_make_28 (lv_at hl 0 rfl) ?_
  refine lv_iload_n hx hb dX0_make_30 rfl (lv_at hl 3 rfl) ?_
  refine k_ist (x := nI e0) X hK hP (wC_D hL _) hS (wC_g G ((sPar (sT u.1 ((mT u.1) + 1)) (va_up (mPar u.1) (mT u.1) o), u.2)) (k := 5) (by decide)) (by omega) (by decide) ((sEp (sPar (sT u.1 ((mT u.1) + 1)) (va_up (mPar u.1) (mT u.1) o)) (va_up (mEp u.1) (mT u.1) e0), u.2)) (cs_Ep G ((sPar (sT u.1 ((mT u.1) + 1)) (va_up (mPar u.1) (mT u.1) o), u.2)) (mT u.1) e0) dX0_make_31 (fun H locs hP hS => ?_)
  refine lv_aload_n hx hb dX0_make_32 rfl (lv_at hl 1 rfl) ?_
  refine k_get (v := .ref (gL G 6)) X hK inX0 rfl hP (wC_g G ((sEp (sPar (sT u.1 ((mT u.1) + 1)) (va_up (mPar u.1) (mT u.1) o)) (va_up (mEp u.1) (mT u.1) e0), u.2)) (k := 3) (by decide)) 2 (by decide) tw_1_35 rfl dX0_make_33 ?_
  refine lv_iload hx hb dX0_make_36 (lv_at hl 0 rfl) ?_
  refine lv_iload_n hx hb dX0_make_38 rfl (lv_at hl 4 rfl) ?_
  refine k_ist (x := w) X hK hP (wC_D hL _) hS (wC_g G ((sEp (sPar (sT u.1 ((mT u.1) + 1)) (va_up (mPar u.1) (mT u.1) o)) (va_up (mEp u.1) (mT u.1) e0), u.2)) (k := 6) (by decide)) (by omega) (by decide) ((sLo (sEp (sPar (sT u.1 ((mT u.1) + 1)) (va_up (mPar u.1) (mT u.1) o)) (va_up (mEp u.1) (mT u.1) e0)) (va_up (mLo u.1) (mT u.1) w), u.2)) (cs_Lo G ((sEp (sPar (sT u.1 ((mT u.1) + 1)) (va_up (mPar u.1) (mT u.1) o)) (va_up (mEp u.1) (mT u.1) e0), u.2)) (mT u.1) w) dX0_make_39 (fun H locs hP hS => ?_)
  refine lv_aload_n hx hb dX0_make_40 rfl (lv_at hl 1 rfl) ?_
  refine k_get (v := .ref (gL G 7)) X hK inX0 rfl hP (wC_g G ((sLo (sEp (sPar (sT u.1 ((mT u.1) + 1)) (va_up (mPar u.1) (mT u.1) o)) (va_up (mEp u.1) (mT u.1) e0)) (va_up (mLo u.1) (mT u.1) w), u.2)) (k := 3) (by decide)) 3 (by decide) tw_1_37 rfl dX0_make_41 ?_
  refine lv_iload hx hb dX0_make_44 (lv_at hl 0 rfl) ?_
  refine lv_aload_n hx hb dX0_make_46 rfl (lv_at hl 1 rfl) ?_
  refine k_get (v := .ref (gL G 7)) X hK inX0 rfl hP (wC_g G ((sLo (sEp (sPar (sT u.1 ((mT u.1) + 1)) (va_up (mPar u.1) (mT u.1) o)) (va_up (mEp u.1) (mT u.1) e0)) (va_up (mLo u.1) (mT u.1) w), u.2)) (k := 3) (by decide)) 3 (by decide) tw_1_37 rfl dX0_make_47 ?_
  refine lv_iload_n hx hb dX0_make_50 rfl (lv_at hl 2 rfl) ?_
  refine k_ild (v := nI (mHt u.1 o)) X hK hP (wC_g G ((sLo (sEp (sPar (sT u.1 ((mT u.1) + 1)) (va_up (mPar u.1) (mT u.1) o)) (va_up (mEp u.1) (mT u.1) e0)) (va_up (mLo u.1) (mT u.1) w), u.2)) (k := 7) (by decide)) (by omega) (by decide) rfl dX0_make_51 ?_
  refine lv_iconst (v := nI 1) hx hb dX0_make_52 (by decide) ?_
  refine lv_iadd hx hb dX0_make_53 ?_
  refine k_ti (nI_add (mHt u.1 o) 1) ?_
  refine k_ist (x := nI ((mHt u.1 o) + 1)) X hK hP (wC_D hL _) hS (wC_g G ((sLo (sEp (sPar (sT u.1 ((mT u.1) + 1)) (va_up (mPar u.1) (mT u.1) o)) (va_up (mEp u.1) (mT u.1) e0)) (va_up (mLo u.1) (mT u.1) w), u.2)) (k := 7) (by decide)) (by omega) (by decide) ((sHt (sLo (sEp (sPar (sT u.1 ((mT u.1) + 1)) (va_up (mPar u.1) (mT u.1) o)) (va_up (mEp u.1) (mT u.1) e0)) (va_up (mLo u.1) (mT u.1) w)) (va_up (mHt u.1) (mT u.1) ((mHt u.1 o) + 1)), u.2)) (cs_Ht G ((sLo (sEp (sPar (sT u.1 ((mT u.1) + 1)) (va_up (mPar u.1) (mT u.1) o)) (va_up (mEp u.1) (mT u.1) e0)) (va_up (mLo u.1) (mT u.1) w), u.2)) (mT u.1) ((mHt u.1 o) + 1)) dX0_make_54 (fun H locs hP hS => ?_)
  refine lv_aload_n hx hb dX0_make_55 rfl (lv_at hl 1 rfl) ?_
  refine k_get (v := .ref (gL G 8)) X hK inX0 rfl hP (wC_g G ((sHt (sLo (sEp (sPar (sT u.1 ((mT u.1) + 1)) (va_up (mPar u.1) (mT u.1) o)) (va_up (mEp u.1) (mT u.1) e0)) (va_up (mLo u.1) (mT u.1) w)) (va_up (mHt u.1) (mT u.1) ((mHt u.1 o) + 1)), u.2)) (k := 3) (by decide)) 4 (by decide) tw_1_40 rfl dX0_make_56 ?_
  refine lv_iload hx hb dX0_make_59 (lv_at hl 0 rfl) ?_
  refine lv_iload hx hb dX0_make_61 (lv_at hl 5 rfl) ?_
  refine k_ist (x := nI v) X hK hP (wC_D hL _) hS (wC_g G ((sHt (sLo (sEp (sPar (sT u.1 ((mT u.1) + 1)) (va_up (mPar u.1) (mT u.1) o)) (va_up (mEp u.1) (mT u.1) e0)) (va_up (mLo u.1) (mT u.1) w)) (va_up (mHt u.1) (mT u.1) ((mHt u.1 o) + 1)), u.2)) (k := 8) (by decide)) (by omega) (by decide) ((sMk (sHt (sLo (sEp (sPar (sT u.1 ((mT u.1) + 1)) (va_up (mPar u.1) (mT u.1) o)) (va_up (mEp u.1) (mT u.1) e0)) (va_up (mLo u.1) (mT u.1) w)) (va_up (mHt u.1) (mT u.1) ((mHt u.1 o) + 1))) (va_up (mMk u.1) (mT u.1) v), u.2)) (cs_Mk G ((sHt (sLo (sEp (sPar (sT u.1 ((mT u.1) + 1)) (va_up (mPar u.1) (mT u.1) o)) (va_up (mEp u.1) (mT u.1) e0)) (va_up (mLo u.1) (mT u.1) w)) (va_up (mHt u.1) (mT u.1) ((mHt u.1 o) + 1)), u.2)) (k := (mT u.1)) (by omega) v) dX0_make_63 (fun H locs hP hS => ?_)
  refine lv_aload_n hx hb dX0_make_64 rfl (lv_at hl 1 rfl) ?_
  refine k_get (v := .ref (gL G 9)) X hK inX0 rfl hP (wC_g G ((sMk (sHt (sLo (sEp (sPar (sT u.1 ((mT u.1) + 1)) (va_up (mPar u.1) (mT u.1) o)) (va_up (mEp u.1) (mT u.1) e0)) (va_up (mLo u.1) (mT u.1) w)) (va_up (mHt u.1) (mT u.1) ((mHt u.1 o) + 1))) (va_up (mMk u.1) (mT u.1) v), u.2)) (k := 3) (by decide)) 5 (by decide) tw_1_42 rfl dX0_make_65 ?_
  refine lv_iload hx hb dX0_make_68 (lv_at hl 0 rfl) ?_
  refine lv_aload_n hx hb dX0_make_70 rfl (lv_at hl 1 rfl) ?_
  refine k_get (v := .ref (gL G 9)) X hK inX0 rfl hP (wC_g G ((sMk (sHt (sLo (sEp (sPar (sT u.1 ((mT u.1) + 1)) (va_up (mPar u.1) (mT u.1) o)) (va_up (mEp u.1) (mT u.1) e0)) (va_up (mLo u.1) (mT u.1) w)) (va_up (mHt u.1) (mT u.1) ((mHt u.1 o) + 1))) (va_up (mMk u.1) (mT u.1) v), u.2)) (k := 3) (by decide)) 5 (by decide) tw_1_42 rfl dX0_make_71 ?_
  refine lv_iload_n hx hb dX0_make_74 rfl (lv_at hl 2 rfl) ?_
  refine k_lld (v := eL (xCh u.2 o)) X hK hP (wC_g G ((sMk (sHt (sLo (sEp (sPar (sT u.1 ((mT u.1) + 1)) (va_up (mPar u.1) (mT u.1) o)) (va_up (mEp u.1) (mT u.1) e0)) (va_up (mLo u.1) (mT u.1) w)) (va_up (mHt u.1) (mT u.1) ((mHt u.1 o) + 1))) (va_up (mMk u.1) (mT u.1) v), u.2)) (k := 9) (by decide)) (by omega) (by decide) rfl dX0_make_75 ?_
  refine lv_lconst (v := 1) hx hb dX0_make_76 rfl ?_
  refine lv_iload hx hb dX0_make_77 (lv_at hl 0 rfl) ?_
  refine lv_lshl (v := (1 : Int64) <<< ((nI (mT u.1)).toInt64 &&& 63)) hx hb dX0_make_79 rfl ?_
  refine lv_lor hx hb dX0_make_80 ?_
  refine k_tl (eL_or (xCh u.2 o) (by omega)) ?_
  refine k_lst (x := eL (va_up (xCh u.2 o) (mT u.1) true)) X hK hP (wC_D hL _) hS (wC_g G ((sMk (sHt (sLo (sEp (sPar (sT u.1 ((mT u.1) + 1)) (va_up (mPar u.1) (mT u.1) o)) (va_up (mEp u.1) (mT u.1) e0)) (va_up (mLo u.1) (mT u.1) w)) (va_up (mHt u.1) (mT u.1) ((mHt u.1 o) + 1))) (va_up (mMk u.1) (mT u.1) v), u.2)) (k := 9) (by decide)) (by omega) (by decide) (((sMk (sHt (sLo (sEp (sPar (sT u.1 ((mT u.1) + 1)) (va_up (mPar u.1) (mT u.1) o)) (va_up (mEp u.1) (mT u.1) e0)) (va_up (mLo u.1) (mT u.1) w)) (va_up (mHt u.1) (mT u.1) ((mHt u.1 o) + 1))) (va_up (mMk u.1) (mT u.1) v)), tCh u.2 (va_up (xCh u.2) (mT u.1) ((va_up (xCh u.2 o) (mT u.1) true))))) (cs_Ch G ((sMk (sHt (sLo (sEp (sPar (sT u.1 ((mT u.1) + 1)) (va_up (mPar u.1) (mT u.1) o)) (va_up (mEp u.1) (mT u.1) e0)) (va_up (mLo u.1) (mT u.1) w)) (va_up (mHt u.1) (mT u.1) ((mHt u.1 o) + 1))) (va_up (mMk u.1) (mT u.1) v), u.2)) (mT u.1) ((va_up (xCh u.2 o) (mT u.1) true))) dX0_make_81 (fun H locs hP hS => ?_)
  refine lv_aload_n hx hb dX0_make_82 rfl (lv_at hl 1 rfl) ?_
  refine k_get (v := .ref (gL G 10)) X hK inX0 rfl hP (wC_g G (((sMk (sHt (sLo (sEp (sPar (sT u.1 ((mT u.1) + 1)) (va_up (mPar u.1) (mT u.1) o)) (va_up (mEp u.1) (mT u.1) e0)) (va_up (mLo u.1) (mT u.1) w)) (va_up (mHt u.1) (mT u.1) ((mHt u.1 o) + 1))) (va_up (mMk u.1) (mT u.1) v)), tCh u.2 (va_up (xCh u.2) (mT u.1) ((va_up (xCh u.2 o) (mT u.1) true))))) (k := 3) (by decide)) 6 (by decide) tw_1_45 rfl dX0_make_83 ?_
  refine lv_iload hx hb dX0_make_86 (lv_at hl 0 rfl) ?_
  refine lv_aload_n hx hb dX0_make_88 rfl (lv_at hl 1 rfl) ?_
  refine k_get (v := .ref (gL G 10)) X hK inX0 rfl hP (wC_g G (((sMk (sHt (sLo (sEp (sPar (sT u.1 ((mT u.1) + 1)) (va_up (mPar u.1) (mT u.1) o)) (va_up (mEp u.1) (mT u.1) e0)) (va_up (mLo u.1) (mT u.1) w)) (va_up (mHt u.1) (mT u.1) ((mHt u.1 o) + 1))) (va_up (mMk u.1) (mT u.1) v)), tCh u.2 (va_up (xCh u.2) (mT u.1) ((va_up (xCh u.2 o) (mT u.1) true))))) (k := 3) (by decide)) 6 (by decide) tw_1_45 rfl dX0_make_89 ?_
  refine lv_iload_n hx hb dX0_make_92 rfl (lv_at hl 2 rfl) ?_
  refine k_ild (v := xCl u.2 o) X hK hP (wC_g G (((sMk (sHt (sLo (sEp (sPar (sT u.1 ((mT u.1) + 1)) (va_up (mPar u.1) (mT u.1) o)) (va_up (mEp u.1) (mT u.1) e0)) (va_up (mLo u.1) (mT u.1) w)) (va_up (mHt u.1) (mT u.1) ((mHt u.1 o) + 1))) (va_up (mMk u.1) (mT u.1) v)), tCh u.2 (va_up (xCh u.2) (mT u.1) ((va_up (xCh u.2 o) (mT u.1) true))))) (k := 10) (by decide)) (by omega) (by decide) rfl dX0_make_93 ?_
  refine lv_iload_n hx hb dX0_make_94 rfl (lv_at hl 4 rfl) ?_
  refine lv_ior hx hb dX0_make_95 ?_
  refine k_ist (x := (xCl u.2 o) ||| w) X hK hP (wC_D hL _) hS (wC_g G (((sMk (sHt (sLo (sEp (sPar (sT u.1 ((mT u.1) + 1)) (va_up (mPar u.1) (mT u.1) o)) (va_up (mEp u.1) (mT u.1) e0)) (va_up (mLo u.1) (mT u.1) w)) (va_up (mHt u.1) (mT u.1) ((mHt u.1 o) + 1))) (va_up (mMk u.1) (mT u.1) v)), tCh u.2 (va_up (xCh u.2) (mT u.1) ((va_up (xCh u.2 o) (mT u.1) true))))) (k := 10) (by decide)) (by omega) (by decide) ((((sMk (sHt (sLo (sEp (sPar (sT u.1 ((mT u.1) + 1)) (va_up (mPar u.1) (mT u.1) o)) (va_up (mEp u.1) (mT u.1) e0)) (va_up (mLo u.1) (mT u.1) w)) (va_up (mHt u.1) (mT u.1) ((mHt u.1 o) + 1))) (va_up (mMk u.1) (mT u.1) v))), tCl (tCh u.2 (va_up (xCh u.2) (mT u.1) ((va_up (xCh u.2 o) (mT u.1) true)))) (va_up (xCl u.2) (mT u.1) ((xCl u.2 o) ||| w)))) (cs_Cl G (((sMk (sHt (sLo (sEp (sPar (sT u.1 ((mT u.1) + 1)) (va_up (mPar u.1) (mT u.1) o)) (va_up (mEp u.1) (mT u.1) e0)) (va_up (mLo u.1) (mT u.1) w)) (va_up (mHt u.1) (mT u.1) ((mHt u.1 o) + 1))) (va_up (mMk u.1) (mT u.1) v)), tCh u.2 (va_up (xCh u.2) (mT u.1) ((va_up (xCh u.2 o) (mT u.1) true))))) (mT u.1) ((xCl u.2 o) ||| w)) dX0_make_96 (fun H locs hP hS => ?_)
  refine lv_iload hx hb dX0_make_97 (lv_at hl 0 rfl) ?_
  exact k_reti X hr hlocks hP hS dX0_make_99 ⟨rfl, rfl⟩

set_option maxHeartbeats 4000000 in
set_option maxRecDepth 100000 in
theorem m1_expectProposal (l : Launch) (G : kG) (u : CS) (hL : lay G) (hk : okC G u) {v : Nat} (hv : v < gn G) {b : Nat} (hbb : b ≤ 60) : KMi l G (AC G) (wC G) yX1_expectProposal cX1_expectProposal 3 (Option.some FieldType.boolean) ({ frames := 1, cells := 0, slots := 0, locals := 22 }) [.ref (gL G (11 + 5 * v)), .int (nI b)] u (fun r u' => r = bI (newL u.1 (11 * b) v) ∧ u' = (mExp u.1 (11 * b) v, u.2)) := by
  refine K_of (by decide) (Nat.le_of_ble_eq_true rfl) ?_
  intro p e s m below meth c X hr hlocks hnm hK hP ls hl
  have hx := X.1
  have hb := X.2.1
  have hown := X.2.2.2.1
  have hts := X.2.2.2.2
  have hS : va_S (AC G) s.heap s.heap [] := va_S.rf
  have hl : lv_has ls 3 [(0, .ref (gL G (11 + 5 * v))), (1, .int (nI b))] := hl
  obtain ⟨kn4, kn10, kT1, kT61, kP40, kLd, kPar, kEp, kHt, kFc, kVf, kTp, kHf⟩ := id hk
  refine lv_aload_n hx hb dX1_expectProposal_0 rfl (lv_at hl 0 rfl) ?_
  refine k_get (v := .long (eL (pB (mHs u.1) v))) X hK inX1 rfl hP (wC_n0 G u hv) 5 (by decide) tw_1_85 rfl dX1_expectProposal_1 ?_
  refine lv_aload_n hx hb dX1_expectProposal_4 rfl (lv_at hl 0 rfl) ?_
  refine k_get (v := .long (eL (pB (mWy u.1) v))) X hK inX1 rfl hP (wC_n0 G u hv) 6 (by decide) tw_1_87 rfl dX1_expectProposal_5 ?_
  refine lv_lor hx hb dX1_expectProposal_8 ?_
  refine k_tl (eL_lor ((pB (mHs u.1) v)) ((pB (mWy u.1) v))) ?_
  refine lv_iload_n hx hb dX1_expectProposal_9 rfl (lv_at hl 1 rfl) ?_
  refine k_ci (k_runSN (As := [.long (eL (fun k => ((pB (mHs u.1) v)) k || ((pB (mWy u.1) v)) k)), .int (nI b)]) (rest := []) X hK hP (m2_holds l G (AC G) (wC G) u (eL (fun k => ((pB (mHs u.1) v)) k || ((pB (mWy u.1) v)) k)) (k := b) (by omega)) ⟨rfl, rfl⟩ ntw_1_210 tw_1_211 tw_1_1 tw_1_212 ⟨by decide +kernel, by decide +kernel, (by decide +kernel : (parseMethodDescriptor yX2_holds.desc).map (fun d => d.parameters.length) = some 2)⟩ ⟨Nat.le_of_ble_eq_true rfl, Nat.le_of_ble_eq_true rfl⟩ hl.1 rfl (Nat.le_of_ble_eq_true rfl) ⟨Nat.zero_le _, Nat.zero_le _⟩ dX1_expectProposal_10) hS (fun r_10 u_10 H locs hq_10 hP hS => ?_)
  have hP := k_su hq_10.2 hP
  refine k_ti (y := bI (mHs u.1 (11 * b) v || mWy u.1 (11 * b) v)) (hq_10.1.trans (congrArg bI (tL_eL _ (by omega)))) ?_
  refine lv_if_ne (tgt := 20) hx hb dX1_expectProposal_13 (by decide) (fun c_13 => ?_) (fun c_13 => ?_)
  · have c_13 : (mHs u.1 (11 * b) v || mWy u.1 (11 * b) v) = true := (bI_ne0 _).mp c_13
    refine lv_iconst (v := nI 0) hx hb dX1_expectProposal_20 (by decide) ?_
    refine lv_istore_n (lv' := [(2, .int (nI 0)), (0, .ref (gL G (11 + 5 * v))), (1, .int (nI b))]) hx hb dX1_expectProposal_21 rfl hl (by decide) rfl (fun ls hl => ?_)
    refine lv_iload_n hx hb dX1_expectProposal_22 rfl (lv_at hl 0 rfl) ?_
    refine lv_if_eq (tgt := 38) hx hb dX1_expectProposal_23 (by decide) (fun c_23 => ?_) (fun c_23 => ?_)
    · refine lv_iload_n hx hb dX1_expectProposal_38 rfl (lv_at hl 0 rfl) ?_
      exact k_retz X hr hlocks hP hS dX1_expectProposal_39 rfl ⟨by rw [show newL u.1 (11 * b) v = false from by simp only [newL, c_13]; rfl]; rfl, by rw [mExp, if_neg (show ¬ newL u.1 (11 * b) v = true from by simp only [newL, c_13]; decide)]⟩
    · exact absurd rfl c_23
  · have c_13 : (mHs u.1 (11 * b) v || mWy u.1 (11 * b) v) = false := (bI_eq0 _).mp c_13
    refine lv_iconst (v := nI 1) hx hb dX1_expectProposal_16 (by decide) ?_
    refine lv_goto (tgt := 21) hx hb dX1_expectProposal_17 (by decide) ?_
    refine lv_istore_n (lv' := [(2, .int (nI 1)), (0, .ref (gL G (11 + 5 * v))), (1, .int (nI b))]) hx hb dX1_expectProposal_21 rfl hl (by decide) rfl (fun ls hl => ?_)
    refine lv_iload_n hx hb dX1_expectProposal_22 rfl (lv_at hl 0 rfl) ?_
    refine lv_if_eq (tgt := 38) hx hb dX1_expectProposal_23 (by decide) (fun c_23 => ?_) (fun c_23 => ?_)
    · exact absurd c_23 (by decide)
    · refine lv_aload_n hx hb dX1_expectProposal_26 rfl (lv_at hl 1 rfl) ?_
      refine lv_dup hx hb dX1_expectProposal_27 rfl ?_
      refine k_get (v := .long (eL (pB (mWy u.1) v))) X hK inX1 rfl hP (wC_n0 G u hv) 6 (by decide) tw_1_87 rfl dX1_expectProposal_28 ?_
      refine lv_lconst (v := 1) hx hb dX1_expectProposal_31 rfl ?_
      refine lv_iload_n hx hb dX1_expectProposal_32 rfl (lv_at hl 2 rfl) ?_
      refine lv_lshl (v := (1 : Int64) <<< ((nI b).toInt64 &&& 63)) hx hb dX1_expectProposal_33 rfl ?_
      refine lv_lor hx hb dX1_expectProposal_34 ?_
      refine k_tl (eL_or ((pB (mWy u.1) v)) (by omega)) ?_
      refine k_put (v := .long (eL (va_up ((pB (mWy u.1) v)) b true))) X hK inX1 rfl tyX1_ok nmX1 hP (wC_D hL _) hS (wC_n0 G u hv) 6 (by decide) tw_1_87 rfl rfl rfl (Nat.le_of_ble_eq_true rfl) ((sWy u.1 (up2 (mWy u.1) (11 * b) v true), u.2)) (cn_Wy G u hv b true) dX1_expectProposal_35 (fun H locs hP hS => ?_)
      refine lv_iload_n hx hb dX1_expectProposal_38 rfl (lv_at hl 0 rfl) ?_
      exact k_retz X hr hlocks hP hS dX1_expectProposal_39 rfl ⟨by rw [show newL u.1 (11 * b) v = true from by simp only [newL, c_13]; rfl]; rfl, by rw [mExp, if_pos (show newL u.1 (11 * b) v = true from by simp only [newL, c_13]; rfl)]⟩

set_option maxHeartbeats 4000000 in
set_option maxRecDepth 100000 in
theorem m1_expectVote (l : Launch) (G : kG) (u : CS) (hL : lay G) (hk : okC G u) {v : Nat} (hv : v < gn G) {b x : Nat} (hbb : b ≤ 60) (hxx : x < 10) : KMi l G (AC G) (wC G) yX1_expectVote cX1_expectVote 4 (Option.some FieldType.boolean) ({ frames := 1, cells := 0, slots := 0, locals := 22 }) [.ref (gL G (11 + 5 * v)), .int (nI x), .int (nI b)] u (fun r u' => r = bI (newL u.1 (11 * b + 1 + x) v) ∧ u' = (mExp u.1 (11 * b + 1 + x) v, u.2)) := by
  refine K_of (by decide) (Nat.le_of_ble_eq_true rfl) ?_
  intro p e s m below meth c X hr hlocks hnm hK hP ls hl
  have hx := X.1
  have hb := X.2.1
  have hown := X.2.2.2.1
  have hts := X.2.2.2.2
  have hS : va_S (AC G) s.heap s.heap [] := va_S.rf
  have hl : lv_has ls 4 [(0, .ref (gL G (11 + 5 * v))), (1, .int (nI x)), (2, .int (nI b))] := hl
  obtain ⟨kn4, kn10, kT1, kT61, kP40, kLd, kPar, kEp, kHt, kFc, kVf, kTp, kHf⟩ := id hk
  refine lv_aload_n hx hb dX1_expectVote_0 rfl (lv_at hl 0 rfl) ?_
  refine k_get (v := .ref (gL G (12 + 5 * v))) X hK inX1 rfl hP (wC_n0 G u hv) 7 (by decide) tw_1_89 rfl dX1_expectVote_1 ?_
  refine lv_iload_n hx hb dX1_expectVote_4 rfl (lv_at hl 2 rfl) ?_
  refine k_ild (v := eI (vB (mHs u.1) b v)) X hK hP (wC_n1 G u hv) (by omega) (by decide) rfl dX1_expectVote_5 ?_
  refine lv_aload_n hx hb dX1_expectVote_6 rfl (lv_at hl 0 rfl) ?_
  refine k_get (v := .ref (gL G (13 + 5 * v))) X hK inX1 rfl hP (wC_n0 G u hv) 8 (by decide) tw_1_91 rfl dX1_expectVote_7 ?_
  refine lv_iload_n hx hb dX1_expectVote_10 rfl (lv_at hl 2 rfl) ?_
  refine k_ild (v := eI (vB (mWy u.1) b v)) X hK hP (wC_n2 G u hv) (by omega) (by decide) rfl dX1_expectVote_11 ?_
  refine lv_ior hx hb dX1_expectVote_12 ?_
  refine k_ti (eI_ior (vB (mHs u.1) b v) (vB (mWy u.1) b v)) ?_
  refine lv_i2l (v := (eI (fun k => (vB (mHs u.1) b v) k || (vB (mWy u.1) b v) k)).toInt64) hx hb dX1_expectVote_13 rfl ?_
  refine lv_iload_n hx hb dX1_expectVote_14 rfl (lv_at hl 1 rfl) ?_
  refine k_ci (k_runSN (As := [.long ((eI (fun k => (vB (mHs u.1) b v) k || (vB (mWy u.1) b v) k)).toInt64), .int (nI x)]) (rest := []) X hK hP (m2_holds l G (AC G) (wC G) u ((eI (fun k => (vB (mHs u.1) b v) k || (vB (mWy u.1) b v) k)).toInt64) (k := x) (by omega)) ⟨rfl, rfl⟩ ntw_1_210 tw_1_211 tw_1_1 tw_1_212 ⟨by decide +kernel, by decide +kernel, (by decide +kernel : (parseMethodDescriptor yX2_holds.desc).map (fun d => d.parameters.length) = some 2)⟩ ⟨Nat.le_of_ble_eq_true rfl, Nat.le_of_ble_eq_true rfl⟩ hl.1 rfl (Nat.le_of_ble_eq_true rfl) ⟨Nat.zero_le _, Nat.zero_le _⟩ dX1_expectVote_15) hS (fun r_15 u_15 H locs hq_15 hP hS => ?_)
  have hP := k_su hq_15.2 hP
  refine k_ti (y := bI (mHs u.1 (11 * b + 1 + x) v || mWy u.1 (11 * b + 1 + x) v)) (hq_15.1.trans (congrArg bI ((tL_wide _ (by omega)).trans ((tI_eI _ (by omega)).trans (by simp only [vB, decide_eq_true hxx, Bool.true_and]))))) ?_
  refine lv_if_ne (tgt := 25) hx hb dX1_expectVote_18 (by decide) (fun c_18 => ?_) (fun c_18 => ?_)
  · have c_18 : (mHs u.1 (11 * b + 1 + x) v || mWy u.1 (11 * b + 1 + x) v) = true := (bI_ne0 _).mp c_18
    refine lv_iconst (v := nI 0) hx hb dX1_expectVote_25 (by decide) ?_
    refine lv_istore_n (lv' := [(3, .int (nI 0)), (0, .ref (gL G (11 + 5 * v))), (1, .int (nI x)), (2, .int (nI b))]) hx hb dX1_expectVote_26 rfl hl (by decide) rfl (fun ls hl => ?_)
    refine lv_iload_n hx hb dX1_expectVote_27 rfl (lv_at hl 0 rfl) ?_
    refine lv_if_eq (tgt := 43) hx hb dX1_expectVote_28 (by decide) (fun c_28 => ?_) (fun c_28 => ?_)
    · refine lv_iload_n hx hb dX1_expectVote_43 rfl (lv_at hl 0 rfl) ?_
      exact k_retz X hr hlocks hP hS dX1_expectVote_44 rfl ⟨by rw [show newL u.1 (11 * b + 1 + x) v = false from by simp only [newL, c_18]; rfl]; rfl, by rw [mExp, if_neg (show ¬ newL u.1 (11 * b + 1 + x) v = true from by simp only [newL, c_18]; decide)]⟩
    · exact absurd rfl c_28
  · have c_18 : (mHs u.1 (11 * b + 1 + x) v || mWy u.1 (11 * b + 1 + x) v) = false := (bI_eq0 _).mp c_18
    refine lv_iconst (v := nI 1) hx hb dX1_expectVote_21 (by decide) ?_
    refine lv_goto (tgt := 26) hx hb dX1_expectVote_22 (by decide) ?_
    refine lv_istore_n (lv' := [(3, .int (nI 1)), (0, .ref (gL G (11 + 5 * v))), (1, .int (nI x)), (2, .int (nI b))]) hx hb dX1_expectVote_26 rfl hl (by decide) rfl (fun ls hl => ?_)
    refine lv_iload_n hx hb dX1_expectVote_27 rfl (lv_at hl 0 rfl) ?_
    refine lv_if_eq (tgt := 43) hx hb dX1_expectVote_28 (by decide) (fun c_28 => ?_) (fun c_28 => ?_)
    · exact absurd c_28 (by decide)
    · refine lv_aload_n hx hb dX1_expectVote_31 rfl (lv_at hl 1 rfl) ?_
      refine k_get (v := .ref (gL G (13 + 5 * v))) X hK inX1 rfl hP (wC_n0 G u hv) 8 (by decide) tw_1_91 rfl dX1_expectVote_32 ?_
      refine lv_iload_n hx hb dX1_expectVote_35 rfl (lv_at hl 3 rfl) ?_
      refine lv_dup2_11 hx hb dX1_expectVote_36 rfl rfl ?_
      refine k_ild (v := eI (vB (mWy u.1) b v)) X hK hP (wC_n2 G u hv) (by omega) (by decide) rfl dX1_expectVote_37 ?_
      refine lv_iconst (v := nI 1) hx hb dX1_expectVote_38 (by decide) ?_
      refine lv_iload_n hx hb dX1_expectVote_39 rfl (lv_at hl 2 rfl) ?_
      refine lv_ishl hx hb dX1_expectVote_40 ?_
      refine k_ti (show nI 1 <<< (nI x &&& 31) = (1 : Int32) <<< (nI x &&& 31) from rfl) ?_
      refine lv_ior hx hb dX1_expectVote_41 ?_
      refine k_ti (eI_or (vB (mWy u.1) b v) (by omega)) ?_
      refine k_ist (x := eI (va_up (vB (mWy u.1) b v) x true)) X hK hP (wC_D hL _) hS (wC_n2 G u hv) (by omega) (by decide) ((sWy u.1 (up2 (mWy u.1) (11 * b + 1 + x) v true), u.2)) (cn_vw G u hv (b := b) (x := x) (by omega) true) dX1_expectVote_42 (fun H locs hP hS => ?_)
      refine lv_iload_n hx hb dX1_expectVote_43 rfl (lv_at hl 0 rfl) ?_
      exact k_retz X hr hlocks hP hS dX1_expectVote_44 rfl ⟨by rw [show newL u.1 (11 * b + 1 + x) v = true from by simp only [newL, c_18]; rfl]; rfl, by rw [mExp, if_pos (show newL u.1 (11 * b + 1 + x) v = true from by simp only [newL, c_18]; rfl)]⟩

set_option maxHeartbeats 4000000 in
set_option maxRecDepth 100000 in
theorem m1_raiseTip (l : Launch) (G : kG) (u : CS) (hL : lay G) (hk : okC G u) {v : Nat} (hv : v < gn G) {b : Nat} (hbb : b ≤ 60) : KMv l G (AC G) (wC G) yX1_raiseTip cX1_raiseTip 4 (Option.none : Option FieldType) ({ frames := 0, cells := 0, slots := 0, locals := 0 }) [.ref (gL G (11 + 5 * v)), .int (nI b)] u (fun u' => u' = (u.1, cTip u.1 u.2 v b)) := by
  refine K_of (by decide) (Nat.le_of_ble_eq_true rfl) ?_
  intro p e s m below meth c X hr hlocks hnm hK hP ls hl
  have hx := X.1
  have hb := X.2.1
  have hown := X.2.2.2.1
  have hts := X.2.2.2.2
  have hS : va_S (AC G) s.heap s.heap [] := va_S.rf
  have hl : lv_has ls 4 [(0, .ref (gL G (11 + 5 * v))), (1, .int (nI b))] := hl
  obtain ⟨kn4, kn10, kT1, kT61, kP40, kLd, kPar, kEp, kHt, kFc, kVf, kTp, kHf⟩ := id hk
  have hT := kTp v
  have hHb := kHt b
  have hHt := kHt (xTp u.2 v)
  have hEb := kEp b
  have hEt := kEp (xTp u.2 v)
  refine lv_aload_n hx hb dX1_raiseTip_0 rfl (lv_at hl 0 rfl) ?_
  refine k_get (v := .ref (gL G 3)) X hK inX1 rfl hP (wC_n0 G u hv) 2 (by decide) tw_1_82 rfl dX1_raiseTip_1 ?_
  refine k_gn (v := .ref (gL G 7)) X hK inX0 rfl hP (wC_g G u (k := 3) (by decide)) 3 (by decide) ntw_1_38 rfl dX1_raiseTip_4 ?_
  refine lv_iload_n hx hb dX1_raiseTip_7 rfl (lv_at hl 1 rfl) ?_
  refine k_ild (v := nI (mHt u.1 b)) X hK hP (wC_g G u (k := 7) (by decide)) (by omega) (by decide) rfl dX1_raiseTip_8 ?_
  refine lv_aload_n hx hb dX1_raiseTip_9 rfl (lv_at hl 0 rfl) ?_
  refine k_get (v := .ref (gL G 3)) X hK inX1 rfl hP (wC_n0 G u hv) 2 (by decide) tw_1_82 rfl dX1_raiseTip_10 ?_
  refine k_gn (v := .ref (gL G 7)) X hK inX0 rfl hP (wC_g G u (k := 3) (by decide)) 3 (by decide) ntw_1_38 rfl dX1_raiseTip_13 ?_
  refine lv_aload_n hx hb dX1_raiseTip_16 rfl (lv_at hl 0 rfl) ?_
  refine k_get (v := .int (nI ((xTp u.2) v))) X hK inX1 rfl hP (wC_n0 G u hv) 14 (by decide) tw_1_102 rfl dX1_raiseTip_17 ?_
  refine k_ild (v := nI (mHt u.1 ((xTp u.2) v))) X hK hP (wC_g G u (k := 7) (by decide)) (by omega) (by decide) rfl dX1_raiseTip_20 ?_
  refine lv_isub hx hb dX1_raiseTip_21 ?_
  refine lv_istore_n (lv' := [(2, .int ((nI (mHt u.1 b)) - (nI (mHt u.1 ((xTp u.2) v))))), (0, .ref (gL G (11 + 5 * v))), (1, .int (nI b))]) hx hb dX1_raiseTip_22 rfl hl (by decide) rfl (fun ls hl => ?_)
  refine lv_aload_n hx hb dX1_raiseTip_23 rfl (lv_at hl 1 rfl) ?_
  refine k_get (v := .ref (gL G 3)) X hK inX1 rfl hP (wC_n0 G u hv) 2 (by decide) tw_1_82 rfl dX1_raiseTip_24 ?_
  refine k_gn (v := .ref (gL G 5)) X hK inX0 rfl hP (wC_g G u (k := 3) (by decide)) 1 (by decide) ntw_1_33 rfl dX1_raiseTip_27 ?_
  refine lv_iload_n hx hb dX1_raiseTip_30 rfl (lv_at hl 2 rfl) ?_
  refine k_ild (v := nI (mEp u.1 b)) X hK hP (wC_g G u (k := 5) (by decide)) (by omega) (by decide) rfl dX1_raiseTip_31 ?_
  refine lv_aload_n hx hb dX1_raiseTip_32 rfl (lv_at hl 1 rfl) ?_
  refine k_get (v := .ref (gL G 3)) X hK inX1 rfl hP (wC_n0 G u hv) 2 (by decide) tw_1_82 rfl dX1_raiseTip_33 ?_
  refine k_gn (v := .ref (gL G 5)) X hK inX0 rfl hP (wC_g G u (k := 3) (by decide)) 1 (by decide) ntw_1_33 rfl dX1_raiseTip_36 ?_
  refine lv_aload_n hx hb dX1_raiseTip_39 rfl (lv_at hl 1 rfl) ?_
  refine k_get (v := .int (nI ((xTp u.2) v))) X hK inX1 rfl hP (wC_n0 G u hv) 14 (by decide) tw_1_102 rfl dX1_raiseTip_40 ?_
  refine k_ild (v := nI (mEp u.1 ((xTp u.2) v))) X hK hP (wC_g G u (k := 5) (by decide)) (by omega) (by decide) rfl dX1_raiseTip_43 ?_
  refine lv_isub hx hb dX1_raiseTip_44 ?_
  refine lv_istore_n (lv' := [(3, .int ((nI (mEp u.1 b)) - (nI (mEp u.1 ((xTp u.2) v))))), (2, .int ((nI (mHt u.1 b)) - (nI (mHt u.1 ((xTp u.2) v))))), (0, .ref (gL G (11 + 5 * v))), (1, .int (nI b))]) hx hb dX1_raiseTip_45 rfl hl (by decide) rfl (fun ls hl => ?_)
  refine lv_iload_n hx hb dX1_raiseTip_46 rfl (lv_at hl 1 rfl) ?_
  refine lv_if_gt (tgt := 70) hx hb dX1_raiseTip_47 (by decide) (fun c_47 => ?_) (fun c_47 => ?_)
  · have c_47 : (mHt u.1 ((xTp u.2) v)) < (mHt u.1 b) := (sb_gt (by omega) (by omega)).mp c_47
    refine lv_aload_n hx hb dX1_raiseTip_70 rfl (lv_at hl 2 rfl) ?_
    refine lv_iload_n hx hb dX1_raiseTip_71 rfl (lv_at hl 3 rfl) ?_
    refine k_put (v := .int (nI b)) X hK inX1 rfl tyX1_ok nmX1 hP (wC_D hL _) hS (wC_n0 G u hv) 14 (by decide) tw_1_102 rfl rfl rfl (Nat.le_of_ble_eq_true rfl) ((u.1, tTp u.2 (va_up (xTp u.2) v (b)))) (cn_Tp G u hv (b)) dX1_raiseTip_72 (fun H locs hP hS => ?_)
    exact k_retv X hr hlocks hP hS dX1_raiseTip_75 (by rw [cTip, if_pos ((better_iff _ _ _).mpr (by omega))])
  · have c_47 : (mHt u.1 b) ≤ (mHt u.1 ((xTp u.2) v)) := Nat.le_of_not_lt fun h => c_47 ((sb_gt (by omega) (by omega)).mpr h)
    refine lv_iload_n hx hb dX1_raiseTip_50 rfl (lv_at hl 1 rfl) ?_
    refine lv_if_ne (tgt := 75) hx hb dX1_raiseTip_51 (by decide) (fun c_51 => ?_) (fun c_51 => ?_)
    · have c_51 : (mHt u.1 b) ≠ (mHt u.1 ((xTp u.2) v)) := fun h => c_51 ((sb_eq (by omega) (by omega)).mpr h)
      exact k_retv X hr hlocks hP hS dX1_raiseTip_75 (by rw [cTip, if_neg (fun h => absurd ((better_iff _ _ _).mp h) (by omega))])
    · have c_51 : (mHt u.1 b) = (mHt u.1 ((xTp u.2) v)) := (sb_eq (by omega) (by omega)).mp c_51
      refine lv_iload_n hx hb dX1_raiseTip_54 rfl (lv_at hl 0 rfl) ?_
      refine lv_if_gt (tgt := 70) hx hb dX1_raiseTip_55 (by decide) (fun c_55 => ?_) (fun c_55 => ?_)
      · have c_55 : (mEp u.1 ((xTp u.2) v)) < (mEp u.1 b) := (sb_gt (by omega) (by omega)).mp c_55
        refine lv_aload_n hx hb dX1_raiseTip_70 rfl (lv_at hl 2 rfl) ?_
        refine lv_iload_n hx hb dX1_raiseTip_71 rfl (lv_at hl 3 rfl) ?_
        refine k_put (v := .int (nI b)) X hK inX1 rfl tyX1_ok nmX1 hP (wC_D hL _) hS (wC_n0 G u hv) 14 (by decide) tw_1_102 rfl rfl rfl (Nat.le_of_ble_eq_true rfl) ((u.1, tTp u.2 (va_up (xTp u.2) v (b)))) (cn_Tp G u hv (b)) dX1_raiseTip_72 (fun H locs hP hS => ?_)
        exact k_retv X hr hlocks hP hS dX1_raiseTip_75 (by rw [cTip, if_pos ((better_iff _ _ _).mpr (by omega))])
      · have c_55 : (mEp u.1 b) ≤ (mEp u.1 ((xTp u.2) v)) := Nat.le_of_not_lt fun h => c_55 ((sb_gt (by omega) (by omega)).mpr h)
        refine lv_iload_n hx hb dX1_raiseTip_58 rfl (lv_at hl 0 rfl) ?_
        refine lv_if_ne (tgt := 75) hx hb dX1_raiseTip_59 (by decide) (fun c_59 => ?_) (fun c_59 => ?_)
        · have c_59 : (mEp u.1 b) ≠ (mEp u.1 ((xTp u.2) v)) := fun h => c_59 ((sb_eq (by omega) (by omega)).mpr h)
          exact k_retv X hr hlocks hP hS dX1_raiseTip_75 (by rw [cTip, if_neg (fun h => absurd ((better_iff _ _ _).mp h) (by omega))])
        · have c_59 : (mEp u.1 b) = (mEp u.1 ((xTp u.2) v)) := (sb_eq (by omega) (by omega)).mp c_59
          refine lv_iload_n hx hb dX1_raiseTip_62 rfl (lv_at hl 3 rfl) ?_
          refine lv_aload_n hx hb dX1_raiseTip_63 rfl (lv_at hl 2 rfl) ?_
          refine k_get (v := .int (nI ((xTp u.2) v))) X hK inX1 rfl hP (wC_n0 G u hv) 14 (by decide) tw_1_102 rfl dX1_raiseTip_64 ?_
          refine lv_icmp_ge (tgt := 75) hx hb dX1_raiseTip_67 (by decide) (fun c_67 => ?_) (fun c_67 => ?_)
          · have c_67 : ((xTp u.2) v) ≤ b := cLe c_67 (by omega) (by omega)
            exact k_retv X hr hlocks hP hS dX1_raiseTip_75 (by rw [cTip, if_neg (fun h => absurd ((better_iff _ _ _).mp h) (by omega))])
          · have c_67 : b < ((xTp u.2) v) := cNle c_67 (by omega) (by omega)
            refine lv_aload_n hx hb dX1_raiseTip_70 rfl (lv_at hl 2 rfl) ?_
            refine lv_iload_n hx hb dX1_raiseTip_71 rfl (lv_at hl 3 rfl) ?_
            refine k_put (v := .int (nI b)) X hK inX1 rfl tyX1_ok nmX1 hP (wC_D hL _) hS (wC_n0 G u hv) 14 (by decide) tw_1_102 rfl rfl rfl (Nat.le_of_ble_eq_true rfl) ((u.1, tTp u.2 (va_up (xTp u.2) v (b)))) (cn_Tp G u hv (b)) dX1_raiseTip_72 (fun H locs hP hS => ?_)
            exact k_retv X hr hlocks hP hS dX1_raiseTip_75 (by rw [cTip, if_pos ((better_iff _ _ _).mpr (by omega))])

set_option maxHeartbeats 4000000 in
set_option maxRecDepth 100000 in
theorem m1_makeFinalBelow (l : Launch) (G : kG) (u : CS) (hL : lay G) (hk : okC G u) {v : Nat} (hv : v < gn G) {c0 q : Nat} (hc0 : c0 ≤ 60) (hq : q ≤ 60) : KMv l G (AC G) (wC G) yX1_makeFinalBelow cX1_makeFinalBelow 5 (Option.none : Option FieldType) ({ frames := 0, cells := 0, slots := 0, locals := 0 }) [.ref (gL G (11 + 5 * v)), .int (nI c0), .int (nI q)] u (fun u' => u' = (u.1, cFin u.1 u.2 v c0 q)) := by
  refine K_of (by decide) (Nat.le_of_ble_eq_true rfl) ?_
  intro p e s m below meth c X hr hlocks hnm hK hP ls hl
  have hx := X.1
  have hb := X.2.1
  have hown := X.2.2.2.1
  have hts := X.2.2.2.2
  have hS : va_S (AC G) s.heap s.heap [] := va_S.rf
  have hl : lv_has ls 5 [(0, .ref (gL G (11 + 5 * v))), (1, .int (nI c0)), (2, .int (nI q))] := hl
  obtain ⟨kn4, kn10, kT1, kT61, kP40, kLd, kPar, kEp, kHt, kFc, kVf, kTp, kHf⟩ := id hk
  have hF := kHf v
  have hHp := kHt q
  have hHh := kHt (xHf u.2 v)
  have hEc := kEp c0
  have hEp := kEp q
  refine lv_aload_n hx hb dX1_makeFinalBelow_0 rfl (lv_at hl 0 rfl) ?_
  refine k_get (v := .ref (gL G 3)) X hK inX1 rfl hP (wC_n0 G u hv) 2 (by decide) tw_1_82 rfl dX1_makeFinalBelow_1 ?_
  refine k_gn (v := .ref (gL G 4)) X hK inX0 rfl hP (wC_g G u (k := 3) (by decide)) 0 (by decide) ntw_1_30 rfl dX1_makeFinalBelow_4 ?_
  refine lv_iload_n hx hb dX1_makeFinalBelow_7 rfl (lv_at hl 2 rfl) ?_
  refine k_ild (v := eP (mPar u.1) q) X hK hP (wC_g G u (k := 4) (by decide)) (by omega) (by decide) rfl dX1_makeFinalBelow_8 ?_
  rcases Nat.eq_zero_or_pos q with hq0 | hq0
  · refine k_ti (show eP (mPar u.1) q = -1 by rw [hq0]; rfl) ?_
    refine lv_istore_n (lv' := [(3, .int (-1)), (0, .ref (gL G (11 + 5 * v))), (1, .int (nI c0)), (2, .int (nI q))]) hx hb dX1_makeFinalBelow_9 rfl hl (by decide) rfl (fun ls hl => ?_)
    refine lv_iload_n hx hb dX1_makeFinalBelow_10 rfl (lv_at hl 0 rfl) ?_
    refine lv_iconst (v := -1) hx hb dX1_makeFinalBelow_11 (by decide) ?_
    refine lv_icmp_eq (tgt := 61) hx hb dX1_makeFinalBelow_12 (by decide) (fun c_12 => ?_) (fun c_12 => ?_)
    · exact k_retv X hr hlocks hP hS dX1_makeFinalBelow_61 (by rw [cFin, if_neg (fun h => absurd ((isThree_iff _ _ _).mp h) (by omega))])
    · exact absurd rfl c_12
  · refine k_ti (eP_pos hq0) ?_
    refine lv_istore_n (lv' := [(3, .int (nI (mPar u.1 q))), (0, .ref (gL G (11 + 5 * v))), (1, .int (nI c0)), (2, .int (nI q))]) hx hb dX1_makeFinalBelow_9 rfl hl (by decide) rfl (fun ls hl => ?_)
    refine lv_iload_n hx hb dX1_makeFinalBelow_10 rfl (lv_at hl 0 rfl) ?_
    refine lv_iconst (v := -1) hx hb dX1_makeFinalBelow_11 (by decide) ?_
    have hPq := kPar q hq0
    have hEg := kEp (mPar u.1 q)
    refine lv_icmp_eq (tgt := 61) hx hb dX1_makeFinalBelow_12 (by decide) (fun c_12 => ?_) (fun c_12 => ?_)
    · exact absurd c_12 (m1_ne (by omega))
    · have hPq := kPar q hq0
      have hEg := kEp (mPar u.1 q)
      refine lv_aload_n hx hb dX1_makeFinalBelow_15 rfl (lv_at hl 1 rfl) ?_
      refine k_get (v := .ref (gL G 3)) X hK inX1 rfl hP (wC_n0 G u hv) 2 (by decide) tw_1_82 rfl dX1_makeFinalBelow_16 ?_
      refine k_gn (v := .ref (gL G 5)) X hK inX0 rfl hP (wC_g G u (k := 3) (by decide)) 1 (by decide) ntw_1_33 rfl dX1_makeFinalBelow_19 ?_
      refine lv_iload_n hx hb dX1_makeFinalBelow_22 rfl (lv_at hl 3 rfl) ?_
      refine k_ild (v := nI (mEp u.1 q)) X hK hP (wC_g G u (k := 5) (by decide)) (by omega) (by decide) rfl dX1_makeFinalBelow_23 ?_
      refine lv_aload_n hx hb dX1_makeFinalBelow_24 rfl (lv_at hl 1 rfl) ?_
      refine k_get (v := .ref (gL G 3)) X hK inX1 rfl hP (wC_n0 G u hv) 2 (by decide) tw_1_82 rfl dX1_makeFinalBelow_25 ?_
      refine k_gn (v := .ref (gL G 5)) X hK inX0 rfl hP (wC_g G u (k := 3) (by decide)) 1 (by decide) ntw_1_33 rfl dX1_makeFinalBelow_28 ?_
      refine lv_iload_n hx hb dX1_makeFinalBelow_31 rfl (lv_at hl 0 rfl) ?_
      refine k_ild (v := nI (mEp u.1 (mPar u.1 q))) X hK hP (wC_g G u (k := 5) (by decide)) (by omega) (by decide) rfl dX1_makeFinalBelow_32 ?_
      refine lv_iconst (v := nI 1) hx hb dX1_makeFinalBelow_33 (by decide) ?_
      refine lv_iadd hx hb dX1_makeFinalBelow_34 ?_
      refine k_ti (nI_add (mEp u.1 (mPar u.1 q)) 1) ?_
      refine lv_icmp_ne (tgt := 61) hx hb dX1_makeFinalBelow_35 (by decide) (fun c_35 => ?_) (fun c_35 => ?_)
      · have c_35 : (mEp u.1 q) ≠ ((mEp u.1 (mPar u.1 q)) + 1) := cNe c_35 (by omega) (by omega)
        exact k_retv X hr hlocks hP hS dX1_makeFinalBelow_61 (by rw [cFin, if_neg (fun h => absurd ((isThree_iff _ _ _).mp h) (by omega))])
      · have c_35 : (mEp u.1 q) = ((mEp u.1 (mPar u.1 q)) + 1) := cEq c_35 (by omega) (by omega)
        refine lv_aload_n hx hb dX1_makeFinalBelow_38 rfl (lv_at hl 1 rfl) ?_
        refine k_get (v := .ref (gL G 3)) X hK inX1 rfl hP (wC_n0 G u hv) 2 (by decide) tw_1_82 rfl dX1_makeFinalBelow_39 ?_
        refine k_gn (v := .ref (gL G 5)) X hK inX0 rfl hP (wC_g G u (k := 3) (by decide)) 1 (by decide) ntw_1_33 rfl dX1_makeFinalBelow_42 ?_
        refine lv_iload_n hx hb dX1_makeFinalBelow_45 rfl (lv_at hl 2 rfl) ?_
        refine k_ild (v := nI (mEp u.1 c0)) X hK hP (wC_g G u (k := 5) (by decide)) (by omega) (by decide) rfl dX1_makeFinalBelow_46 ?_
        refine lv_aload_n hx hb dX1_makeFinalBelow_47 rfl (lv_at hl 1 rfl) ?_
        refine k_get (v := .ref (gL G 3)) X hK inX1 rfl hP (wC_n0 G u hv) 2 (by decide) tw_1_82 rfl dX1_makeFinalBelow_48 ?_
        refine k_gn (v := .ref (gL G 5)) X hK inX0 rfl hP (wC_g G u (k := 3) (by decide)) 1 (by decide) ntw_1_33 rfl dX1_makeFinalBelow_51 ?_
        refine lv_iload_n hx hb dX1_makeFinalBelow_54 rfl (lv_at hl 3 rfl) ?_
        refine k_ild (v := nI (mEp u.1 q)) X hK hP (wC_g G u (k := 5) (by decide)) (by omega) (by decide) rfl dX1_makeFinalBelow_55 ?_
        refine lv_iconst (v := nI 1) hx hb dX1_makeFinalBelow_56 (by decide) ?_
        refine lv_iadd hx hb dX1_makeFinalBelow_57 ?_
        refine k_ti (nI_add (mEp u.1 q) 1) ?_
        refine lv_icmp_eq (tgt := 62) hx hb dX1_makeFinalBelow_58 (by decide) (fun c_58 => ?_) (fun c_58 => ?_)
        · have c_58 : (mEp u.1 c0) = ((mEp u.1 q) + 1) := cEq c_58 (by omega) (by omega)
          refine lv_aload_n hx hb dX1_makeFinalBelow_62 rfl (lv_at hl 1 rfl) ?_
          refine lv_dup hx hb dX1_makeFinalBelow_63 rfl ?_
          refine k_get (v := .long (eL ((xFi u.2) v))) X hK inX1 rfl hP (wC_n0 G u hv) 13 (by decide) tw_1_100 rfl dX1_makeFinalBelow_64 ?_
          refine lv_aload_n hx hb dX1_makeFinalBelow_67 rfl (lv_at hl 1 rfl) ?_
          refine k_get (v := .ref (gL G 3)) X hK inX1 rfl hP (wC_n0 G u hv) 2 (by decide) tw_1_82 rfl dX1_makeFinalBelow_68 ?_
          refine k_gn (v := .ref (gL G 9)) X hK inX0 rfl hP (wC_g G u (k := 3) (by decide)) 5 (by decide) ntw_1_43 rfl dX1_makeFinalBelow_71 ?_
          refine lv_iload_n hx hb dX1_makeFinalBelow_74 rfl (lv_at hl 3 rfl) ?_
          refine k_lld (v := eL (xCh u.2 q)) X hK hP (wC_g G u (k := 9) (by decide)) (by omega) (by decide) rfl dX1_makeFinalBelow_75 ?_
          refine lv_lor hx hb dX1_makeFinalBelow_76 ?_
          refine k_tl (eL_lor (((xFi u.2) v)) (xCh u.2 q)) ?_
          refine k_put (v := .long (eL (fun k => (((xFi u.2) v)) k || (xCh u.2 q) k))) X hK inX1 rfl tyX1_ok nmX1 hP (wC_D hL _) hS (wC_n0 G u hv) 13 (by decide) tw_1_100 rfl rfl rfl (Nat.le_of_ble_eq_true rfl) ((u.1, tFi u.2 (va_up (xFi u.2) v (fun k => (((xFi u.2) v)) k || (xCh u.2 q) k)))) (cn_Fi G u hv (fun k => (((xFi u.2) v)) k || (xCh u.2 q) k)) dX1_makeFinalBelow_77 (fun H locs hP hS => ?_)
          refine lv_aload_n hx hb dX1_makeFinalBelow_80 rfl (lv_at hl 1 rfl) ?_
          refine k_get (v := .ref (gL G 3)) X hK inX1 rfl hP (wC_n0 G ((u.1, tFi u.2 (va_up (xFi u.2) v (fun k => (((xFi u.2) v)) k || (xCh u.2 q) k)))) hv) 2 (by decide) tw_1_82 rfl dX1_makeFinalBelow_81 ?_
          refine k_gn (v := .ref (gL G 7)) X hK inX0 rfl hP (wC_g G ((u.1, tFi u.2 (va_up (xFi u.2) v (fun k => (((xFi u.2) v)) k || (xCh u.2 q) k)))) (k := 3) (by decide)) 3 (by decide) ntw_1_38 rfl dX1_makeFinalBelow_84 ?_
          refine lv_iload_n hx hb dX1_makeFinalBelow_87 rfl (lv_at hl 3 rfl) ?_
          refine k_ild (v := nI (mHt u.1 q)) X hK hP (wC_g G ((u.1, tFi u.2 (va_up (xFi u.2) v (fun k => (((xFi u.2) v)) k || (xCh u.2 q) k)))) (k := 7) (by decide)) (by omega) (by decide) rfl dX1_makeFinalBelow_88 ?_
          refine lv_aload_n hx hb dX1_makeFinalBelow_89 rfl (lv_at hl 1 rfl) ?_
          refine k_get (v := .ref (gL G 3)) X hK inX1 rfl hP (wC_n0 G ((u.1, tFi u.2 (va_up (xFi u.2) v (fun k => (((xFi u.2) v)) k || (xCh u.2 q) k)))) hv) 2 (by decide) tw_1_82 rfl dX1_makeFinalBelow_90 ?_
          refine k_gn (v := .ref (gL G 7)) X hK inX0 rfl hP (wC_g G ((u.1, tFi u.2 (va_up (xFi u.2) v (fun k => (((xFi u.2) v)) k || (xCh u.2 q) k)))) (k := 3) (by decide)) 3 (by decide) ntw_1_38 rfl dX1_makeFinalBelow_93 ?_
          refine lv_aload_n hx hb dX1_makeFinalBelow_96 rfl (lv_at hl 1 rfl) ?_
          refine k_get (v := .int (nI ((xHf u.2) v))) X hK inX1 rfl hP (wC_n0 G ((u.1, tFi u.2 (va_up (xFi u.2) v (fun k => (((xFi u.2) v)) k || (xCh u.2 q) k)))) hv) 15 (by decide) tw_1_104 rfl dX1_makeFinalBelow_97 ?_
          refine k_ild (v := nI (mHt u.1 ((xHf u.2) v))) X hK hP (wC_g G ((u.1, tFi u.2 (va_up (xFi u.2) v (fun k => (((xFi u.2) v)) k || (xCh u.2 q) k)))) (k := 7) (by decide)) (by omega) (by decide) rfl dX1_makeFinalBelow_100 ?_
          refine lv_isub hx hb dX1_makeFinalBelow_101 ?_
          refine lv_istore (lv' := [(4, .int ((nI (mHt u.1 q)) - (nI (mHt u.1 ((xHf u.2) v))))), (3, .int (nI (mPar u.1 q))), (0, .ref (gL G (11 + 5 * v))), (1, .int (nI c0)), (2, .int (nI q))]) hx hb dX1_makeFinalBelow_102 hl (by decide) rfl (fun ls hl => ?_)
          refine lv_iload hx hb dX1_makeFinalBelow_104 (lv_at hl 0 rfl) ?_
          refine lv_if_gt (tgt := 122) hx hb dX1_makeFinalBelow_106 (by decide) (fun c_106 => ?_) (fun c_106 => ?_)
          · have c_106 : (mHt u.1 ((xHf u.2) v)) < (mHt u.1 q) := (sb_gt (by omega) (by omega)).mp c_106
            refine lv_aload_n hx hb dX1_makeFinalBelow_122 rfl (lv_at hl 2 rfl) ?_
            refine lv_iload_n hx hb dX1_makeFinalBelow_123 rfl (lv_at hl 4 rfl) ?_
            refine k_put (v := .int (nI q)) X hK inX1 rfl tyX1_ok nmX1 hP (wC_D hL _) hS (wC_n0 G ((u.1, tFi u.2 (va_up (xFi u.2) v (fun k => (((xFi u.2) v)) k || (xCh u.2 q) k)))) hv) 15 (by decide) tw_1_104 rfl rfl rfl (Nat.le_of_ble_eq_true rfl) ((u.1, tHf (tFi u.2 (va_up (xFi u.2) v (fun k => (((xFi u.2) v)) k || (xCh u.2 q) k))) (va_up (xHf u.2) v (q)))) (cn_Hf G ((u.1, tFi u.2 (va_up (xFi u.2) v (fun k => (((xFi u.2) v)) k || (xCh u.2 q) k)))) hv (q)) dX1_makeFinalBelow_124 (fun H locs hP hS => ?_)
            exact k_retv X hr hlocks hP hS dX1_makeFinalBelow_127 (by rw [cFin, if_pos ((isThree_iff _ _ _).mpr ⟨by omega, by omega, by omega⟩), if_pos ((betterF_iff _ _ _).mpr (by omega))]; rfl)
          · have c_106 : (mHt u.1 q) ≤ (mHt u.1 ((xHf u.2) v)) := Nat.le_of_not_lt fun h => c_106 ((sb_gt (by omega) (by omega)).mpr h)
            refine lv_iload hx hb dX1_makeFinalBelow_109 (lv_at hl 0 rfl) ?_
            refine lv_if_ne (tgt := 127) hx hb dX1_makeFinalBelow_111 (by decide) (fun c_111 => ?_) (fun c_111 => ?_)
            · have c_111 : (mHt u.1 q) ≠ (mHt u.1 ((xHf u.2) v)) := fun h => c_111 ((sb_eq (by omega) (by omega)).mpr h)
              exact k_retv X hr hlocks hP hS dX1_makeFinalBelow_127 (by rw [cFin, if_pos ((isThree_iff _ _ _).mpr ⟨by omega, by omega, by omega⟩), if_neg (fun h => absurd ((betterF_iff _ _ _).mp h) (by omega))]; rfl)
            · have c_111 : (mHt u.1 q) = (mHt u.1 ((xHf u.2) v)) := (sb_eq (by omega) (by omega)).mp c_111
              refine lv_iload_n hx hb dX1_makeFinalBelow_114 rfl (lv_at hl 4 rfl) ?_
              refine lv_aload_n hx hb dX1_makeFinalBelow_115 rfl (lv_at hl 2 rfl) ?_
              refine k_get (v := .int (nI ((xHf u.2) v))) X hK inX1 rfl hP (wC_n0 G ((u.1, tFi u.2 (va_up (xFi u.2) v (fun k => (((xFi u.2) v)) k || (xCh u.2 q) k)))) hv) 15 (by decide) tw_1_104 rfl dX1_makeFinalBelow_116 ?_
              refine lv_icmp_ge (tgt := 127) hx hb dX1_makeFinalBelow_119 (by decide) (fun c_119 => ?_) (fun c_119 => ?_)
              · have c_119 : ((xHf u.2) v) ≤ q := cLe c_119 (by omega) (by omega)
                exact k_retv X hr hlocks hP hS dX1_makeFinalBelow_127 (by rw [cFin, if_pos ((isThree_iff _ _ _).mpr ⟨by omega, by omega, by omega⟩), if_neg (fun h => absurd ((betterF_iff _ _ _).mp h) (by omega))]; rfl)
              · have c_119 : q < ((xHf u.2) v) := cNle c_119 (by omega) (by omega)
                refine lv_aload_n hx hb dX1_makeFinalBelow_122 rfl (lv_at hl 2 rfl) ?_
                refine lv_iload_n hx hb dX1_makeFinalBelow_123 rfl (lv_at hl 4 rfl) ?_
                refine k_put (v := .int (nI q)) X hK inX1 rfl tyX1_ok nmX1 hP (wC_D hL _) hS (wC_n0 G ((u.1, tFi u.2 (va_up (xFi u.2) v (fun k => (((xFi u.2) v)) k || (xCh u.2 q) k)))) hv) 15 (by decide) tw_1_104 rfl rfl rfl (Nat.le_of_ble_eq_true rfl) ((u.1, tHf (tFi u.2 (va_up (xFi u.2) v (fun k => (((xFi u.2) v)) k || (xCh u.2 q) k))) (va_up (xHf u.2) v (q)))) (cn_Hf G ((u.1, tFi u.2 (va_up (xFi u.2) v (fun k => (((xFi u.2) v)) k || (xCh u.2 q) k)))) hv (q)) dX1_makeFinalBelow_124 (fun H locs hP hS => ?_)
                exact k_retv X hr hlocks hP hS dX1_makeFinalBelow_127 (by rw [cFin, if_pos ((isThree_iff _ _ _).mpr ⟨by omega, by omega, by omega⟩), if_pos ((betterF_iff _ _ _).mpr (by omega))]; rfl)
        · have c_58 : (mEp u.1 c0) ≠ ((mEp u.1 q) + 1) := cNe c_58 (by omega) (by omega)
          exact k_retv X hr hlocks hP hS dX1_makeFinalBelow_61 (by rw [cFin, if_neg (fun h => absurd ((isThree_iff _ _ _).mp h) (by omega))])

set_option maxHeartbeats 4000000 in
set_option maxRecDepth 100000 in
theorem m1_choice (l : Launch) (G : kG) (u : CS) (hL : lay G) (hk : okC G u) {v : Nat} (hv : v < gn G) {q : Nat} (hq : q ≤ 40) : KMi l G (AC G) (wC G) yX1_choice cX1_choice 4 (Option.some FieldType.int) ({ frames := 1, cells := 0, slots := 0, locals := 22 }) [.ref (gL G (11 + 5 * v)), .int (nI q)] u (fun r u' => r = oI (cChoice u.1 u.2 v q) ∧ u' = u) := by
  refine K_of (by decide) (Nat.le_of_ble_eq_true rfl) ?_
  intro p e s m below meth c X hr hlocks hnm hK hP ls hl
  have hx := X.1
  have hb := X.2.1
  have hown := X.2.2.2.1
  have hts := X.2.2.2.2
  have hS : va_S (AC G) s.heap s.heap [] := va_S.rf
  have hl : lv_has ls 4 [(0, .ref (gL G (11 + 5 * v))), (1, .int (nI q))] := hl
  obtain ⟨kn4, kn10, kT1, kT61, kP40, kLd, kPar, kEp, kHt, kFc, kVf, kTp, kHf⟩ := id hk
  have hFb := kFc v q
  have hVb := kVf v q
  have hTb := kTp v
  have hHt2 := kHt (xTp u.2 v)
  refine lv_aload_n hx hb dX1_choice_0 rfl (lv_at hl 0 rfl) ?_
  refine k_get (v := .ref (gL G (14 + 5 * v))) X hK inX1 rfl hP (wC_n0 G u hv) 9 (by decide) tw_1_93 rfl dX1_choice_1 ?_
  refine lv_iload_n hx hb dX1_choice_4 rfl (lv_at hl 1 rfl) ?_
  refine k_ild (v := oI (mFc u.1 v q)) X hK hP (wC_n3 G u hv) (by omega) (by decide) rfl dX1_choice_5 ?_
  rcases Nat.eq_zero_or_pos (mFc u.1 v q) with hFz | hFz
  · refine k_ti (show oI (mFc u.1 v q) = -1 by rw [hFz]; rfl) ?_
    refine lv_istore_n (lv' := [(2, .int (-1)), (0, .ref (gL G (11 + 5 * v))), (1, .int (nI q))]) hx hb dX1_choice_6 rfl hl (by decide) rfl (fun ls hl => ?_)
    refine lv_iload_n hx hb dX1_choice_7 rfl (lv_at hl 0 rfl) ?_
    refine lv_iconst (v := -1) hx hb dX1_choice_8 (by decide) ?_
    refine lv_icmp_eq (tgt := 33) hx hb dX1_choice_9 (by decide) (fun c_9 => ?_) (fun c_9 => ?_)
    · refine lv_iconst (v := -1) hx hb dX1_choice_33 (by decide) ?_
      exact k_reti X hr hlocks hP hS dX1_choice_34 ⟨by rw [show cChoice u.1 u.2 v q = 0 from by rw [cChoice, if_neg (fun h => by simp only [Bool.and_eq_true, decide_eq_true_eq] at h; first | (exact absurd hFz h.1) | (exact absurd h.2.1 (by omega)) | (rw [h.2.2.1] at c_30; exact absurd c_30 (by decide)))]]; rfl, rfl⟩
    · exact absurd rfl c_9
  · refine k_ti (oI_pos hFz).symm ?_
    refine lv_istore_n (lv' := [(2, .int (nI (mFc u.1 v q))), (0, .ref (gL G (11 + 5 * v))), (1, .int (nI q))]) hx hb dX1_choice_6 rfl hl (by decide) rfl (fun ls hl => ?_)
    refine lv_iload_n hx hb dX1_choice_7 rfl (lv_at hl 0 rfl) ?_
    refine lv_iconst (v := -1) hx hb dX1_choice_8 (by decide) ?_
    refine lv_icmp_eq (tgt := 33) hx hb dX1_choice_9 (by decide) (fun c_9 => ?_) (fun c_9 => ?_)
    · exact absurd c_9 (m1_ne (by omega))
    · refine lv_aload_n hx hb dX1_choice_12 rfl (lv_at hl 1 rfl) ?_
      refine k_get (v := .ref (gL G (15 + 5 * v))) X hK inX1 rfl hP (wC_n0 G u hv) 10 (by decide) tw_1_94 rfl dX1_choice_13 ?_
      refine lv_iload_n hx hb dX1_choice_16 rfl (lv_at hl 2 rfl) ?_
      refine k_ild (v := oI (mVf u.1 v q)) X hK hP (wC_n4 G u hv) (by omega) (by decide) rfl dX1_choice_17 ?_
      rcases Nat.eq_zero_or_pos (mVf u.1 v q) with hVz | hVz
      · refine k_ti (show oI (mVf u.1 v q) = -1 by rw [hVz]; rfl) ?_
        refine lv_iconst (v := -1) hx hb dX1_choice_18 (by decide) ?_
        refine lv_icmp_ne (tgt := 33) hx hb dX1_choice_19 (by decide) (fun c_19 => ?_) (fun c_19 => ?_)
        · exact absurd rfl c_19
        · refine lv_aload_n hx hb dX1_choice_22 rfl (lv_at hl 1 rfl) ?_
          refine k_get (v := .long (eL ((xKn u.2) v))) X hK inX1 rfl hP (wC_n0 G u hv) 11 (by decide) tw_1_96 rfl dX1_choice_23 ?_
          refine lv_iload_n hx hb dX1_choice_26 rfl (lv_at hl 0 rfl) ?_
          refine k_ci (k_runSN (As := [.long (eL ((xKn u.2) v)), .int (nI (mFc u.1 v q))]) (rest := []) X hK hP (m2_holds l G (AC G) (wC G) u (eL ((xKn u.2) v)) (k := mFc u.1 v q) (by omega)) ⟨rfl, rfl⟩ ntw_1_210 tw_1_211 tw_1_1 tw_1_212 ⟨by decide +kernel, by decide +kernel, (by decide +kernel : (parseMethodDescriptor yX2_holds.desc).map (fun d => d.parameters.length) = some 2)⟩ ⟨Nat.le_of_ble_eq_true rfl, Nat.le_of_ble_eq_true rfl⟩ hl.1 rfl (Nat.le_of_ble_eq_true rfl) ⟨Nat.zero_le _, Nat.zero_le _⟩ dX1_choice_27) hS (fun r_27 u_27 H locs hq_27 hP hS => ?_)
          have hP := k_su hq_27.2 hP
          refine k_ti (y := bI ((((xKn u.2) v)) (mFc u.1 v q))) (hq_27.1.trans (congrArg bI (tL_eL _ (by omega)))) ?_
          refine lv_if_ne (tgt := 35) hx hb dX1_choice_30 (by decide) (fun c_30 => ?_) (fun c_30 => ?_)
          · have c_30 : ((((xKn u.2) v)) (mFc u.1 v q)) = true := (bI_ne0 _).mp c_30
            refine lv_aload_n hx hb dX1_choice_35 rfl (lv_at hl 1 rfl) ?_
            refine k_get (v := .ref (gL G 3)) X hK inX1 rfl hP (wC_n0 G u hv) 2 (by decide) tw_1_82 rfl dX1_choice_36 ?_
            refine k_gn (v := .ref (gL G 4)) X hK inX0 rfl hP (wC_g G u (k := 3) (by decide)) 0 (by decide) ntw_1_30 rfl dX1_choice_39 ?_
            refine lv_iload_n hx hb dX1_choice_42 rfl (lv_at hl 0 rfl) ?_
            refine k_ild (v := eP (mPar u.1) (mFc u.1 v q)) X hK hP (wC_g G u (k := 4) (by decide)) (by omega) (by decide) rfl dX1_choice_43 ?_
            refine k_ti (eP_pos hFz) ?_
            have hPF := kPar _ hFz
            have hHp := kHt (mPar u.1 (mFc u.1 v q))
            refine lv_istore_n (lv' := [(3, .int (nI (mPar u.1 (mFc u.1 v q)))), (2, .int (nI (mFc u.1 v q))), (0, .ref (gL G (11 + 5 * v))), (1, .int (nI q))]) hx hb dX1_choice_44 rfl hl (by decide) rfl (fun ls hl => ?_)
            refine lv_iload_n hx hb dX1_choice_45 rfl (lv_at hl 0 rfl) ?_
            refine lv_iconst (v := -1) hx hb dX1_choice_46 (by decide) ?_
            refine lv_icmp_eq (tgt := 61) hx hb dX1_choice_47 (by decide) (fun c_47 => ?_) (fun c_47 => ?_)
            · exact absurd c_47 (m1_ne (by omega))
            · refine lv_aload_n hx hb dX1_choice_50 rfl (lv_at hl 2 rfl) ?_
              refine k_get (v := .long (eL ((xNo u.2) v))) X hK inX1 rfl hP (wC_n0 G u hv) 12 (by decide) tw_1_98 rfl dX1_choice_51 ?_
              refine lv_iload_n hx hb dX1_choice_54 rfl (lv_at hl 0 rfl) ?_
              refine k_ci (k_runSN (As := [.long (eL ((xNo u.2) v)), .int (nI (mPar u.1 (mFc u.1 v q)))]) (rest := []) X hK hP (m2_holds l G (AC G) (wC G) u (eL ((xNo u.2) v)) (k := mPar u.1 (mFc u.1 v q)) (by omega)) ⟨rfl, rfl⟩ ntw_1_210 tw_1_211 tw_1_1 tw_1_212 ⟨by decide +kernel, by decide +kernel, (by decide +kernel : (parseMethodDescriptor yX2_holds.desc).map (fun d => d.parameters.length) = some 2)⟩ ⟨Nat.le_of_ble_eq_true rfl, Nat.le_of_ble_eq_true rfl⟩ hl.1 rfl (Nat.le_of_ble_eq_true rfl) ⟨Nat.zero_le _, Nat.zero_le _⟩ dX1_choice_55) hS (fun r_55 u_55 H locs hq_55 hP hS => ?_)
              have hP := k_su hq_55.2 hP
              refine k_ti (y := bI ((((xNo u.2) v)) (mPar u.1 (mFc u.1 v q)))) (hq_55.1.trans (congrArg bI (tL_eL _ (by omega)))) ?_
              refine lv_if_ne (tgt := 63) hx hb dX1_choice_58 (by decide) (fun c_58 => ?_) (fun c_58 => ?_)
              · have c_58 : ((((xNo u.2) v)) (mPar u.1 (mFc u.1 v q))) = true := (bI_ne0 _).mp c_58
                refine lv_aload_n hx hb dX1_choice_63 rfl (lv_at hl 2 rfl) ?_
                refine k_get (v := .ref (gL G 3)) X hK inX1 rfl hP (wC_n0 G u hv) 2 (by decide) tw_1_82 rfl dX1_choice_64 ?_
                refine k_gn (v := .ref (gL G 7)) X hK inX0 rfl hP (wC_g G u (k := 3) (by decide)) 3 (by decide) ntw_1_38 rfl dX1_choice_67 ?_
                refine lv_iload_n hx hb dX1_choice_70 rfl (lv_at hl 0 rfl) ?_
                refine k_ild (v := nI (mHt u.1 (mPar u.1 (mFc u.1 v q)))) X hK hP (wC_g G u (k := 7) (by decide)) (by omega) (by decide) rfl dX1_choice_71 ?_
                refine lv_aload_n hx hb dX1_choice_72 rfl (lv_at hl 2 rfl) ?_
                refine k_get (v := .ref (gL G 3)) X hK inX1 rfl hP (wC_n0 G u hv) 2 (by decide) tw_1_82 rfl dX1_choice_73 ?_
                refine k_gn (v := .ref (gL G 7)) X hK inX0 rfl hP (wC_g G u (k := 3) (by decide)) 3 (by decide) ntw_1_38 rfl dX1_choice_76 ?_
                refine lv_aload_n hx hb dX1_choice_79 rfl (lv_at hl 2 rfl) ?_
                refine k_get (v := .int (nI ((xTp u.2) v))) X hK inX1 rfl hP (wC_n0 G u hv) 14 (by decide) tw_1_102 rfl dX1_choice_80 ?_
                refine k_ild (v := nI (mHt u.1 ((xTp u.2) v))) X hK hP (wC_g G u (k := 7) (by decide)) (by omega) (by decide) rfl dX1_choice_83 ?_
                refine lv_icmp_ne (tgt := 91) hx hb dX1_choice_84 (by decide) (fun c_84 => ?_) (fun c_84 => ?_)
                · have c_84 : (mHt u.1 (mPar u.1 (mFc u.1 v q))) ≠ (mHt u.1 ((xTp u.2) v)) := cNe c_84 (by omega) (by omega)
                  refine lv_iconst (v := -1) hx hb dX1_choice_91 (by decide) ?_
                  exact k_reti X hr hlocks hP hS dX1_choice_92 ⟨by rw [show cChoice u.1 u.2 v q = 0 from by rw [cChoice, if_neg (fun h => by simp only [Bool.and_eq_true, decide_eq_true_eq] at h; exact absurd h.2.2.2.2 (by omega))]]; rfl, rfl⟩
                · have c_84 : (mHt u.1 (mPar u.1 (mFc u.1 v q))) = (mHt u.1 ((xTp u.2) v)) := cEq c_84 (by omega) (by omega)
                  refine lv_iload_n hx hb dX1_choice_87 rfl (lv_at hl 1 rfl) ?_
                  refine lv_goto (tgt := 92) hx hb dX1_choice_88 (by decide) ?_
                  exact k_reti X hr hlocks hP hS dX1_choice_92 ⟨by rw [show cChoice u.1 u.2 v q = mFc u.1 v q from by rw [cChoice, if_pos (by simp only [Bool.and_eq_true, decide_eq_true_eq]; exact ⟨by omega, hVz, c_30, c_58, by omega⟩)]]; exact oI_pos hFz, rfl⟩
              · have c_58 : ((((xNo u.2) v)) (mPar u.1 (mFc u.1 v q))) = false := (bI_eq0 _).mp c_58
                refine lv_iconst (v := -1) hx hb dX1_choice_61 (by decide) ?_
                exact k_reti X hr hlocks hP hS dX1_choice_62 ⟨by rw [show cChoice u.1 u.2 v q = 0 from by rw [cChoice, if_neg (fun h => by simp only [Bool.and_eq_true, decide_eq_true_eq] at h; rw [h.2.2.2.1] at c_58; exact absurd c_58 (by decide))]]; rfl, rfl⟩
          · have c_30 : ((((xKn u.2) v)) (mFc u.1 v q)) = false := (bI_eq0 _).mp c_30
            refine lv_iconst (v := -1) hx hb dX1_choice_33 (by decide) ?_
            exact k_reti X hr hlocks hP hS dX1_choice_34 ⟨by rw [show cChoice u.1 u.2 v q = 0 from by rw [cChoice, if_neg (fun h => by simp only [Bool.and_eq_true, decide_eq_true_eq] at h; first | (exact absurd hFz h.1) | (exact absurd h.2.1 (by omega)) | (rw [h.2.2.1] at c_30; exact absurd c_30 (by decide)))]]; rfl, rfl⟩
      · refine k_ti (oI_pos hVz).symm ?_
        refine lv_iconst (v := -1) hx hb dX1_choice_18 (by decide) ?_
        refine lv_icmp_ne (tgt := 33) hx hb dX1_choice_19 (by decide) (fun c_19 => ?_) (fun c_19 => ?_)
        · refine lv_iconst (v := -1) hx hb dX1_choice_33 (by decide) ?_
          exact k_reti X hr hlocks hP hS dX1_choice_34 ⟨by rw [show cChoice u.1 u.2 v q = 0 from by rw [cChoice, if_neg (fun h => by simp only [Bool.and_eq_true, decide_eq_true_eq] at h; first | (exact absurd hFz h.1) | (exact absurd h.2.1 (by omega)) | (rw [h.2.2.1] at c_30; exact absurd c_30 (by decide)))]]; rfl, rfl⟩
        · exact absurd c_19 (m1_ne (by omega))
end
section
set_option maxHeartbeats 4000000 in
set_option maxRecDepth 100000 in
theorem mJ_bc32 (l : Launch) (G : kG) (A : Nat → Prop) {S : Type} (wd : S → va_W) (u : S) (x : Int32) : KMi l G A wd yJ6_bitCount_0f7a4 cJ6_bitCount_0f7a4 1 (Option.some FieldType.int) ({ frames := 0, cells := 0, slots := 0, locals := 0 }) [.int (x)] u (fun r u' => r = nI (cnt (tI x) 32) ∧ u' = u) := by
  refine K_of (by decide) (Nat.le_of_ble_eq_true rfl) ?_
  intro p e s m below meth c X hr hlocks hnm hK hP ls hl
  have hx := X.1
  have hb := X.2.1
  have hown := X.2.2.2.1
  have hts := X.2.2.2.2
  have hS : va_S A s.heap s.heap [] := va_S.rf
  have hl : lv_has ls 1 [(0, .int (x))] := hl
  refine lv_iload_n hx hb dJ6_bitCount_0f7a4_0 rfl (lv_at hl 0 rfl) ?_
  refine lv_iload_n hx hb dJ6_bitCount_0f7a4_1 rfl (lv_at hl 0 rfl) ?_
  refine lv_iconst (v := nI 1) hx hb dJ6_bitCount_0f7a4_2 (by decide) ?_
  refine lv_iushr (v := (x.toUInt32 >>> ((nI 1).toUInt32 &&& Int32.toUInt32 31)).toInt32) hx hb dJ6_bitCount_0f7a4_3 rfl ?_
  refine lv_ldcw (v := 1431655765) hx hb hown (hts _ tw_1_216) dJ6_bitCount_0f7a4_4 ?_
  refine lv_iand hx hb dJ6_bitCount_0f7a4_7 ?_
  refine lv_isub hx hb dJ6_bitCount_0f7a4_8 ?_
  refine k_ti (show _ = bc1 x from rfl) ?_
  refine lv_istore_n (lv' := [(0, .int (bc1 x))]) hx hb dJ6_bitCount_0f7a4_9 rfl hl (by decide) rfl (fun ls hl => ?_)
  refine lv_iload_n hx hb dJ6_bitCount_0f7a4_10 rfl (lv_at hl 0 rfl) ?_
  refine lv_ldcw (v := 858993459) hx hb hown (hts _ tw_1_217) dJ6_bitCount_0f7a4_11 ?_
  refine lv_iand hx hb dJ6_bitCount_0f7a4_14 ?_
  refine lv_iload_n hx hb dJ6_bitCount_0f7a4_15 rfl (lv_at hl 0 rfl) ?_
  refine lv_iconst (v := nI 2) hx hb dJ6_bitCount_0f7a4_16 (by decide) ?_
  refine lv_iushr (v := ((bc1 x).toUInt32 >>> ((nI 2).toUInt32 &&& Int32.toUInt32 31)).toInt32) hx hb dJ6_bitCount_0f7a4_17 rfl ?_
  refine lv_ldcw (v := 858993459) hx hb hown (hts _ tw_1_217) dJ6_bitCount_0f7a4_18 ?_
  refine lv_iand hx hb dJ6_bitCount_0f7a4_21 ?_
  refine lv_iadd hx hb dJ6_bitCount_0f7a4_22 ?_
  refine k_ti (show _ = bc2 (bc1 x) from rfl) ?_
  refine lv_istore_n (lv' := [(0, .int (bc2 (bc1 x)))]) hx hb dJ6_bitCount_0f7a4_23 rfl hl (by decide) rfl (fun ls hl => ?_)
  refine lv_iload_n hx hb dJ6_bitCount_0f7a4_24 rfl (lv_at hl 0 rfl) ?_
  refine lv_iload_n hx hb dJ6_bitCount_0f7a4_25 rfl (lv_at hl 0 rfl) ?_
  refine lv_iconst (v := nI 4) hx hb dJ6_bitCount_0f7a4_26 (by decide) ?_
  refine lv_iushr (v := ((bc2 (bc1 x)).toUInt32 >>> ((nI 4).toUInt32 &&& Int32.toUInt32 31)).toInt32) hx hb dJ6_bitCount_0f7a4_27 rfl ?_
  refine lv_iadd hx hb dJ6_bitCount_0f7a4_28 ?_
  refine lv_ldcw (v := 252645135) hx hb hown (hts _ tw_1_218) dJ6_bitCount_0f7a4_29 ?_
  refine lv_iand hx hb dJ6_bitCount_0f7a4_32 ?_
  refine k_ti (show _ = bc3 (bc2 (bc1 x)) from rfl) ?_
  refine lv_istore_n (lv' := [(0, .int (bc3 (bc2 (bc1 x))))]) hx hb dJ6_bitCount_0f7a4_33 rfl hl (by decide) rfl (fun ls hl => ?_)
  refine lv_iload_n hx hb dJ6_bitCount_0f7a4_34 rfl (lv_at hl 0 rfl) ?_
  refine lv_iload_n hx hb dJ6_bitCount_0f7a4_35 rfl (lv_at hl 0 rfl) ?_
  refine lv_bipush (v := nI 8) hx hb dJ6_bitCount_0f7a4_36 (by decide) ?_
  refine lv_iushr (v := ((bc3 (bc2 (bc1 x))).toUInt32 >>> ((nI 8).toUInt32 &&& Int32.toUInt32 31)).toInt32) hx hb dJ6_bitCount_0f7a4_38 rfl ?_
  refine lv_iadd hx hb dJ6_bitCount_0f7a4_39 ?_
  refine k_ti (show _ = bc4 (bc3 (bc2 (bc1 x))) from rfl) ?_
  refine lv_istore_n (lv' := [(0, .int (bc4 (bc3 (bc2 (bc1 x)))))]) hx hb dJ6_bitCount_0f7a4_40 rfl hl (by decide) rfl (fun ls hl => ?_)
  refine lv_iload_n hx hb dJ6_bitCount_0f7a4_41 rfl (lv_at hl 0 rfl) ?_
  refine lv_iload_n hx hb dJ6_bitCount_0f7a4_42 rfl (lv_at hl 0 rfl) ?_
  refine lv_bipush (v := nI 16) hx hb dJ6_bitCount_0f7a4_43 (by decide) ?_
  refine lv_iushr (v := ((bc4 (bc3 (bc2 (bc1 x)))).toUInt32 >>> ((nI 16).toUInt32 &&& Int32.toUInt32 31)).toInt32) hx hb dJ6_bitCount_0f7a4_45 rfl ?_
  refine lv_iadd hx hb dJ6_bitCount_0f7a4_46 ?_
  refine k_ti (show _ = bc5 (bc4 (bc3 (bc2 (bc1 x)))) from rfl) ?_
  refine lv_istore_n (lv' := [(0, .int (bc5 (bc4 (bc3 (bc2 (bc1 x))))))]) hx hb dJ6_bitCount_0f7a4_47 rfl hl (by decide) rfl (fun ls hl => ?_)
  refine lv_iload_n hx hb dJ6_bitCount_0f7a4_48 rfl (lv_at hl 0 rfl) ?_
  refine lv_bipush (v := nI 63) hx hb dJ6_bitCount_0f7a4_49 (by decide) ?_
  refine lv_iand hx hb dJ6_bitCount_0f7a4_51 ?_
  exact k_reti X hr hlocks hP hS dJ6_bitCount_0f7a4_52 ⟨bc32_eq x, rfl⟩

set_option maxHeartbeats 4000000 in
set_option maxRecDepth 100000 in
theorem mJ_bc64 (l : Launch) (G : kG) (A : Nat → Prop) {S : Type} (wd : S → va_W) (u : S) (x : Int64) : KMi l G A wd yJ13_bitCount_95d88 cJ13_bitCount_95d88 2 (Option.some FieldType.int) ({ frames := 0, cells := 0, slots := 0, locals := 0 }) [.long (x)] u (fun r u' => r = nI (cnt (tL x) 64) ∧ u' = u) := by
  refine K_of (by decide) (Nat.le_of_ble_eq_true rfl) ?_
  intro p e s m below meth c X hr hlocks hnm hK hP ls hl
  have hx := X.1
  have hb := X.2.1
  have hown := X.2.2.2.1
  have hts := X.2.2.2.2
  have hS : va_S A s.heap s.heap [] := va_S.rf
  have hl : lv_has ls 2 [(0, .long (x))] := hl
  refine lv_lload_n hx hb dJ13_bitCount_95d88_0 rfl (lv_at hl 0 rfl) ?_
  refine lv_lload_n hx hb dJ13_bitCount_95d88_1 rfl (lv_at hl 0 rfl) ?_
  refine lv_iconst (v := nI 1) hx hb dJ13_bitCount_95d88_2 (by decide) ?_
  refine lv_lushr (v := (x.toUInt64 >>> ((nI 1).toInt64.toUInt64 &&& Int64.toUInt64 63)).toInt64) hx hb dJ13_bitCount_95d88_3 rfl ?_
  refine lv_ldc2 (v := 6148914691236517205) hx hb hown (hts _ tw_2_63) dJ13_bitCount_95d88_4 ?_
  refine lv_land hx hb dJ13_bitCount_95d88_7 ?_
  refine lv_lsub hx hb dJ13_bitCount_95d88_8 ?_
  refine k_tl (show _ = lc1 x from rfl) ?_
  refine lv_lstore_n (lv' := [(0, .long (lc1 x))]) hx hb dJ13_bitCount_95d88_9 rfl hl (by decide) rfl (fun ls hl => ?_)
  refine lv_lload_n hx hb dJ13_bitCount_95d88_10 rfl (lv_at hl 0 rfl) ?_
  refine lv_ldc2 (v := 3689348814741910323) hx hb hown (hts _ tw_2_64) dJ13_bitCount_95d88_11 ?_
  refine lv_land hx hb dJ13_bitCount_95d88_14 ?_
  refine lv_lload_n hx hb dJ13_bitCount_95d88_15 rfl (lv_at hl 0 rfl) ?_
  refine lv_iconst (v := nI 2) hx hb dJ13_bitCount_95d88_16 (by decide) ?_
  refine lv_lushr (v := ((lc1 x).toUInt64 >>> ((nI 2).toInt64.toUInt64 &&& Int64.toUInt64 63)).toInt64) hx hb dJ13_bitCount_95d88_17 rfl ?_
  refine lv_ldc2 (v := 3689348814741910323) hx hb hown (hts _ tw_2_64) dJ13_bitCount_95d88_18 ?_
  refine lv_land hx hb dJ13_bitCount_95d88_21 ?_
  refine lv_ladd hx hb dJ13_bitCount_95d88_22 ?_
  refine k_tl (show _ = lc2 (lc1 x) from rfl) ?_
  refine lv_lstore_n (lv' := [(0, .long (lc2 (lc1 x)))]) hx hb dJ13_bitCount_95d88_23 rfl hl (by decide) rfl (fun ls hl => ?_)
  refine lv_lload_n hx hb dJ13_bitCount_95d88_24 rfl (lv_at hl 0 rfl) ?_
  refine lv_lload_n hx hb dJ13_bitCount_95d88_25 rfl (lv_at hl 0 rfl) ?_
  refine lv_iconst (v := nI 4) hx hb dJ13_bitCount_95d88_26 (by decide) ?_
  refine lv_lushr (v := ((lc2 (lc1 x)).toUInt64 >>> ((nI 4).toInt64.toUInt64 &&& Int64.toUInt64 63)).toInt64) hx hb dJ13_bitCount_95d88_27 rfl ?_
  refine lv_ladd hx hb dJ13_bitCount_95d88_28 ?_
  refine lv_ldc2 (v := 1085102592571150095) hx hb hown (hts _ tw_2_65) dJ13_bitCount_95d88_29 ?_
  refine lv_land hx hb dJ13_bitCount_95d88_32 ?_
  refine k_tl (show _ = lc3 (lc2 (lc1 x)) from rfl) ?_
  refine lv_lstore_n (lv' := [(0, .long (lc3 (lc2 (lc1 x))))]) hx hb dJ13_bitCount_95d88_33 rfl hl (by decide) rfl (fun ls hl => ?_)
  refine lv_lload_n hx hb dJ13_bitCount_95d88_34 rfl (lv_at hl 0 rfl) ?_
  refine lv_lload_n hx hb dJ13_bitCount_95d88_35 rfl (lv_at hl 0 rfl) ?_
  refine lv_bipush (v := nI 8) hx hb dJ13_bitCount_95d88_36 (by decide) ?_
  refine lv_lushr (v := ((lc3 (lc2 (lc1 x))).toUInt64 >>> ((nI 8).toInt64.toUInt64 &&& Int64.toUInt64 63)).toInt64) hx hb dJ13_bitCount_95d88_38 rfl ?_
  refine lv_ladd hx hb dJ13_bitCount_95d88_39 ?_
  refine k_tl (show _ = lc4 (lc3 (lc2 (lc1 x))) from rfl) ?_
  refine lv_lstore_n (lv' := [(0, .long (lc4 (lc3 (lc2 (lc1 x)))))]) hx hb dJ13_bitCount_95d88_40 rfl hl (by decide) rfl (fun ls hl => ?_)
  refine lv_lload_n hx hb dJ13_bitCount_95d88_41 rfl (lv_at hl 0 rfl) ?_
  refine lv_lload_n hx hb dJ13_bitCount_95d88_42 rfl (lv_at hl 0 rfl) ?_
  refine lv_bipush (v := nI 16) hx hb dJ13_bitCount_95d88_43 (by decide) ?_
  refine lv_lushr (v := ((lc4 (lc3 (lc2 (lc1 x)))).toUInt64 >>> ((nI 16).toInt64.toUInt64 &&& Int64.toUInt64 63)).toInt64) hx hb dJ13_bitCount_95d88_45 rfl ?_
  refine lv_ladd hx hb dJ13_bitCount_95d88_46 ?_
  refine k_tl (show _ = lc5 (lc4 (lc3 (lc2 (lc1 x)))) from rfl) ?_
  refine lv_lstore_n (lv' := [(0, .long (lc5 (lc4 (lc3 (lc2 (lc1 x))))))]) hx hb dJ13_bitCount_95d88_47 rfl hl (by decide) rfl (fun ls hl => ?_)
  refine lv_lload_n hx hb dJ13_bitCount_95d88_48 rfl (lv_at hl 0 rfl) ?_
  refine lv_lload_n hx hb dJ13_bitCount_95d88_49 rfl (lv_at hl 0 rfl) ?_
  refine lv_bipush (v := nI 32) hx hb dJ13_bitCount_95d88_50 (by decide) ?_
  refine lv_lushr (v := ((lc5 (lc4 (lc3 (lc2 (lc1 x))))).toUInt64 >>> ((nI 32).toInt64.toUInt64 &&& Int64.toUInt64 63)).toInt64) hx hb dJ13_bitCount_95d88_52 rfl ?_
  refine lv_ladd hx hb dJ13_bitCount_95d88_53 ?_
  refine k_tl (show _ = lc6 (lc5 (lc4 (lc3 (lc2 (lc1 x))))) from rfl) ?_
  refine lv_lstore_n (lv' := [(0, .long (lc6 (lc5 (lc4 (lc3 (lc2 (lc1 x)))))))]) hx hb dJ13_bitCount_95d88_54 rfl hl (by decide) rfl (fun ls hl => ?_)
  refine lv_lload_n hx hb dJ13_bitCount_95d88_55 rfl (lv_at hl 0 rfl) ?_
  refine lv_l2i (v := (lc6 (lc5 (lc4 (lc3 (lc2 (lc1 x)))))).toInt32) hx hb dJ13_bitCount_95d88_56 rfl ?_
  refine lv_bipush (v := nI 127) hx hb dJ13_bitCount_95d88_57 (by decide) ?_
  refine lv_iand hx hb dJ13_bitCount_95d88_59 ?_
  exact k_reti X hr hlocks hP hS dJ13_bitCount_95d88_60 ⟨bc64_eq x, rfl⟩

theorem cnt_vB (f : Nat → Nat → Bool) (b v : Nat) : cnt (tI (eI (vB f b v))) 32 = cnt (fun x => f (11 * b + 1 + x) v) 10 := by
  rw [show cnt (tI (eI (vB f b v))) 32 = cnt (vB f b v) 32 from cnt_congr fun j hj => tI_eI _ hj]
  rw [show (32 : Nat) = 10 + 22 from rfl, cnt_ext 22 (fun j h1 _ => by simp only [vB, decide_eq_false (Nat.not_lt.mpr h1), Bool.false_and])]
  exact cnt_congr fun j hj => by simp only [vB, decide_eq_true hj, Bool.true_and]

set_option maxHeartbeats 4000000 in
set_option maxRecDepth 100000 in
theorem m1_judgeFrom (l : Launch) (G : kG) (u : CS) (hL : lay G) (hk : okC G u) {v : Nat} (hv : v < gn G) {c0 : Nat} (hc0 : c0 ≤ mT u.1) : KMv l G (AC G) (wC G) yX1_judgeFrom cX1_judgeFrom 5 (Option.none : Option FieldType) ({ frames := 1, cells := 0, slots := 0, locals := 24 }) [.ref (gL G (11 + 5 * v)), .int (nI c0)] u (fun u' => u' = (u.1, judge (gn G) u.1 u.2 v c0)) := by
  refine K_of (by decide) (Nat.le_of_ble_eq_true rfl) ?_
  intro p e s m below meth c X hr hlocks hnm hK hP ls hl
  have hx := X.1
  have hb := X.2.1
  have hown := X.2.2.2.1
  have hts := X.2.2.2.2
  have hS : va_S (AC G) s.heap s.heap [] := va_S.rf
  have hl : lv_has ls 5 [(0, .ref (gL G (11 + 5 * v))), (1, .int (nI c0))] := hl
  obtain ⟨kn4, kn10, kT1, kT61, kP40, kLd, kPar, kEp, kHt, kFc, kVf, kTp, kHf⟩ := id hk
  refine lv_iload_n hx hb dX1_judgeFrom_0 rfl (lv_at hl 1 rfl) ?_
  refine lv_istore_n (lv' := [(2, .int (nI c0)), (0, .ref (gL G (11 + 5 * v))), (1, .int (nI c0))]) hx hb dX1_judgeFrom_1 rfl hl (by decide) rfl (fun ls hl => ?_)
  have loop_2 : ∀ (d_2 : Nat) (i : Nat) (X1 : XS), mT u.1 - i = d_2 → (c0 ≤ i) → (i ≤ mT u.1) → (X1 = jFold (gn G) u.1 v u.2 c0 (i - c0)) → (∀ v, xTp X1 v < mT u.1) → (∀ v, xHf X1 v < mT u.1) → ∀ (H : Heap) (locs : List Loc) (ls : Array Slot), va_P (gD G) vwCl ((wC G) ((u.1, X1))) H → va_S (AC G) s.heap H locs → lv_has ls 5 [(0, .ref (gL G (11 + 5 * v))), (1, .int (nI c0)), (2, .int (nI i))] → W p l e ({ frames := 1, cells := 0, slots := 0, locals := 24 } : Room) s m ([.ref (gL G (11 + 5 * v)), .int (nI c0)] : List Value).toArray below meth c H locs 0 0 (MQ below (va_Qv (fun u' => u' = (u.1, judge (gn G) u.1 u.2 v c0)) (KB G (wC G)) (AC G)) ([.ref (gL G (11 + 5 * v)), .int (nI c0)] : List Value).toArray s 0 0 (AC G)) (F0 m 2 ls []) := by
    intro d_2
    induction d_2 using Nat.strongRecOn with
    | ind d_2 ih_2 =>
      intro i X1 hd_2 hci hiT hX1 hTp hHf H locs ls hP hS hl
      have join_153 : ∀ (X3 : XS) (hi : i < mT u.1) (hX3 : X3 = jStep (gn G) u.1 X1 v i) (H : Heap) (locs : List Loc) (ls : Array Slot), va_P (gD G) vwCl ((wC G) ((u.1, X3))) H → va_S (AC G) s.heap H locs → lv_has ls 5 [(0, .ref (gL G (11 + 5 * v))), (1, .int (nI c0)), (2, .int (nI i))] → W p l e ({ frames := 1, cells := 0, slots := 0, locals := 24 } : Room) s m ([.ref (gL G (11 + 5 * v)), .int (nI c0)] : List Value).toArray below meth c H locs 0 0 (MQ below (va_Qv (fun u' => u' = (u.1, judge (gn G) u.1 u.2 v c0)) (KB G (wC G)) (AC G)) ([.ref (gL G (11 + 5 * v)), .int (nI c0)] : List Value).toArray s 0 0 (AC G)) (F0 m 153 ls []) := by
        intro X3 hi hX3 H locs ls hP hS hl
        refine lv_iinc (v := nI (i + 1)) (lv' := [(2, .int (nI (i + 1))), (0, .ref (gL G (11 + 5 * v))), (1, .int (nI c0))]) hx hb dX1_judgeFrom_153 hl (k := 2) rfl (nI_add i 1) (by decide) rfl (fun ls hl => ?_)
        refine lv_goto (tgt := 2) hx hb dX1_judgeFrom_156 (by decide) ?_
        exact ih_2 (mT u.1 - (i + 1)) (by omega) (i + 1) X3 rfl (by omega) (hi) (by rw [jFold_succ hci, ← hX1]; exact hX3) (by rw [hX3]; exact (jStep_le (by omega) (fun h0 => by have := kPar i (Nat.pos_of_ne_zero h0); omega) hTp hHf).1) (by rw [hX3]; exact (jStep_le (by omega) (fun h0 => by have := kPar i (Nat.pos_of_ne_zero h0); omega) hTp hHf).2) _ _ _ hP hS (lv_sub hl [1, 2, 0] rfl)
      have join_65 : ∀ (X2 : XS) (hi : i < mT u.1) (hi0 : 0 < i) (hpi : mPar u.1 i < i) (hX2 : X2 = jKn u.1 X1 v i) (H : Heap) (locs : List Loc) (ls : Array Slot), va_P (gD G) vwCl ((wC G) ((u.1, X2))) H → va_S (AC G) s.heap H locs → lv_has ls 5 [(0, .ref (gL G (11 + 5 * v))), (1, .int (nI c0)), (2, .int (nI i)), (3, .int (nI (mPar u.1 i)))] → W p l e ({ frames := 1, cells := 0, slots := 0, locals := 24 } : Room) s m ([.ref (gL G (11 + 5 * v)), .int (nI c0)] : List Value).toArray below meth c H locs 0 0 (MQ below (va_Qv (fun u' => u' = (u.1, judge (gn G) u.1 u.2 v c0)) (KB G (wC G)) (AC G)) ([.ref (gL G (11 + 5 * v)), .int (nI c0)] : List Value).toArray s 0 0 (AC G)) (F0 m 65 ls []) := by
        intro X2 hi hi0 hpi hX2 H locs ls hP hS hl
        refine lv_iconst (v := nI 3) hx hb dX1_judgeFrom_65 (by decide) ?_
        refine lv_aload_n hx hb dX1_judgeFrom_66 rfl (lv_at hl 0 rfl) ?_
        refine k_get (v := .ref (gL G (12 + 5 * v))) X hK inX1 rfl hP (wC_n0 G ((u.1, X2)) hv) 7 (by decide) tw_1_89 rfl dX1_judgeFrom_67 ?_
        refine lv_iload_n hx hb dX1_judgeFrom_70 rfl (lv_at hl 2 rfl) ?_
        refine k_ild (v := eI (vB (mHs u.1) i v)) X hK hP (wC_n1 G ((u.1, X2)) hv) (by omega) (by decide) rfl dX1_judgeFrom_71 ?_
        refine k_ci (k_runS (As := [.int (eI (vB (mHs u.1) i v))]) (rest := [.int (nI 3)]) X hK hP (mJ_bc32 l G (AC G) (wC G) ((u.1, X2)) (eI (vB (mHs u.1) i v))) ⟨rfl, rfl⟩ tw_1_213 tw_1_214 tw_1_7 tw_1_215 ⟨by decide +kernel, by decide +kernel, (by decide +kernel : (parseMethodDescriptor yJ6_bitCount_0f7a4.desc).map (fun d => d.parameters.length) = some 1)⟩ ⟨Nat.le_of_ble_eq_true rfl, Nat.le_of_ble_eq_true rfl⟩ hl.1 rfl (Nat.le_of_ble_eq_true rfl) ⟨Nat.zero_le _, Nat.zero_le _⟩ dX1_judgeFrom_72) hS (fun r_72 u_72 H locs hq_72 hP hS => ?_)
        have hP := k_su hq_72.2 hP
        refine k_ti (y := nI (nVo u.1 i v)) (hq_72.1.trans (congrArg nI (cnt_vB _ _ _))) ?_
        have hnv : nVo u.1 i v ≤ 10 := cnt_le _ _
        refine lv_imul hx hb dX1_judgeFrom_75 ?_
        refine k_ti (pk_mul 3 (nVo u.1 i v)) ?_
        refine lv_iconst (v := nI 2) hx hb dX1_judgeFrom_76 (by decide) ?_
        refine lv_aload_n hx hb dX1_judgeFrom_77 rfl (lv_at hl 0 rfl) ?_
        refine k_get (v := .int (nI (gn G))) X hK inX1 rfl hP (wC_n0 G ((u.1, X2)) hv) 1 (by decide) tw_1_81 rfl dX1_judgeFrom_78 ?_
        refine lv_imul hx hb dX1_judgeFrom_81 ?_
        refine k_ti (pk_mul 2 (gn G)) ?_
        refine lv_icmp_lt (tgt := 89) hx hb dX1_judgeFrom_82 (by decide) (fun c_82 => ?_) (fun c_82 => ?_)
        · have c_82 : (3 * (nVo u.1 i v)) < (2 * (gn G)) := cLt c_82 (by omega) (by omega)
          refine lv_iconst (v := nI 0) hx hb dX1_judgeFrom_89 (by decide) ?_
          refine lv_istore (lv' := [(4, .int (nI 0)), (0, .ref (gL G (11 + 5 * v))), (1, .int (nI c0)), (2, .int (nI i)), (3, .int (nI (mPar u.1 i)))]) hx hb dX1_judgeFrom_90 hl (by decide) rfl (fun ls hl => ?_)
          refine lv_iload hx hb dX1_judgeFrom_92 (lv_at hl 0 rfl) ?_
          refine lv_if_eq (tgt := 153) hx hb dX1_judgeFrom_94 (by decide) (fun c_94 => ?_) (fun c_94 => ?_)
          · exact join_153 X2 (hi) (by rw [jStep, if_neg (Nat.ne_of_gt hi0), ← hX2, jNo, if_neg (fun h => by simp only [Bool.and_eq_true, decide_eq_true_eq, Bool.not_eq_true'] at h; first | (exact absurd h.1 (by omega)) | (rw [h.2.1] at c_105; exact absurd c_105 (by decide)) | (rw [h.2.2.1] at c_116; exact absurd c_116 (by decide)) | (rw [h.2.2.2] at c_127; exact absurd c_127 (by decide)))]) _ _ _ hP hS (lv_sub hl [1, 2, 3] rfl)
          · exact absurd rfl c_94
        · have c_82 : (2 * (gn G)) ≤ (3 * (nVo u.1 i v)) := cNlt c_82 (by omega) (by omega)
          refine lv_iconst (v := nI 1) hx hb dX1_judgeFrom_85 (by decide) ?_
          refine lv_goto (tgt := 90) hx hb dX1_judgeFrom_86 (by decide) ?_
          refine lv_istore (lv' := [(4, .int (nI 1)), (0, .ref (gL G (11 + 5 * v))), (1, .int (nI c0)), (2, .int (nI i)), (3, .int (nI (mPar u.1 i)))]) hx hb dX1_judgeFrom_90 hl (by decide) rfl (fun ls hl => ?_)
          refine lv_iload hx hb dX1_judgeFrom_92 (lv_at hl 0 rfl) ?_
          refine lv_if_eq (tgt := 153) hx hb dX1_judgeFrom_94 (by decide) (fun c_94 => ?_) (fun c_94 => ?_)
          · exact absurd c_94 (by decide)
          · refine lv_aload_n hx hb dX1_judgeFrom_97 rfl (lv_at hl 1 rfl) ?_
            refine k_get (v := .long (eL ((xNo X2) v))) X hK inX1 rfl hP (wC_n0 G ((u.1, X2)) hv) 12 (by decide) tw_1_98 rfl dX1_judgeFrom_98 ?_
            refine lv_iload_n hx hb dX1_judgeFrom_101 rfl (lv_at hl 3 rfl) ?_
            refine k_ci (k_runSN (As := [.long (eL ((xNo X2) v)), .int (nI i)]) (rest := []) X hK hP (m2_holds l G (AC G) (wC G) ((u.1, X2)) (eL ((xNo X2) v)) (k := i) (by omega)) ⟨rfl, rfl⟩ ntw_1_210 tw_1_211 tw_1_1 tw_1_212 ⟨by decide +kernel, by decide +kernel, (by decide +kernel : (parseMethodDescriptor yX2_holds.desc).map (fun d => d.parameters.length) = some 2)⟩ ⟨Nat.le_of_ble_eq_true rfl, Nat.le_of_ble_eq_true rfl⟩ hl.1 rfl (Nat.le_of_ble_eq_true rfl) ⟨Nat.zero_le _, Nat.zero_le _⟩ dX1_judgeFrom_102) hS (fun r_102 u_102 H locs hq_102 hP hS => ?_)
            have hP := k_su hq_102.2 hP
            refine k_ti (y := bI (xNo X2 v i)) (hq_102.1.trans (congrArg bI (tL_eL _ (by omega)))) ?_
            refine lv_if_ne (tgt := 153) hx hb dX1_judgeFrom_105 (by decide) (fun c_105 => ?_) (fun c_105 => ?_)
            · have c_105 : (xNo X2 v i) = true := (bI_ne0 _).mp c_105
              exact join_153 X2 (hi) (by rw [jStep, if_neg (Nat.ne_of_gt hi0), ← hX2, jNo, if_neg (fun h => by simp only [Bool.and_eq_true, decide_eq_true_eq, Bool.not_eq_true'] at h; first | (exact absurd h.1 (by omega)) | (rw [h.2.1] at c_105; exact absurd c_105 (by decide)) | (rw [h.2.2.1] at c_116; exact absurd c_116 (by decide)) | (rw [h.2.2.2] at c_127; exact absurd c_127 (by decide)))]) _ _ _ hP hS (lv_sub hl [1, 2, 3] rfl)
            · have c_105 : (xNo X2 v i) = false := (bI_eq0 _).mp c_105
              refine lv_aload_n hx hb dX1_judgeFrom_108 rfl (lv_at hl 1 rfl) ?_
              refine k_get (v := .long (eL ((xKn X2) v))) X hK inX1 rfl hP (wC_n0 G ((u.1, X2)) hv) 11 (by decide) tw_1_96 rfl dX1_judgeFrom_109 ?_
              refine lv_iload_n hx hb dX1_judgeFrom_112 rfl (lv_at hl 3 rfl) ?_
              refine k_ci (k_runSN (As := [.long (eL ((xKn X2) v)), .int (nI i)]) (rest := []) X hK hP (m2_holds l G (AC G) (wC G) ((u.1, X2)) (eL ((xKn X2) v)) (k := i) (by omega)) ⟨rfl, rfl⟩ ntw_1_210 tw_1_211 tw_1_1 tw_1_212 ⟨by decide +kernel, by decide +kernel, (by decide +kernel : (parseMethodDescriptor yX2_holds.desc).map (fun d => d.parameters.length) = some 2)⟩ ⟨Nat.le_of_ble_eq_true rfl, Nat.le_of_ble_eq_true rfl⟩ hl.1 rfl (Nat.le_of_ble_eq_true rfl) ⟨Nat.zero_le _, Nat.zero_le _⟩ dX1_judgeFrom_113) hS (fun r_113 u_113 H locs hq_113 hP hS => ?_)
              have hP := k_su hq_113.2 hP
              refine k_ti (y := bI (xKn X2 v i)) (hq_113.1.trans (congrArg bI (tL_eL _ (by omega)))) ?_
              refine lv_if_eq (tgt := 153) hx hb dX1_judgeFrom_116 (by decide) (fun c_116 => ?_) (fun c_116 => ?_)
              · have c_116 : (xKn X2 v i) = false := (bI_eq0 _).mp c_116
                exact join_153 X2 (hi) (by rw [jStep, if_neg (Nat.ne_of_gt hi0), ← hX2, jNo, if_neg (fun h => by simp only [Bool.and_eq_true, decide_eq_true_eq, Bool.not_eq_true'] at h; first | (exact absurd h.1 (by omega)) | (rw [h.2.1] at c_105; exact absurd c_105 (by decide)) | (rw [h.2.2.1] at c_116; exact absurd c_116 (by decide)) | (rw [h.2.2.2] at c_127; exact absurd c_127 (by decide)))]) _ _ _ hP hS (lv_sub hl [1, 2, 3] rfl)
              · have c_116 : (xKn X2 v i) = true := (bI_ne0 _).mp c_116
                refine lv_aload_n hx hb dX1_judgeFrom_119 rfl (lv_at hl 1 rfl) ?_
                refine k_get (v := .long (eL ((xNo X2) v))) X hK inX1 rfl hP (wC_n0 G ((u.1, X2)) hv) 12 (by decide) tw_1_98 rfl dX1_judgeFrom_120 ?_
                refine lv_iload_n hx hb dX1_judgeFrom_123 rfl (lv_at hl 4 rfl) ?_
                refine k_ci (k_runSN (As := [.long (eL ((xNo X2) v)), .int (nI (mPar u.1 i))]) (rest := []) X hK hP (m2_holds l G (AC G) (wC G) ((u.1, X2)) (eL ((xNo X2) v)) (k := mPar u.1 i) (by omega)) ⟨rfl, rfl⟩ ntw_1_210 tw_1_211 tw_1_1 tw_1_212 ⟨by decide +kernel, by decide +kernel, (by decide +kernel : (parseMethodDescriptor yX2_holds.desc).map (fun d => d.parameters.length) = some 2)⟩ ⟨Nat.le_of_ble_eq_true rfl, Nat.le_of_ble_eq_true rfl⟩ hl.1 rfl (Nat.le_of_ble_eq_true rfl) ⟨Nat.zero_le _, Nat.zero_le _⟩ dX1_judgeFrom_124) hS (fun r_124 u_124 H locs hq_124 hP hS => ?_)
                have hP := k_su hq_124.2 hP
                refine k_ti (y := bI (xNo X2 v (mPar u.1 i))) (hq_124.1.trans (congrArg bI (tL_eL _ (by omega)))) ?_
                refine lv_if_eq (tgt := 153) hx hb dX1_judgeFrom_127 (by decide) (fun c_127 => ?_) (fun c_127 => ?_)
                · have c_127 : (xNo X2 v (mPar u.1 i)) = false := (bI_eq0 _).mp c_127
                  exact join_153 X2 (hi) (by rw [jStep, if_neg (Nat.ne_of_gt hi0), ← hX2, jNo, if_neg (fun h => by simp only [Bool.and_eq_true, decide_eq_true_eq, Bool.not_eq_true'] at h; first | (exact absurd h.1 (by omega)) | (rw [h.2.1] at c_105; exact absurd c_105 (by decide)) | (rw [h.2.2.1] at c_116; exact absurd c_116 (by decide)) | (rw [h.2.2.2] at c_127; exact absurd c_127 (by decide)))]) _ _ _ hP hS (lv_sub hl [1, 2, 3] rfl)
                · have c_127 : (xNo X2 v (mPar u.1 i)) = true := (bI_ne0 _).mp c_127
                  refine lv_aload_n hx hb dX1_judgeFrom_130 rfl (lv_at hl 1 rfl) ?_
                  refine lv_dup hx hb dX1_judgeFrom_131 rfl ?_
                  refine k_get (v := .long (eL ((xNo X2) v))) X hK inX1 rfl hP (wC_n0 G ((u.1, X2)) hv) 12 (by decide) tw_1_98 rfl dX1_judgeFrom_132 ?_
                  refine lv_lconst (v := 1) hx hb dX1_judgeFrom_135 rfl ?_
                  refine lv_iload_n hx hb dX1_judgeFrom_136 rfl (lv_at hl 3 rfl) ?_
                  refine lv_lshl (v := (1 : Int64) <<< ((nI i).toInt64 &&& 63)) hx hb dX1_judgeFrom_137 rfl ?_
                  refine lv_lor hx hb dX1_judgeFrom_138 ?_
                  refine k_tl (eL_or (((xNo X2) v)) (by omega)) ?_
                  refine k_put (v := .long (eL (va_up (((xNo X2) v)) i true))) X hK inX1 rfl tyX1_ok nmX1 hP (wC_D hL _) hS (wC_n0 G ((u.1, X2)) hv) 12 (by decide) tw_1_98 rfl rfl rfl (Nat.le_of_ble_eq_true rfl) ((u.1, tNo X2 (up2 (xNo X2) v i true))) (cn_No G ((u.1, X2)) hv i true) dX1_judgeFrom_139 (fun H locs hP hS => ?_)
                  refine lv_aload_n hx hb dX1_judgeFrom_142 rfl (lv_at hl 1 rfl) ?_
                  refine lv_iload_n hx hb dX1_judgeFrom_143 rfl (lv_at hl 3 rfl) ?_
                  refine k_cv (k_runV (As := [.int (nI i)]) (rest := []) X hK hP (wC_n0 G ((u.1, tNo X2 (up2 (xNo X2) v i true))) hv) rfl (m1_raiseTip l G ((u.1, tNo X2 (up2 (xNo X2) v i true))) hL (ok_X hk (fun v => by first | (show xTp X2 v < mT u.1; rw [hX2, jKn_tp]; exact hTp v) | exact cTip_tp (by omega) (fun v => by show xTp X2 v < mT u.1; rw [hX2, jKn_tp]; exact hTp v) v) (fun v => by first | (show xHf X2 v < mT u.1; rw [hX2, jKn_hf]; exact hHf v) | (rw [cTip_hf]; show xHf X2 v < mT u.1; rw [hX2, jKn_hf]; exact hHf v))) (v := v) hv (b := i) (by omega)) ⟨rfl, rfl⟩ tw_1_219 tw_1_221 tw_0_8 tw_1_4 tw_1_222 ⟨by decide +kernel, by decide +kernel, (by decide +kernel : (parseMethodDescriptor yX1_raiseTip.desc).map (fun d => d.parameters.length) = some 1)⟩ ⟨Nat.le_of_ble_eq_true rfl, Nat.le_of_ble_eq_true rfl⟩ hl.1 rfl (Nat.le_of_ble_eq_true rfl) ⟨Nat.zero_le _, Nat.zero_le _⟩ dX1_judgeFrom_144) hS (fun u_144 H locs hq_144 hP hS => ?_)
                  have hP := k_su hq_144 hP
                  refine lv_aload_n hx hb dX1_judgeFrom_147 rfl (lv_at hl 1 rfl) ?_
                  refine lv_iload_n hx hb dX1_judgeFrom_148 rfl (lv_at hl 3 rfl) ?_
                  refine lv_iload_n hx hb dX1_judgeFrom_149 rfl (lv_at hl 4 rfl) ?_
                  refine k_cv (k_runV (As := [.int (nI i), .int (nI (mPar u.1 i))]) (rest := []) X hK hP (wC_n0 G ((u.1, cTip u.1 (tNo X2 (up2 (xNo X2) v i true)) v i)) hv) rfl (m1_makeFinalBelow l G ((u.1, cTip u.1 (tNo X2 (up2 (xNo X2) v i true)) v i)) hL (ok_X hk (fun v => by first | (show xTp X2 v < mT u.1; rw [hX2, jKn_tp]; exact hTp v) | exact cTip_tp (by omega) (fun v => by show xTp X2 v < mT u.1; rw [hX2, jKn_tp]; exact hTp v) v) (fun v => by first | (show xHf X2 v < mT u.1; rw [hX2, jKn_hf]; exact hHf v) | (rw [cTip_hf]; show xHf X2 v < mT u.1; rw [hX2, jKn_hf]; exact hHf v))) (v := v) hv (c0 := i) (q := (mPar u.1 i)) (by omega) (by omega)) ⟨rfl, rfl⟩ tw_1_223 tw_1_225 tw_0_9 tw_1_4 tw_1_226 ⟨by decide +kernel, by decide +kernel, (by decide +kernel : (parseMethodDescriptor yX1_makeFinalBelow.desc).map (fun d => d.parameters.length) = some 2)⟩ ⟨Nat.le_of_ble_eq_true rfl, Nat.le_of_ble_eq_true rfl⟩ hl.1 rfl (Nat.le_of_ble_eq_true rfl) ⟨Nat.zero_le _, Nat.zero_le _⟩ dX1_judgeFrom_150) hS (fun u_150 H locs hq_150 hP hS => ?_)
                  have hP := k_su hq_150 hP
                  exact join_153 ((cFin u.1 (cTip u.1 (tNo X2 (up2 (xNo X2) v i true)) v i) v i (mPar u.1 i))) (hi) (by rw [jStep, if_neg (Nat.ne_of_gt hi0), ← hX2, jNo, if_pos (by simp only [Bool.and_eq_true, decide_eq_true_eq, Bool.not_eq_true']; exact ⟨by omega, c_105, c_116, c_127⟩)]) _ _ _ hP hS (lv_sub hl [1, 2, 3] rfl)
      refine lv_iload_n hx hb dX1_judgeFrom_2 rfl (lv_at hl 2 rfl) ?_
      refine lv_aload_n hx hb dX1_judgeFrom_3 rfl (lv_at hl 0 rfl) ?_
      refine k_get (v := .ref (gL G 3)) X hK inX1 rfl hP (wC_n0 G ((u.1, X1)) hv) 2 (by decide) tw_1_82 rfl dX1_judgeFrom_4 ?_
      refine k_gn (v := .int (nI (mT u.1))) X hK inX0 rfl hP (wC_g G ((u.1, X1)) (k := 3) (by decide)) 7 (by decide) ntw_1_48 rfl dX1_judgeFrom_7 ?_
      refine lv_icmp_ge (tgt := 159) hx hb dX1_judgeFrom_10 (by decide) (fun c_10 => ?_) (fun c_10 => ?_)
      · have c_10 : (mT u.1) ≤ i := cLe c_10 (by omega) (by omega)
        exact k_retv X hr hlocks hP hS dX1_judgeFrom_159 (by rw [judge, show mT u.1 - c0 = i - c0 by omega, ← hX1])
      · have c_10 : i < (mT u.1) := cNle c_10 (by omega) (by omega)
        have hi : i < mT u.1 := c_10
        refine lv_aload_n hx hb dX1_judgeFrom_13 rfl (lv_at hl 0 rfl) ?_
        refine k_get (v := .ref (gL G 3)) X hK inX1 rfl hP (wC_n0 G ((u.1, X1)) hv) 2 (by decide) tw_1_82 rfl dX1_judgeFrom_14 ?_
        refine k_gn (v := .ref (gL G 4)) X hK inX0 rfl hP (wC_g G ((u.1, X1)) (k := 3) (by decide)) 0 (by decide) ntw_1_30 rfl dX1_judgeFrom_17 ?_
        refine lv_iload_n hx hb dX1_judgeFrom_20 rfl (lv_at hl 2 rfl) ?_
        refine k_ild (v := eP (mPar u.1) i) X hK hP (wC_g G ((u.1, X1)) (k := 4) (by decide)) (by omega) (by decide) rfl dX1_judgeFrom_21 ?_
        rcases Nat.eq_zero_or_pos i with hi0 | hi0
        · refine k_ti (show eP (mPar u.1) i = -1 by rw [hi0]; rfl) ?_
          refine lv_istore_n (lv' := [(3, .int (-1)), (0, .ref (gL G (11 + 5 * v))), (1, .int (nI c0)), (2, .int (nI i))]) hx hb dX1_judgeFrom_22 rfl hl (by decide) rfl (fun ls hl => ?_)
          refine lv_iload_n hx hb dX1_judgeFrom_23 rfl (lv_at hl 0 rfl) ?_
          refine lv_iconst (v := -1) hx hb dX1_judgeFrom_24 (by decide) ?_
          refine lv_icmp_ne (tgt := 31) hx hb dX1_judgeFrom_25 (by decide) (fun c_25 => ?_) (fun c_25 => ?_)
          · exact absurd rfl c_25
          · refine lv_goto (tgt := 153) hx hb dX1_judgeFrom_28 (by decide) ?_
            exact join_153 X1 (hi) (by rw [jStep, if_pos hi0]) _ _ _ hP hS (lv_sub hl [1, 2, 3] rfl)
        · refine k_ti (eP_pos hi0) ?_
          have hpi := kPar i hi0
          refine lv_istore_n (lv' := [(3, .int (nI (mPar u.1 i))), (0, .ref (gL G (11 + 5 * v))), (1, .int (nI c0)), (2, .int (nI i))]) hx hb dX1_judgeFrom_22 rfl hl (by decide) rfl (fun ls hl => ?_)
          refine lv_iload_n hx hb dX1_judgeFrom_23 rfl (lv_at hl 0 rfl) ?_
          refine lv_iconst (v := -1) hx hb dX1_judgeFrom_24 (by decide) ?_
          refine lv_icmp_ne (tgt := 31) hx hb dX1_judgeFrom_25 (by decide) (fun c_25 => ?_) (fun c_25 => ?_)
          · refine lv_aload_n hx hb dX1_judgeFrom_31 rfl (lv_at hl 1 rfl) ?_
            refine k_get (v := .long (eL (pB (mHs u.1) v))) X hK inX1 rfl hP (wC_n0 G ((u.1, X1)) hv) 5 (by decide) tw_1_85 rfl dX1_judgeFrom_32 ?_
            refine lv_iload_n hx hb dX1_judgeFrom_35 rfl (lv_at hl 3 rfl) ?_
            refine k_ci (k_runSN (As := [.long (eL (pB (mHs u.1) v)), .int (nI i)]) (rest := []) X hK hP (m2_holds l G (AC G) (wC G) ((u.1, X1)) (eL (pB (mHs u.1) v)) (k := i) (by omega)) ⟨rfl, rfl⟩ ntw_1_210 tw_1_211 tw_1_1 tw_1_212 ⟨by decide +kernel, by decide +kernel, (by decide +kernel : (parseMethodDescriptor yX2_holds.desc).map (fun d => d.parameters.length) = some 2)⟩ ⟨Nat.le_of_ble_eq_true rfl, Nat.le_of_ble_eq_true rfl⟩ hl.1 rfl (Nat.le_of_ble_eq_true rfl) ⟨Nat.zero_le _, Nat.zero_le _⟩ dX1_judgeFrom_36) hS (fun r_36 u_36 H locs hq_36 hP hS => ?_)
            have hP := k_su hq_36.2 hP
            refine k_ti (y := bI (mHs u.1 (11 * i) v)) (hq_36.1.trans (congrArg bI (tL_eL _ (by omega)))) ?_
            refine lv_if_eq (tgt := 65) hx hb dX1_judgeFrom_39 (by decide) (fun c_39 => ?_) (fun c_39 => ?_)
            · have c_39 : (mHs u.1 (11 * i) v) = false := (bI_eq0 _).mp c_39
              exact join_65 X1 (hi) (hi0) (hpi) (by rw [jKn, if_neg (fun h => by simp only [Bool.and_eq_true] at h; first | (rw [h.1] at c_39; exact absurd c_39 (by decide)) | (rw [h.2] at c_50; exact absurd c_50 (by decide)))]) _ _ _ hP hS (lv_sub hl [1, 2, 3, 0] rfl)
            · have c_39 : (mHs u.1 (11 * i) v) = true := (bI_ne0 _).mp c_39
              refine lv_aload_n hx hb dX1_judgeFrom_42 rfl (lv_at hl 1 rfl) ?_
              refine k_get (v := .long (eL ((xKn X1) v))) X hK inX1 rfl hP (wC_n0 G ((u.1, X1)) hv) 11 (by decide) tw_1_96 rfl dX1_judgeFrom_43 ?_
              refine lv_iload_n hx hb dX1_judgeFrom_46 rfl (lv_at hl 0 rfl) ?_
              refine k_ci (k_runSN (As := [.long (eL ((xKn X1) v)), .int (nI (mPar u.1 i))]) (rest := []) X hK hP (m2_holds l G (AC G) (wC G) ((u.1, X1)) (eL ((xKn X1) v)) (k := mPar u.1 i) (by omega)) ⟨rfl, rfl⟩ ntw_1_210 tw_1_211 tw_1_1 tw_1_212 ⟨by decide +kernel, by decide +kernel, (by decide +kernel : (parseMethodDescriptor yX2_holds.desc).map (fun d => d.parameters.length) = some 2)⟩ ⟨Nat.le_of_ble_eq_true rfl, Nat.le_of_ble_eq_true rfl⟩ hl.1 rfl (Nat.le_of_ble_eq_true rfl) ⟨Nat.zero_le _, Nat.zero_le _⟩ dX1_judgeFrom_47) hS (fun r_47 u_47 H locs hq_47 hP hS => ?_)
              have hP := k_su hq_47.2 hP
              refine k_ti (y := bI (xKn X1 v (mPar u.1 i))) (hq_47.1.trans (congrArg bI (tL_eL _ (by omega)))) ?_
              refine lv_if_eq (tgt := 65) hx hb dX1_judgeFrom_50 (by decide) (fun c_50 => ?_) (fun c_50 => ?_)
              · have c_50 : (xKn X1 v (mPar u.1 i)) = false := (bI_eq0 _).mp c_50
                exact join_65 X1 (hi) (hi0) (hpi) (by rw [jKn, if_neg (fun h => by simp only [Bool.and_eq_true] at h; first | (rw [h.1] at c_39; exact absurd c_39 (by decide)) | (rw [h.2] at c_50; exact absurd c_50 (by decide)))]) _ _ _ hP hS (lv_sub hl [1, 2, 3, 0] rfl)
              · have c_50 : (xKn X1 v (mPar u.1 i)) = true := (bI_ne0 _).mp c_50
                refine lv_aload_n hx hb dX1_judgeFrom_53 rfl (lv_at hl 1 rfl) ?_
                refine lv_dup hx hb dX1_judgeFrom_54 rfl ?_
                refine k_get (v := .long (eL ((xKn X1) v))) X hK inX1 rfl hP (wC_n0 G ((u.1, X1)) hv) 11 (by decide) tw_1_96 rfl dX1_judgeFrom_55 ?_
                refine lv_lconst (v := 1) hx hb dX1_judgeFrom_58 rfl ?_
                refine lv_iload_n hx hb dX1_judgeFrom_59 rfl (lv_at hl 3 rfl) ?_
                refine lv_lshl (v := (1 : Int64) <<< ((nI i).toInt64 &&& 63)) hx hb dX1_judgeFrom_60 rfl ?_
                refine lv_lor hx hb dX1_judgeFrom_61 ?_
                refine k_tl (eL_or (((xKn X1) v)) (by omega)) ?_
                refine k_put (v := .long (eL (va_up (((xKn X1) v)) i true))) X hK inX1 rfl tyX1_ok nmX1 hP (wC_D hL _) hS (wC_n0 G ((u.1, X1)) hv) 11 (by decide) tw_1_96 rfl rfl rfl (Nat.le_of_ble_eq_true rfl) ((u.1, tKn X1 (up2 (xKn X1) v i true))) (cn_Kn G ((u.1, X1)) hv i true) dX1_judgeFrom_62 (fun H locs hP hS => ?_)
                exact join_65 ((tKn X1 (up2 (xKn X1) v i true))) (hi) (hi0) (hpi) (by rw [jKn, if_pos (by simp only [Bool.and_eq_true]; exact ⟨c_39, c_50⟩)]) _ _ _ hP hS (lv_sub hl [1, 2, 3, 0] rfl)
          · exact absurd c_25 (m1_ne (by omega))
  exact loop_2 _ c0 u.2 rfl (Nat.le_refl _) (hc0) (by rw [Nat.sub_self]; rfl) (kTp) (kHf) _ _ _ hP hS (lv_sub hl [1, 2, 0] rfl)

set_option maxHeartbeats 4000000 in
set_option maxRecDepth 100000 in
theorem m1_haveProposal (l : Launch) (G : kG) (u : CS) (hL : lay G) (hk : okC G u) {v : Nat} (hv : v < gn G) {b : Nat} (hb0 : 0 < b) (hbT : b < mT u.1) : KMv l G (AC G) (wC G) yX1_haveProposal cX1_haveProposal 3 (Option.none : Option FieldType) ({ frames := 2, cells := 0, slots := 0, locals := 48 }) [.ref (gL G (11 + 5 * v)), .int (nI b)] u (fun u' => u' = cHaveP (gn G) u v b) := by
  refine K_of (by decide) (Nat.le_of_ble_eq_true rfl) ?_
  intro p e s m below meth c X hr hlocks hnm hK hP ls hl
  have hx := X.1
  have hb := X.2.1
  have hown := X.2.2.2.1
  have hts := X.2.2.2.2
  have hS : va_S (AC G) s.heap s.heap [] := va_S.rf
  have hl : lv_has ls 3 [(0, .ref (gL G (11 + 5 * v))), (1, .int (nI b))] := hl
  obtain ⟨kn4, kn10, kT1, kT61, kP40, kLd, kPar, kEp, kHt, kFc, kVf, kTp, kHf⟩ := id hk
  refine lv_aload_n hx hb dX1_haveProposal_0 rfl (lv_at hl 0 rfl) ?_
  refine lv_dup hx hb dX1_haveProposal_1 rfl ?_
  refine k_get (v := .long (eL (pB (mHs u.1) v))) X hK inX1 rfl hP (wC_n0 G u hv) 5 (by decide) tw_1_85 rfl dX1_haveProposal_2 ?_
  refine lv_lconst (v := 1) hx hb dX1_haveProposal_5 rfl ?_
  refine lv_iload_n hx hb dX1_haveProposal_6 rfl (lv_at hl 1 rfl) ?_
  refine lv_lshl (v := (1 : Int64) <<< ((nI b).toInt64 &&& 63)) hx hb dX1_haveProposal_7 rfl ?_
  refine lv_lor hx hb dX1_haveProposal_8 ?_
  refine k_tl (eL_or ((pB (mHs u.1) v)) (by omega)) ?_
  refine k_put (v := .long (eL (va_up ((pB (mHs u.1) v)) b true))) X hK inX1 rfl tyX1_ok nmX1 hP (wC_D hL _) hS (wC_n0 G u hv) 5 (by decide) tw_1_85 rfl rfl rfl (Nat.le_of_ble_eq_true rfl) ((sHs u.1 (up2 (mHs u.1) (11 * b) v true), u.2)) (cn_Hs G u hv b true) dX1_haveProposal_9 (fun H locs hP hS => ?_)
  refine lv_aload_n hx hb dX1_haveProposal_12 rfl (lv_at hl 0 rfl) ?_
  refine lv_dup hx hb dX1_haveProposal_13 rfl ?_
  refine k_get (v := .long (eL (pB (mWy u.1) v))) X hK inX1 rfl hP (wC_n0 G ((sHs u.1 (up2 (mHs u.1) (11 * b) v true), u.2)) hv) 6 (by decide) tw_1_87 rfl dX1_haveProposal_14 ?_
  refine lv_lconst (v := 1) hx hb dX1_haveProposal_17 rfl ?_
  refine lv_iload_n hx hb dX1_haveProposal_18 rfl (lv_at hl 1 rfl) ?_
  refine lv_lshl (v := (1 : Int64) <<< ((nI b).toInt64 &&& 63)) hx hb dX1_haveProposal_19 rfl ?_
  refine lv_ldc2 (v := -1) hx hb hown (hts _ tw_1_205) dX1_haveProposal_20 ?_
  refine lv_lxor hx hb dX1_haveProposal_23 ?_
  refine lv_land hx hb dX1_haveProposal_24 ?_
  refine k_tl (eL_clr ((pB (mWy u.1) v)) (by omega)) ?_
  refine k_put (v := .long (eL (va_up ((pB (mWy u.1) v)) b false))) X hK inX1 rfl tyX1_ok nmX1 hP (wC_D hL _) hS (wC_n0 G ((sHs u.1 (up2 (mHs u.1) (11 * b) v true), u.2)) hv) 6 (by decide) tw_1_87 rfl rfl rfl (Nat.le_of_ble_eq_true rfl) ((sWy (sHs u.1 (up2 (mHs u.1) (11 * b) v true)) (up2 (mWy u.1) (11 * b) v false), u.2)) (cn_Wy G ((sHs u.1 (up2 (mHs u.1) (11 * b) v true), u.2)) hv b false) dX1_haveProposal_25 (fun H locs hP hS => ?_)
  refine lv_aload_n hx hb dX1_haveProposal_28 rfl (lv_at hl 0 rfl) ?_
  refine k_get (v := .ref (gL G 3)) X hK inX1 rfl hP (wC_n0 G ((sWy (sHs u.1 (up2 (mHs u.1) (11 * b) v true)) (up2 (mWy u.1) (11 * b) v false), u.2)) hv) 2 (by decide) tw_1_82 rfl dX1_haveProposal_29 ?_
  refine k_gn (v := .ref (gL G 5)) X hK inX0 rfl hP (wC_g G ((sWy (sHs u.1 (up2 (mHs u.1) (11 * b) v true)) (up2 (mWy u.1) (11 * b) v false), u.2)) (k := 3) (by decide)) 1 (by decide) ntw_1_33 rfl dX1_haveProposal_32 ?_
  refine lv_iload_n hx hb dX1_haveProposal_35 rfl (lv_at hl 1 rfl) ?_
  refine k_ild (v := nI (mEp u.1 b)) X hK hP (wC_g G ((sWy (sHs u.1 (up2 (mHs u.1) (11 * b) v true)) (up2 (mWy u.1) (11 * b) v false), u.2)) (k := 5) (by decide)) (by omega) (by decide) rfl dX1_haveProposal_36 ?_
  have hEb := kEp b
  refine lv_istore_n (lv' := [(2, .int (nI (mEp u.1 b))), (0, .ref (gL G (11 + 5 * v))), (1, .int (nI b))]) hx hb dX1_haveProposal_37 rfl hl (by decide) rfl (fun ls hl => ?_)
  refine lv_aload_n hx hb dX1_haveProposal_38 rfl (lv_at hl 1 rfl) ?_
  refine k_get (v := .ref (gL G (14 + 5 * v))) X hK inX1 rfl hP (wC_n0 G ((sWy (sHs u.1 (up2 (mHs u.1) (11 * b) v true)) (up2 (mWy u.1) (11 * b) v false), u.2)) hv) 9 (by decide) tw_1_93 rfl dX1_haveProposal_39 ?_
  refine lv_iload_n hx hb dX1_haveProposal_42 rfl (lv_at hl 0 rfl) ?_
  refine k_ild (v := oI (mFc u.1 v (mEp u.1 b))) X hK hP (wC_n3 G ((sWy (sHs u.1 (up2 (mHs u.1) (11 * b) v true)) (up2 (mWy u.1) (11 * b) v false), u.2)) hv) (by omega) (by decide) rfl dX1_haveProposal_43 ?_
  rcases Nat.eq_zero_or_pos (mFc u.1 v (mEp u.1 b)) with hFz | hFz
  · refine k_ti (show oI (mFc u.1 v (mEp u.1 b)) = -1 by rw [hFz]; rfl) ?_
    refine lv_iconst (v := -1) hx hb dX1_haveProposal_44 (by decide) ?_
    have hFb := kFc v (mEp u.1 b)
    refine lv_icmp_ne (tgt := 55) hx hb dX1_haveProposal_45 (by decide) (fun c_45 => ?_) (fun c_45 => ?_)
    · exact absurd rfl c_45
    · refine lv_aload_n hx hb dX1_haveProposal_48 rfl (lv_at hl 1 rfl) ?_
      refine k_get (v := .ref (gL G (14 + 5 * v))) X hK inX1 rfl hP (wC_n0 G ((sWy (sHs u.1 (up2 (mHs u.1) (11 * b) v true)) (up2 (mWy u.1) (11 * b) v false), u.2)) hv) 9 (by decide) tw_1_93 rfl dX1_haveProposal_49 ?_
      refine lv_iload_n hx hb dX1_haveProposal_52 rfl (lv_at hl 0 rfl) ?_
      refine lv_iload_n hx hb dX1_haveProposal_53 rfl (lv_at hl 2 rfl) ?_
      refine k_ti (oI_pos hb0) ?_
      refine k_ist (x := oI b) X hK hP (wC_D hL _) hS (wC_n3 G ((sWy (sHs u.1 (up2 (mHs u.1) (11 * b) v true)) (up2 (mWy u.1) (11 * b) v false), u.2)) hv) (by omega) (by decide) ((sFc (sWy (sHs u.1 (up2 (mHs u.1) (11 * b) v true)) (up2 (mWy u.1) (11 * b) v false)) (up2 (mFc u.1) v (mEp u.1 b) b), u.2)) (cn_fc G ((sWy (sHs u.1 (up2 (mHs u.1) (11 * b) v true)) (up2 (mWy u.1) (11 * b) v false), u.2)) hv (mEp u.1 b) b) dX1_haveProposal_54 (fun H locs hP hS => ?_)
      refine lv_aload_n hx hb dX1_haveProposal_55 rfl (lv_at hl 1 rfl) ?_
      refine lv_iload_n hx hb dX1_haveProposal_56 rfl (lv_at hl 2 rfl) ?_
      refine k_cv (k_runV (As := [.int (nI b)]) (rest := []) X hK hP (wC_n0 G ((sFc (sWy (sHs u.1 (up2 (mHs u.1) (11 * b) v true)) (up2 (mWy u.1) (11 * b) v false)) (up2 (mFc u.1) v (mEp u.1 b) b), u.2)) hv) rfl (m1_judgeFrom l G ((sFc (sWy (sHs u.1 (up2 (mHs u.1) (11 * b) v true)) (up2 (mWy u.1) (11 * b) v false)) (up2 (mFc u.1) v (mEp u.1 b) b), u.2)) hL (ok_Fc (u := (sWy (sHs u.1 (up2 (mHs u.1) (11 * b) v true)) (up2 (mWy u.1) (11 * b) v false), u.2)) hk (by omega)) (v := v) hv (c0 := b) (show b ≤ mT u.1 by omega)) ⟨rfl, rfl⟩ tw_1_206 tw_1_208 tw_0_7 tw_1_4 tw_1_209 ⟨by decide +kernel, by decide +kernel, (by decide +kernel : (parseMethodDescriptor yX1_judgeFrom.desc).map (fun d => d.parameters.length) = some 1)⟩ ⟨Nat.le_of_ble_eq_true rfl, Nat.le_of_ble_eq_true rfl⟩ hl.1 rfl (Nat.le_of_ble_eq_true rfl) ⟨Nat.zero_le _, Nat.zero_le _⟩ dX1_haveProposal_57) hS (fun u_57 H locs hq_57 hP hS => ?_)
      have hP := k_su hq_57 hP
      exact k_retv X hr hlocks hP hS dX1_haveProposal_60 (by rw [cHaveP, mHaveP, if_pos hFz])
  · refine k_ti (oI_pos hFz).symm ?_
    refine lv_iconst (v := -1) hx hb dX1_haveProposal_44 (by decide) ?_
    have hFb := kFc v (mEp u.1 b)
    refine lv_icmp_ne (tgt := 55) hx hb dX1_haveProposal_45 (by decide) (fun c_45 => ?_) (fun c_45 => ?_)
    · refine lv_aload_n hx hb dX1_haveProposal_55 rfl (lv_at hl 1 rfl) ?_
      refine lv_iload_n hx hb dX1_haveProposal_56 rfl (lv_at hl 2 rfl) ?_
      refine k_cv (k_runV (As := [.int (nI b)]) (rest := []) X hK hP (wC_n0 G ((sWy (sHs u.1 (up2 (mHs u.1) (11 * b) v true)) (up2 (mWy u.1) (11 * b) v false), u.2)) hv) rfl (m1_judgeFrom l G ((sWy (sHs u.1 (up2 (mHs u.1) (11 * b) v true)) (up2 (mWy u.1) (11 * b) v false), u.2)) hL (hk) (v := v) hv (c0 := b) (show b ≤ mT u.1 by omega)) ⟨rfl, rfl⟩ tw_1_206 tw_1_208 tw_0_7 tw_1_4 tw_1_209 ⟨by decide +kernel, by decide +kernel, (by decide +kernel : (parseMethodDescriptor yX1_judgeFrom.desc).map (fun d => d.parameters.length) = some 1)⟩ ⟨Nat.le_of_ble_eq_true rfl, Nat.le_of_ble_eq_true rfl⟩ hl.1 rfl (Nat.le_of_ble_eq_true rfl) ⟨Nat.zero_le _, Nat.zero_le _⟩ dX1_haveProposal_57) hS (fun u_57 H locs hq_57 hP hS => ?_)
      have hP := k_su hq_57 hP
      exact k_retv X hr hlocks hP hS dX1_haveProposal_60 (by rw [cHaveP, mHaveP, if_neg (Nat.ne_of_gt hFz)])
    · exact absurd c_45 (m1_ne (by omega))

set_option maxHeartbeats 4000000 in
set_option maxRecDepth 100000 in
theorem m1_haveVote (l : Launch) (G : kG) (u : CS) (hL : lay G) (hk : okC G u) {v : Nat} (hv : v < gn G) {b x : Nat} (hb0 : 0 < b) (hbT : b < mT u.1) (hxx : x < 10) : KMv l G (AC G) (wC G) yX1_haveVote cX1_haveVote 3 (Option.none : Option FieldType) ({ frames := 2, cells := 0, slots := 0, locals := 48 }) [.ref (gL G (11 + 5 * v)), .int (nI x), .int (nI b)] u (fun u' => u' = cHaveV (gn G) u v x b) := by
  refine K_of (by decide) (Nat.le_of_ble_eq_true rfl) ?_
  intro p e s m below meth c X hr hlocks hnm hK hP ls hl
  have hx := X.1
  have hb := X.2.1
  have hown := X.2.2.2.1
  have hts := X.2.2.2.2
  have hS : va_S (AC G) s.heap s.heap [] := va_S.rf
  have hl : lv_has ls 3 [(0, .ref (gL G (11 + 5 * v))), (1, .int (nI x)), (2, .int (nI b))] := hl
  obtain ⟨kn4, kn10, kT1, kT61, kP40, kLd, kPar, kEp, kHt, kFc, kVf, kTp, kHf⟩ := id hk
  refine lv_aload_n hx hb dX1_haveVote_0 rfl (lv_at hl 0 rfl) ?_
  refine k_get (v := .ref (gL G (12 + 5 * v))) X hK inX1 rfl hP (wC_n0 G u hv) 7 (by decide) tw_1_89 rfl dX1_haveVote_1 ?_
  refine lv_iload_n hx hb dX1_haveVote_4 rfl (lv_at hl 2 rfl) ?_
  refine lv_dup2_11 hx hb dX1_haveVote_5 rfl rfl ?_
  refine k_ild (v := eI (vB (mHs u.1) b v)) X hK hP (wC_n1 G u hv) (by omega) (by decide) rfl dX1_haveVote_6 ?_
  refine lv_iconst (v := nI 1) hx hb dX1_haveVote_7 (by decide) ?_
  refine lv_iload_n hx hb dX1_haveVote_8 rfl (lv_at hl 1 rfl) ?_
  refine lv_ishl hx hb dX1_haveVote_9 ?_
  refine k_ti (show nI 1 <<< (nI x &&& 31) = (1 : Int32) <<< (nI x &&& 31) from rfl) ?_
  refine lv_ior hx hb dX1_haveVote_10 ?_
  refine k_ti (eI_or (vB (mHs u.1) b v) (by omega)) ?_
  refine k_ist (x := eI (va_up (vB (mHs u.1) b v) x true)) X hK hP (wC_D hL _) hS (wC_n1 G u hv) (by omega) (by decide) ((sHs u.1 (up2 (mHs u.1) (11 * b + 1 + x) v true), u.2)) (cn_vo G u hv (b := b) (x := x) (by omega) true) dX1_haveVote_11 (fun H locs hP hS => ?_)
  refine lv_aload_n hx hb dX1_haveVote_12 rfl (lv_at hl 0 rfl) ?_
  refine k_get (v := .ref (gL G (13 + 5 * v))) X hK inX1 rfl hP (wC_n0 G ((sHs u.1 (up2 (mHs u.1) (11 * b + 1 + x) v true), u.2)) hv) 8 (by decide) tw_1_91 rfl dX1_haveVote_13 ?_
  refine lv_iload_n hx hb dX1_haveVote_16 rfl (lv_at hl 2 rfl) ?_
  refine lv_dup2_11 hx hb dX1_haveVote_17 rfl rfl ?_
  refine k_ild (v := eI (vB (mWy u.1) b v)) X hK hP (wC_n2 G ((sHs u.1 (up2 (mHs u.1) (11 * b + 1 + x) v true), u.2)) hv) (by omega) (by decide) rfl dX1_haveVote_18 ?_
  refine lv_iconst (v := nI 1) hx hb dX1_haveVote_19 (by decide) ?_
  refine lv_iload_n hx hb dX1_haveVote_20 rfl (lv_at hl 1 rfl) ?_
  refine lv_ishl hx hb dX1_haveVote_21 ?_
  refine k_ti (show nI 1 <<< (nI x &&& 31) = (1 : Int32) <<< (nI x &&& 31) from rfl) ?_
  refine lv_iconst (v := -1) hx hb dX1_haveVote_22 (by decide) ?_
  refine lv_ixor hx hb dX1_haveVote_23 ?_
  refine lv_iand hx hb dX1_haveVote_24 ?_
  refine k_ti (eI_clr (vB (mWy u.1) b v) (by omega)) ?_
  refine k_ist (x := eI (va_up (vB (mWy u.1) b v) x false)) X hK hP (wC_D hL _) hS (wC_n2 G ((sHs u.1 (up2 (mHs u.1) (11 * b + 1 + x) v true), u.2)) hv) (by omega) (by decide) ((sWy (sHs u.1 (up2 (mHs u.1) (11 * b + 1 + x) v true)) (up2 (mWy u.1) (11 * b + 1 + x) v false), u.2)) (cn_vw G ((sHs u.1 (up2 (mHs u.1) (11 * b + 1 + x) v true), u.2)) hv (b := b) (x := x) (by omega) false) dX1_haveVote_25 (fun H locs hP hS => ?_)
  refine lv_aload_n hx hb dX1_haveVote_26 rfl (lv_at hl 0 rfl) ?_
  refine lv_iload_n hx hb dX1_haveVote_27 rfl (lv_at hl 2 rfl) ?_
  refine k_cv (k_runV (As := [.int (nI b)]) (rest := []) X hK hP (wC_n0 G ((sWy (sHs u.1 (up2 (mHs u.1) (11 * b + 1 + x) v true)) (up2 (mWy u.1) (11 * b + 1 + x) v false), u.2)) hv) rfl (m1_judgeFrom l G ((sWy (sHs u.1 (up2 (mHs u.1) (11 * b + 1 + x) v true)) (up2 (mWy u.1) (11 * b + 1 + x) v false), u.2)) hL (hk) (v := v) hv (c0 := b) (show b ≤ mT u.1 by omega)) ⟨rfl, rfl⟩ tw_1_206 tw_1_208 tw_0_7 tw_1_4 tw_1_209 ⟨by decide +kernel, by decide +kernel, (by decide +kernel : (parseMethodDescriptor yX1_judgeFrom.desc).map (fun d => d.parameters.length) = some 1)⟩ ⟨Nat.le_of_ble_eq_true rfl, Nat.le_of_ble_eq_true rfl⟩ hl.1 rfl (Nat.le_of_ble_eq_true rfl) ⟨Nat.zero_le _, Nat.zero_le _⟩ dX1_haveVote_28) hS (fun u_28 H locs hq_28 hP hS => ?_)
  have hP := k_su hq_28 hP
  exact k_retv X hr hlocks hP hS dX1_haveVote_31 rfl
end
section
/-! letters: what the class's own methods do, as functions of the state -/
def sndM (M : MS) (l : Nat) (to : Int32) : Nat → MS
  | 0 => M
  | k + 1 => if tI to k then mExp (sndM M l to k) l k else sndM M l to k
def sndC (M : MS) (l : Nat) (to : Int32) : Nat → Nat
  | 0 => 0
  | k + 1 => sndC M l to k + (if tI to k && newL (sndM M l to k) l k then 1 else 0)
def cSendAll (n : Nat) (u : CS) (l : Nat) : CS := (sndM u.1 l (nI (2 ^ n - 1)) n, u.2)
def cTakeP (n : Nat) (u : CS) (v b : Nat) : CS := if mFa u.1 v then cHaveP n u v b else cSendAll n (cHaveP n u v b) (11 * b)
def cTakeV (n : Nat) (u : CS) (v x b : Nat) : CS := if mFa u.1 v then cHaveV n u v x b else cSendAll n (cHaveV n u v x b) (11 * b + 1 + x)
def cCh (u : CS) (v : Nat) : Nat := if mFa u.1 v then 0 else cChoice u.1 u.2 v (mP u.1)
def cVote (n : Nat) (u : CS) (v ch : Nat) : CS := cSendAll n (cHaveV n (sG (sVf u.1 (up2 (mVf u.1) v (mP u.1) ch)) (mG u.1 + 1), u.2) v v ch) (11 * ch + 1 + v)
def cLook (n : Nat) (u : CS) (v : Nat) : CS := if cCh u v = 0 then u else cVote n u v (cCh u v)
def cUp (u : CS) : CS := (sC u.1 (mC u.1 + 1), u.2)
def cLetP (n : Nat) (u : CS) (v b : Nat) : CS := cLook n (cTakeP n (cUp u) v b) v
def cLetV (n : Nat) (u : CS) (v x b : Nat) : CS := cLook n (cTakeV n (cUp u) v x b) v
def fV (n v b : Nat) (u : CS) : Nat → CS
  | 0 => u
  | k + 1 => if mWy (fV n v b u k).1 (11 * b + 1 + k) v then cLetV n (fV n v b u k) v k b else fV n v b u k
def fP (n v b : Nat) (u : CS) : CS := if mWy u.1 (11 * b) v then cLetP n u v b else u
def fB (n v : Nat) (u : CS) : Nat → CS
  | 0 => u
  | k + 1 => fV n v (k + 1) (fP n v (k + 1) (fB n v u k)) n
def cFlow (n : Nat) (u : CS) (v : Nat) : CS := fB n v u (mT u.1 - 1)
/-- what stays as it is while letters come -/
def stat (M : MS) : Nat × Nat × (Nat → Nat) × (Nat → Nat) × (Nat → Nat) × (Nat → Int32) × (Nat → Nat) × (Nat → Nat) × (Nat → Bool) × (Nat → Int32) := (mT M, mP M, mLd M, mPar M, mEp M, mLo M, mHt M, mMk M, mFa M, mWi M)
theorem stat_T {M N : MS} (h : stat M = stat N) : mT M = mT N := congrArg (fun q => q.1) h
theorem stat_P {M N : MS} (h : stat M = stat N) : mP M = mP N := congrArg (fun q => q.2.1) h
theorem stat_Ld {M N : MS} (h : stat M = stat N) : mLd M = mLd N := congrArg (fun q => q.2.2.1) h
theorem stat_Par {M N : MS} (h : stat M = stat N) : mPar M = mPar N := congrArg (fun q => q.2.2.2.1) h
theorem stat_Ep {M N : MS} (h : stat M = stat N) : mEp M = mEp N := congrArg (fun q => q.2.2.2.2.1) h
theorem stat_Lo {M N : MS} (h : stat M = stat N) : mLo M = mLo N := congrArg (fun q => q.2.2.2.2.2.1) h
theorem stat_Ht {M N : MS} (h : stat M = stat N) : mHt M = mHt N := congrArg (fun q => q.2.2.2.2.2.2.1) h
theorem stat_Mk {M N : MS} (h : stat M = stat N) : mMk M = mMk N := congrArg (fun q => q.2.2.2.2.2.2.2.1) h
theorem stat_Fa {M N : MS} (h : stat M = stat N) : mFa M = mFa N := congrArg (fun q => q.2.2.2.2.2.2.2.2.1) h
theorem stat_Wi {M N : MS} (h : stat M = stat N) : mWi M = mWi N := congrArg (fun q => q.2.2.2.2.2.2.2.2.2) h
theorem st_exp (M : MS) (l v : Nat) : stat (mExp M l v) = stat M := by unfold mExp; split <;> rfl
theorem st_snd (M : MS) (l : Nat) (to : Int32) (k : Nat) : stat (sndM M l to k) = stat M := by
  induction k with
  | zero => rfl
  | succ k ih => unfold sndM; split <;> first | (rw [st_exp]; exact ih) | exact ih
theorem st_haveP (M : MS) (v b : Nat) : stat (mHaveP M v b) = stat M := by unfold mHaveP; split <;> rfl
theorem st_haveV (M : MS) (v x b : Nat) : stat (mHaveV M v x b) = stat M := rfl
theorem st_cHaveP (n : Nat) (u : CS) (v b : Nat) : stat (cHaveP n u v b).1 = stat u.1 := st_haveP u.1 v b
theorem st_cHaveV (n : Nat) (u : CS) (v x b : Nat) : stat (cHaveV n u v x b).1 = stat u.1 := rfl
theorem st_sendAll (n : Nat) (u : CS) (l : Nat) : stat (cSendAll n u l).1 = stat u.1 := st_snd _ _ _ _
theorem st_takeP (n : Nat) (u : CS) (v b : Nat) : stat (cTakeP n u v b).1 = stat u.1 := by
  unfold cTakeP; split
  · exact st_cHaveP n u v b
  · rw [st_sendAll]; exact st_cHaveP n u v b
theorem st_takeV (n : Nat) (u : CS) (v x b : Nat) : stat (cTakeV n u v x b).1 = stat u.1 := by
  unfold cTakeV; split
  · exact st_cHaveV n u v x b
  · rw [st_sendAll]; exact st_cHaveV n u v x b
theorem st_vote (n : Nat) (u : CS) (v ch : Nat) : stat (cVote n u v ch).1 = stat u.1 := by
  unfold cVote; rw [st_sendAll]; rfl
theorem st_look (n : Nat) (u : CS) (v : Nat) : stat (cLook n u v).1 = stat u.1 := by
  unfold cLook; split
  · rfl
  · exact st_vote n u v _
theorem st_letP (n : Nat) (u : CS) (v b : Nat) : stat (cLetP n u v b).1 = stat u.1 := by
  unfold cLetP; rw [st_look, st_takeP]; rfl
theorem st_letV (n : Nat) (u : CS) (v x b : Nat) : stat (cLetV n u v x b).1 = stat u.1 := by
  unfold cLetV; rw [st_look, st_takeV]; rfl
theorem st_fV (n v b : Nat) (u : CS) (k : Nat) : stat (fV n v b u k).1 = stat u.1 := by
  induction k with
  | zero => rfl
  | succ k ih => unfold fV; split <;> first | (rw [st_letV]; exact ih) | exact ih
theorem st_fP (n v b : Nat) (u : CS) : stat (fP n v b u).1 = stat u.1 := by unfold fP; split <;> first | exact st_letP n u v b | rfl
theorem st_fB (n v : Nat) (u : CS) (k : Nat) : stat (fB n v u k).1 = stat u.1 := by
  induction k with
  | zero => rfl
  | succ k ih => unfold fB; rw [st_fV, st_fP]; exact ih
theorem st_flow (n : Nat) (u : CS) (v : Nat) : stat (cFlow n u v).1 = stat u.1 := st_fB _ _ _ _
/-! ranges stay -/
theorem ok_exp {G : kG} {u : CS} (hk : okC G u) (l v : Nat) : okC G (mExp u.1 l v, u.2) := by unfold mExp; split <;> exact hk
theorem ok_snd {G : kG} {u : CS} (hk : okC G u) (l : Nat) (to : Int32) (k : Nat) : okC G (sndM u.1 l to k, u.2) := by
  induction k with
  | zero => exact hk
  | succ k ih => unfold sndM; split <;> first | exact ok_exp ih l k | exact ih
theorem ok_sendAll {G : kG} {u : CS} (hk : okC G u) (n l : Nat) : okC G (cSendAll n u l) := ok_snd hk _ _ _
theorem ok_cHaveP {G : kG} {u : CS} (hk : okC G u) {v b : Nat} (hb : b < mT u.1) : okC G (cHaveP (gn G) u v b) :=
  ok_judge (u := (mHaveP u.1 v b, u.2)) (ok_haveP hk hb) (by show b ≤ mT (mHaveP u.1 v b); rw [stat_T (st_haveP u.1 v b)]; omega)
theorem ok_cHaveV {G : kG} {u : CS} (hk : okC G u) {v x b : Nat} (hb : b < mT u.1) : okC G (cHaveV (gn G) u v x b) :=
  ok_judge (u := (mHaveV u.1 v x b, u.2)) hk (Nat.le_of_lt hb)
theorem ok_takeP {G : kG} {u : CS} (hk : okC G u) {v b : Nat} (hb : b < mT u.1) : okC G (cTakeP (gn G) u v b) := by
  unfold cTakeP; split
  · exact ok_cHaveP hk hb
  · exact ok_sendAll (ok_cHaveP hk hb) _ _
theorem ok_takeV {G : kG} {u : CS} (hk : okC G u) {v x b : Nat} (hb : b < mT u.1) : okC G (cTakeV (gn G) u v x b) := by
  unfold cTakeV; split
  · exact ok_cHaveV hk hb
  · exact ok_sendAll (ok_cHaveV hk hb) _ _
theorem cCh_lt {G : kG} {u : CS} (hk : okC G u) (v : Nat) : cCh u v < mT u.1 := by
  have h1 := hk.2.2.1
  have h2 := hk.2.2.2.2.2.2.2.2.2.1 v (mP u.1)
  unfold cCh cChoice
  split
  · omega
  · split <;> omega
theorem ok_vote {G : kG} {u : CS} (hk : okC G u) {v ch : Nat} (hc : ch < mT u.1) : okC G (cVote (gn G) u v ch) := by
  have h61 := hk.2.2.2.1
  exact ok_sendAll (ok_cHaveV (u := (sG (sVf u.1 (up2 (mVf u.1) v (mP u.1) ch)) (mG u.1 + 1), u.2)) (ok_Vf hk (by omega)) hc) _ _
theorem ok_look {G : kG} {u : CS} (hk : okC G u) (v : Nat) : okC G (cLook (gn G) u v) := by
  unfold cLook; split
  · exact hk
  · exact ok_vote hk (cCh_lt hk v)
theorem ok_up {G : kG} {u : CS} (hk : okC G u) : okC G (cUp u) := hk
theorem ok_letP {G : kG} {u : CS} (hk : okC G u) {v b : Nat} (hb : b < mT u.1) : okC G (cLetP (gn G) u v b) := ok_look (ok_takeP (u := cUp u) hk hb) v
theorem ok_letV {G : kG} {u : CS} (hk : okC G u) {v x b : Nat} (hb : b < mT u.1) : okC G (cLetV (gn G) u v x b) := ok_look (ok_takeV (u := cUp u) hk hb) v
theorem ok_fV {G : kG} {u : CS} (hk : okC G u) {v b : Nat} (hb : b < mT u.1) (k : Nat) : okC G (fV (gn G) v b u k) := by
  induction k with
  | zero => exact hk
  | succ k ih =>
    unfold fV; split
    · exact ok_letV ih (by rw [stat_T (st_fV _ _ _ _ _)]; exact hb)
    · exact ih
theorem ok_fP {G : kG} {u : CS} (hk : okC G u) {v b : Nat} (hb : b < mT u.1) : okC G (fP (gn G) v b u) := by
  unfold fP; split
  · exact ok_letP hk hb
  · exact hk
theorem ok_fB {G : kG} {u : CS} (hk : okC G u) {v k : Nat} (hb : k < mT u.1) : okC G (fB (gn G) v u k) := by
  induction k with
  | zero => exact hk
  | succ k ih =>
    have h := ih (by omega)
    have e := stat_T (st_fB (gn G) v u k)
    exact ok_fV (ok_fP h (by omega)) (by rw [stat_T (st_fP _ _ _ _)]; omega) _
theorem ok_flow {G : kG} {u : CS} (hk : okC G u) (v : Nat) : okC G (cFlow (gn G) u v) := ok_fB hk (by have := hk.2.2.1; omega)
/-- all nodes' bits -/
theorem all_n : ∀ n, n ≤ 10 → ∀ k, k < n → tI (nI (2 ^ n - 1)) k = true := by decide +kernel
theorem fV_stop {n v b : Nat} {u : CS} {i : Nat} (hz : ∀ x, i ≤ x → x < n → mWy (fV n v b u i).1 (11 * b + 1 + x) v = false) : ∀ d, i + d ≤ n → fV n v b u (i + d) = fV n v b u i := by
  intro d
  induction d with
  | zero => intro _; rfl
  | succ d ih =>
    intro hd
    have e := ih (by omega)
    show (if mWy (fV n v b u (i + d)).1 (11 * b + 1 + (i + d)) v then _ else fV n v b u (i + d)) = _
    rw [e, hz (i + d) (by omega) (by omega)]
    rfl
end
section
/-! more of the class's functions -/
def cLoad (u : CS) (v : Nat) : Int32 := mWi u.1 v &&& (xCl u.2 (xTp u.2 v) ^^^ (-1))
def cMkTip (u : CS) (v : Nat) : CS := cMake u (xTp u.2 v) (mP u.1) (cLoad u v) v
def cMakeOnTip (n : Nat) (u : CS) (v : Nat) : CS := cTakeP n (cMkTip u v) v (mT u.1)
def uwB (M : MS) (v : Nat) : Nat → Nat
  | 0 => 0
  | k + 1 => uwB M v k + cnt (fun x => mWy M (11 * k + 1 + x) v) 10
def uwN (M : MS) : Nat → Nat
  | 0 => 0
  | k + 1 => uwN M k + (cnt (pB (mWy M) k) 64 + uwB M k (mT M))
theorem ok_make {G : kG} {u : CS} (hk : okC G u) {o e v : Nat} (w : Int32) (ho : o < mT u.1) (he : e ≤ 40) (hT : mT u.1 ≤ 60) : okC G (cMake u o e w v) := by
  obtain ⟨a1, a2, a3, a4, a5, a6, a7, a8, a9, a10, a11, a12, a13⟩ := hk
  refine ⟨a1, a2, ?_, ?_, a5, a6, fun b hb => ?_, fun b => ?_, fun b => ?_, fun v e => ?_, a11, fun v => ?_, fun v => ?_⟩
  · show 1 ≤ mT u.1 + 1; omega
  · show mT u.1 + 1 ≤ 61; omega
  · show va_up (mPar u.1) (mT u.1) o b < b
    unfold va_up; split
    · omega
    · exact a7 b hb
  · show va_up (mEp u.1) (mT u.1) e b ≤ 40
    unfold va_up; split
    · exact he
    · exact a8 b
  · show va_up (mHt u.1) (mT u.1) (mHt u.1 o + 1) b ≤ b
    unfold va_up; split
    · have := a9 o; omega
    · exact a9 b
  · show mFc u.1 v e < mT u.1 + 1
    have := a10 v e; omega
  · show xTp u.2 v < mT u.1 + 1
    have := a12 v; omega
  · show xHf u.2 v < mT u.1 + 1
    have := a13 v; omega
theorem T_make (u : CS) (o e : Nat) (w : Int32) (v : Nat) : mT (cMake u o e w v).1 = mT u.1 + 1 := rfl
theorem ok_mkTip {G : kG} {u : CS} (hk : okC G u) {v : Nat} (hT : mT u.1 ≤ 60) : okC G (cMkTip u v) := ok_make hk _ (hk.2.2.2.2.2.2.2.2.2.2.2.1 v) hk.2.2.2.2.1 hT
theorem ok_makeOnTip {G : kG} {u : CS} (hk : okC G u) {v : Nat} (hT : mT u.1 ≤ 60) : okC G (cMakeOnTip (gn G) u v) := ok_takeP (ok_mkTip hk hT) (by show mT u.1 < mT u.1 + 1; omega)
theorem uwB_le (M : MS) (v k : Nat) : uwB M v k ≤ 10 * k := by
  induction k with
  | zero => exact Nat.le_refl _
  | succ k ih => have := cnt_le (fun x => mWy M (11 * k + 1 + x) v) 10; unfold uwB; omega
theorem uwN_le (M : MS) (k : Nat) (hT : mT M ≤ 61) : uwN M k ≤ 1000 * k := by
  induction k with
  | zero => exact Nat.le_refl _
  | succ k ih =>
    have h1 := cnt_le (pB (mWy M) k) 64
    have h2 := uwB_le M k (mT M)
    unfold uwN; omega
theorem cnt_pB (f : Nat → Nat → Bool) (v : Nat) : cnt (tL (eL (pB f v))) 64 = cnt (pB f v) 64 := cnt_congr fun j hj => tL_eL _ hj
end
section
set_option maxHeartbeats 4000000 in
set_option maxRecDepth 100000 in
theorem m2_sendProposal (l : Launch) (G : kG) (u : CS) (hL : lay G) (hk : okC G u) {b : Nat} (hbb : b ≤ 60) (to : Int32) : KMi l G (AC G) (wC G) yX2_sendProposal cX2_sendProposal 8 (Option.some FieldType.int) ({ frames := 2, cells := 0, slots := 0, locals := 44 }) [.ref (gL G 0), .int (nI b), .int (to)] u (fun r u' => r = nI (sndC u.1 (11 * b) to (gn G)) ∧ u' = (sndM u.1 (11 * b) to (gn G), u.2)) := by
  refine K_of (by decide) (Nat.le_of_ble_eq_true rfl) ?_
  intro p e s m below meth c X hr hlocks hnm hK hP ls hl
  have hx := X.1
  have hb := X.2.1
  have hown := X.2.2.2.1
  have hts := X.2.2.2.2
  have hS : va_S (AC G) s.heap s.heap [] := va_S.rf
  have hl : lv_has ls 8 [(0, .ref (gL G 0)), (1, .int (nI b)), (2, .int (to))] := hl
  obtain ⟨kn4, kn10, kT1, kT61, kP40, kLd, kPar, kEp, kHt, kFc, kVf, kTp, kHf⟩ := id hk
  refine lv_iconst (v := nI 0) hx hb dX2_sendProposal_0 (by decide) ?_
  refine lv_istore_n (lv' := [(3, .int (nI 0)), (0, .ref (gL G 0)), (1, .int (nI b)), (2, .int (to))]) hx hb dX2_sendProposal_1 rfl hl (by decide) rfl (fun ls hl => ?_)
  refine lv_aload_n hx hb dX2_sendProposal_2 rfl (lv_at hl 1 rfl) ?_
  refine k_get (v := .ref (gL G 1)) X hK inX2 rfl hP (wC_g G u (k := 0) (by decide)) 1 (by decide) tw_1_140 rfl dX2_sendProposal_3 ?_
  refine lv_astore (lv' := [(4, .ref (gL G 1)), (3, .int (nI 0)), (0, .ref (gL G 0)), (1, .int (nI b)), (2, .int (to))]) hx hb dX2_sendProposal_6 hl (by decide) rfl (fun ls hl => ?_)
  refine lv_aload hx hb dX2_sendProposal_8 (lv_at hl 0 rfl) ?_
  refine k_len X hK hP (wC_g G u (k := 1) (by decide)) dX2_sendProposal_10 ?_
  refine lv_istore (lv' := [(5, .int (nI (gn G))), (4, .ref (gL G 1)), (3, .int (nI 0)), (0, .ref (gL G 0)), (1, .int (nI b)), (2, .int (to))]) hx hb dX2_sendProposal_11 hl (by decide) rfl (fun ls hl => ?_)
  refine lv_iconst (v := nI 0) hx hb dX2_sendProposal_13 (by decide) ?_
  refine lv_istore (lv' := [(6, .int (nI 0)), (5, .int (nI (gn G))), (4, .ref (gL G 1)), (3, .int (nI 0)), (0, .ref (gL G 0)), (1, .int (nI b)), (2, .int (to))]) hx hb dX2_sendProposal_14 hl (by decide) rfl (fun ls hl => ?_)
  have loop_16 : ∀ (d_16 : Nat) (i : Nat) (M1 : MS) (k3 : Nat), gn G - i = d_16 → (i ≤ gn G) → (M1 = sndM u.1 (11 * b) to i) → (k3 = sndC u.1 (11 * b) to i) → ∀ (H : Heap) (locs : List Loc) (ls : Array Slot), va_P (gD G) vwCl ((wC G) ((M1, u.2))) H → va_S (AC G) s.heap H locs → lv_has ls 8 [(0, .ref (gL G 0)), (1, .int (nI b)), (2, .int (to)), (3, .int (nI k3)), (4, .ref (gL G 1)), (5, .int (nI (gn G))), (6, .int (nI i))] → W p l e ({ frames := 2, cells := 0, slots := 0, locals := 44 } : Room) s m ([.ref (gL G 0), .int (nI b), .int (to)] : List Value).toArray below meth c H locs 0 0 (MQ below (va_Qi (fun r u' => r = nI (sndC u.1 (11 * b) to (gn G)) ∧ u' = (sndM u.1 (11 * b) to (gn G), u.2)) (KB G (wC G)) (AC G)) ([.ref (gL G 0), .int (nI b), .int (to)] : List Value).toArray s 0 0 (AC G)) (F0 m 16 ls []) := by
    intro d_16
    induction d_16 using Nat.strongRecOn with
    | ind d_16 ih_16 =>
      intro i M1 k3 hd_16 hi hM hc H locs ls hP hS hl
      refine lv_iload hx hb dX2_sendProposal_16 (lv_at hl 6 rfl) ?_
      refine lv_iload hx hb dX2_sendProposal_18 (lv_at hl 5 rfl) ?_
      refine lv_icmp_ge (tgt := 61) hx hb dX2_sendProposal_20 (by decide) (fun c_20 => ?_) (fun c_20 => ?_)
      · have c_20 : (gn G) ≤ i := cLe c_20 (by omega) (by omega)
        refine lv_iload_n hx hb dX2_sendProposal_61 rfl (lv_at hl 3 rfl) ?_
        exact k_reti X hr hlocks hP hS dX2_sendProposal_62 ⟨by rw [hc, show i = gn G by omega], by rw [hM, show i = gn G by omega]⟩
      · have c_20 : i < (gn G) := cNle c_20 (by omega) (by omega)
        refine lv_aload hx hb dX2_sendProposal_23 (lv_at hl 4 rfl) ?_
        refine lv_iload hx hb dX2_sendProposal_25 (lv_at hl 6 rfl) ?_
        refine k_ald (v := gL G (11 + 5 * i)) X hK hP (wC_g G ((M1, u.2)) (k := 1) (by decide)) (by omega) (by omega) rfl dX2_sendProposal_27 ?_
        refine lv_astore (lv' := [(7, .ref (gL G (11 + 5 * i))), (0, .ref (gL G 0)), (1, .int (nI b)), (2, .int (to)), (3, .int (nI k3)), (4, .ref (gL G 1)), (5, .int (nI (gn G))), (6, .int (nI i))]) hx hb dX2_sendProposal_28 hl (by decide) rfl (fun ls hl => ?_)
        refine lv_iload_n hx hb dX2_sendProposal_30 rfl (lv_at hl 3 rfl) ?_
        refine lv_i2l (v := to.toInt64) hx hb dX2_sendProposal_31 rfl ?_
        refine lv_aload hx hb dX2_sendProposal_32 (lv_at hl 0 rfl) ?_
        refine k_gn (v := .int (nI i)) X hK inX1 rfl hP (wC_n0 G ((M1, u.2)) (by omega)) 0 (by decide) ntw_1_80 rfl dX2_sendProposal_34 ?_
        refine k_ci (k_runS (As := [.long (to.toInt64), .int (nI i)]) (rest := []) X hK hP (m2_holds l G (AC G) (wC G) ((M1, u.2)) to.toInt64 (k := i) (by omega)) ⟨rfl, rfl⟩ tw_1_235 tw_1_211 tw_1_1 tw_1_212 ⟨by decide +kernel, by decide +kernel, (by decide +kernel : (parseMethodDescriptor yX2_holds.desc).map (fun d => d.parameters.length) = some 2)⟩ ⟨Nat.le_of_ble_eq_true rfl, Nat.le_of_ble_eq_true rfl⟩ hl.1 rfl (Nat.le_of_ble_eq_true rfl) ⟨Nat.zero_le _, Nat.zero_le _⟩ dX2_sendProposal_37) hS (fun r_37 u_37 H locs hq_37 hP hS => ?_)
        have hP := k_su hq_37.2 hP
        refine k_ti (y := bI (tI to i)) (hq_37.1.trans (congrArg bI (tL_wide _ (by omega)))) ?_
        refine lv_if_eq (tgt := 55) hx hb dX2_sendProposal_40 (by decide) (fun c_40 => ?_) (fun c_40 => ?_)
        · have c_40 : (tI to i) = false := (bI_eq0 _).mp c_40
          refine lv_iinc (v := nI (i + 1)) (lv' := [(6, .int (nI (i + 1))), (7, .ref (gL G (11 + 5 * i))), (0, .ref (gL G 0)), (1, .int (nI b)), (2, .int (to)), (3, .int (nI k3)), (4, .ref (gL G 1)), (5, .int (nI (gn G)))]) hx hb dX2_sendProposal_55 hl (k := 7) rfl (nI_add i 1) (by decide) rfl (fun ls hl => ?_)
          refine lv_goto (tgt := 16) hx hb dX2_sendProposal_58 (by decide) ?_
          exact ih_16 (gn G - (i + 1)) (by omega) (i + 1) M1 k3 rfl (by omega) (by rw [sndM, ← hM, if_neg (by rw [c_40]; decide)]) (by rw [sndC, ← hM, ← hc, c_40]; rfl) _ _ _ hP hS (lv_sub hl [2, 3, 4, 5, 6, 7, 0] rfl)
        · have c_40 : (tI to i) = true := (bI_ne0 _).mp c_40
          refine lv_aload hx hb dX2_sendProposal_43 (lv_at hl 0 rfl) ?_
          refine lv_iload_n hx hb dX2_sendProposal_45 rfl (lv_at hl 2 rfl) ?_
          refine k_ci (k_runN (As := [.int (nI b)]) (rest := []) X hK hP (wC_n0 G ((M1, u.2)) (by omega)) rfl (m1_expectProposal l G ((M1, u.2)) hL ((by rw [hM]; exact ok_snd hk _ _ _ : okC G (M1, u.2))) (v := i) (by omega) (b := b) (by omega)) ⟨rfl, rfl⟩ ntw_1_236 tw_1_238 tw_0_12 tw_1_4 tw_1_239 ⟨by decide +kernel, by decide +kernel, (by decide +kernel : (parseMethodDescriptor yX1_expectProposal.desc).map (fun d => d.parameters.length) = some 1)⟩ ⟨Nat.le_of_ble_eq_true rfl, Nat.le_of_ble_eq_true rfl⟩ hl.1 rfl (Nat.le_of_ble_eq_true rfl) ⟨Nat.zero_le _, Nat.zero_le _⟩ dX2_sendProposal_46) hS (fun r_46 u_46 H locs hq_46 hP hS => ?_)
          have hP := k_su hq_46.2 hP
          refine k_ti hq_46.1 ?_
          have ok_46 : okC G ((mExp M1 (11 * b) i, u.2)) := ok_exp ((by rw [hM]; exact ok_snd hk _ _ _ : okC G (M1, u.2))) _ _
          refine lv_if_eq (tgt := 55) hx hb dX2_sendProposal_49 (by decide) (fun c_49 => ?_) (fun c_49 => ?_)
          · have c_49 : (newL M1 (11 * b) i) = false := (bI_eq0 _).mp c_49
            refine lv_iinc (v := nI (i + 1)) (lv' := [(6, .int (nI (i + 1))), (7, .ref (gL G (11 + 5 * i))), (0, .ref (gL G 0)), (1, .int (nI b)), (2, .int (to)), (3, .int (nI k3)), (4, .ref (gL G 1)), (5, .int (nI (gn G)))]) hx hb dX2_sendProposal_55 hl (k := 7) rfl (nI_add i 1) (by decide) rfl (fun ls hl => ?_)
            refine lv_goto (tgt := 16) hx hb dX2_sendProposal_58 (by decide) ?_
            exact ih_16 (gn G - (i + 1)) (by omega) (i + 1) (mExp M1 (11 * b) i) k3 rfl (by omega) (by rw [sndM, ← hM, if_pos c_40]) (by rw [sndC, ← hM, ← hc, c_40, c_49]; rfl) _ _ _ hP hS (lv_sub hl [2, 3, 4, 5, 6, 7, 0] rfl)
          · have c_49 : (newL M1 (11 * b) i) = true := (bI_ne0 _).mp c_49
            refine lv_iinc (v := nI (k3 + 1)) (lv' := [(3, .int (nI (k3 + 1))), (7, .ref (gL G (11 + 5 * i))), (0, .ref (gL G 0)), (1, .int (nI b)), (2, .int (to)), (4, .ref (gL G 1)), (5, .int (nI (gn G))), (6, .int (nI i))]) hx hb dX2_sendProposal_52 hl (k := 4) rfl (nI_add k3 1) (by decide) rfl (fun ls hl => ?_)
            refine lv_iinc (v := nI (i + 1)) (lv' := [(6, .int (nI (i + 1))), (3, .int (nI (k3 + 1))), (7, .ref (gL G (11 + 5 * i))), (0, .ref (gL G 0)), (1, .int (nI b)), (2, .int (to)), (4, .ref (gL G 1)), (5, .int (nI (gn G)))]) hx hb dX2_sendProposal_55 hl (k := 7) rfl (nI_add i 1) (by decide) rfl (fun ls hl => ?_)
            refine lv_goto (tgt := 16) hx hb dX2_sendProposal_58 (by decide) ?_
            exact ih_16 (gn G - (i + 1)) (by omega) (i + 1) (mExp M1 (11 * b) i) (k3 + 1) rfl (by omega) (by rw [sndM, ← hM, if_pos c_40]) (by rw [sndC, ← hM, ← hc, c_40, c_49]; rfl) _ _ _ hP hS (lv_sub hl [3, 4, 5, 1, 6, 7, 0] rfl)
  exact loop_16 _ 0 u.1 0 rfl (Nat.zero_le _) (rfl) (rfl) _ _ _ hP hS (lv_sub hl [4, 5, 6, 3, 2, 1, 0] rfl)

set_option maxHeartbeats 4000000 in
set_option maxRecDepth 100000 in
theorem m2_sendVote (l : Launch) (G : kG) (u : CS) (hL : lay G) (hk : okC G u) {b x : Nat} (hbb : b ≤ 60) (hxx : x < 10) (to : Int32) : KMi l G (AC G) (wC G) yX2_sendVote cX2_sendVote 9 (Option.some FieldType.int) ({ frames := 2, cells := 0, slots := 0, locals := 45 }) [.ref (gL G 0), .int (nI x), .int (nI b), .int (to)] u (fun r u' => r = nI (sndC u.1 (11 * b + 1 + x) to (gn G)) ∧ u' = (sndM u.1 (11 * b + 1 + x) to (gn G), u.2)) := by
  refine K_of (by decide) (Nat.le_of_ble_eq_true rfl) ?_
  intro p e s m below meth c X hr hlocks hnm hK hP ls hl
  have hx := X.1
  have hb := X.2.1
  have hown := X.2.2.2.1
  have hts := X.2.2.2.2
  have hS : va_S (AC G) s.heap s.heap [] := va_S.rf
  have hl : lv_has ls 9 [(0, .ref (gL G 0)), (1, .int (nI x)), (2, .int (nI b)), (3, .int (to))] := hl
  obtain ⟨kn4, kn10, kT1, kT61, kP40, kLd, kPar, kEp, kHt, kFc, kVf, kTp, kHf⟩ := id hk
  refine lv_iconst (v := nI 0) hx hb dX2_sendVote_0 (by decide) ?_
  refine lv_istore (lv' := [(4, .int (nI 0)), (0, .ref (gL G 0)), (1, .int (nI x)), (2, .int (nI b)), (3, .int (to))]) hx hb dX2_sendVote_1 hl (by decide) rfl (fun ls hl => ?_)
  refine lv_aload_n hx hb dX2_sendVote_3 rfl (lv_at hl 1 rfl) ?_
  refine k_get (v := .ref (gL G 1)) X hK inX2 rfl hP (wC_g G u (k := 0) (by decide)) 1 (by decide) tw_1_140 rfl dX2_sendVote_4 ?_
  refine lv_astore (lv' := [(5, .ref (gL G 1)), (4, .int (nI 0)), (0, .ref (gL G 0)), (1, .int (nI x)), (2, .int (nI b)), (3, .int (to))]) hx hb dX2_sendVote_7 hl (by decide) rfl (fun ls hl => ?_)
  refine lv_aload hx hb dX2_sendVote_9 (lv_at hl 0 rfl) ?_
  refine k_len X hK hP (wC_g G u (k := 1) (by decide)) dX2_sendVote_11 ?_
  refine lv_istore (lv' := [(6, .int (nI (gn G))), (5, .ref (gL G 1)), (4, .int (nI 0)), (0, .ref (gL G 0)), (1, .int (nI x)), (2, .int (nI b)), (3, .int (to))]) hx hb dX2_sendVote_12 hl (by decide) rfl (fun ls hl => ?_)
  refine lv_iconst (v := nI 0) hx hb dX2_sendVote_14 (by decide) ?_
  refine lv_istore (lv' := [(7, .int (nI 0)), (6, .int (nI (gn G))), (5, .ref (gL G 1)), (4, .int (nI 0)), (0, .ref (gL G 0)), (1, .int (nI x)), (2, .int (nI b)), (3, .int (to))]) hx hb dX2_sendVote_15 hl (by decide) rfl (fun ls hl => ?_)
  have loop_17 : ∀ (d_17 : Nat) (i : Nat) (M1 : MS) (k3 : Nat), gn G - i = d_17 → (i ≤ gn G) → (M1 = sndM u.1 (11 * b + 1 + x) to i) → (k3 = sndC u.1 (11 * b + 1 + x) to i) → ∀ (H : Heap) (locs : List Loc) (ls : Array Slot), va_P (gD G) vwCl ((wC G) ((M1, u.2))) H → va_S (AC G) s.heap H locs → lv_has ls 9 [(0, .ref (gL G 0)), (1, .int (nI x)), (2, .int (nI b)), (3, .int (to)), (4, .int (nI k3)), (5, .ref (gL G 1)), (6, .int (nI (gn G))), (7, .int (nI i))] → W p l e ({ frames := 2, cells := 0, slots := 0, locals := 45 } : Room) s m ([.ref (gL G 0), .int (nI x), .int (nI b), .int (to)] : List Value).toArray below meth c H locs 0 0 (MQ below (va_Qi (fun r u' => r = nI (sndC u.1 (11 * b + 1 + x) to (gn G)) ∧ u' = (sndM u.1 (11 * b + 1 + x) to (gn G), u.2)) (KB G (wC G)) (AC G)) ([.ref (gL G 0), .int (nI x), .int (nI b), .int (to)] : List Value).toArray s 0 0 (AC G)) (F0 m 17 ls []) := by
    intro d_17
    induction d_17 using Nat.strongRecOn with
    | ind d_17 ih_17 =>
      intro i M1 k3 hd_17 hi hM hc H locs ls hP hS hl
      refine lv_iload hx hb dX2_sendVote_17 (lv_at hl 7 rfl) ?_
      refine lv_iload hx hb dX2_sendVote_19 (lv_at hl 6 rfl) ?_
      refine lv_icmp_ge (tgt := 63) hx hb dX2_sendVote_21 (by decide) (fun c_21 => ?_) (fun c_21 => ?_)
      · have c_21 : (gn G) ≤ i := cLe c_21 (by omega) (by omega)
        refine lv_iload hx hb dX2_sendVote_63 (lv_at hl 4 rfl) ?_
        exact k_reti X hr hlocks hP hS dX2_sendVote_65 ⟨by rw [hc, show i = gn G by omega], by rw [hM, show i = gn G by omega]⟩
      · have c_21 : i < (gn G) := cNle c_21 (by omega) (by omega)
        refine lv_aload hx hb dX2_sendVote_24 (lv_at hl 5 rfl) ?_
        refine lv_iload hx hb dX2_sendVote_26 (lv_at hl 7 rfl) ?_
        refine k_ald (v := gL G (11 + 5 * i)) X hK hP (wC_g G ((M1, u.2)) (k := 1) (by decide)) (by omega) (by omega) rfl dX2_sendVote_28 ?_
        refine lv_astore (lv' := [(8, .ref (gL G (11 + 5 * i))), (0, .ref (gL G 0)), (1, .int (nI x)), (2, .int (nI b)), (3, .int (to)), (4, .int (nI k3)), (5, .ref (gL G 1)), (6, .int (nI (gn G))), (7, .int (nI i))]) hx hb dX2_sendVote_29 hl (by decide) rfl (fun ls hl => ?_)
        refine lv_iload_n hx hb dX2_sendVote_31 rfl (lv_at hl 4 rfl) ?_
        refine lv_i2l (v := to.toInt64) hx hb dX2_sendVote_32 rfl ?_
        refine lv_aload hx hb dX2_sendVote_33 (lv_at hl 0 rfl) ?_
        refine k_gn (v := .int (nI i)) X hK inX1 rfl hP (wC_n0 G ((M1, u.2)) (by omega)) 0 (by decide) ntw_1_80 rfl dX2_sendVote_35 ?_
        refine k_ci (k_runS (As := [.long (to.toInt64), .int (nI i)]) (rest := []) X hK hP (m2_holds l G (AC G) (wC G) ((M1, u.2)) to.toInt64 (k := i) (by omega)) ⟨rfl, rfl⟩ tw_1_235 tw_1_211 tw_1_1 tw_1_212 ⟨by decide +kernel, by decide +kernel, (by decide +kernel : (parseMethodDescriptor yX2_holds.desc).map (fun d => d.parameters.length) = some 2)⟩ ⟨Nat.le_of_ble_eq_true rfl, Nat.le_of_ble_eq_true rfl⟩ hl.1 rfl (Nat.le_of_ble_eq_true rfl) ⟨Nat.zero_le _, Nat.zero_le _⟩ dX2_sendVote_38) hS (fun r_38 u_38 H locs hq_38 hP hS => ?_)
        have hP := k_su hq_38.2 hP
        refine k_ti (y := bI (tI to i)) (hq_38.1.trans (congrArg bI (tL_wide _ (by omega)))) ?_
        refine lv_if_eq (tgt := 57) hx hb dX2_sendVote_41 (by decide) (fun c_41 => ?_) (fun c_41 => ?_)
        · have c_41 : (tI to i) = false := (bI_eq0 _).mp c_41
          refine lv_iinc (v := nI (i + 1)) (lv' := [(7, .int (nI (i + 1))), (8, .ref (gL G (11 + 5 * i))), (0, .ref (gL G 0)), (1, .int (nI x)), (2, .int (nI b)), (3, .int (to)), (4, .int (nI k3)), (5, .ref (gL G 1)), (6, .int (nI (gn G)))]) hx hb dX2_sendVote_57 hl (k := 8) rfl (nI_add i 1) (by decide) rfl (fun ls hl => ?_)
          refine lv_goto (tgt := 17) hx hb dX2_sendVote_60 (by decide) ?_
          exact ih_17 (gn G - (i + 1)) (by omega) (i + 1) M1 k3 rfl (by omega) (by rw [sndM, ← hM, if_neg (by rw [c_41]; decide)]) (by rw [sndC, ← hM, ← hc, c_41]; rfl) _ _ _ hP hS (lv_sub hl [2, 3, 4, 5, 6, 7, 8, 0] rfl)
        · have c_41 : (tI to i) = true := (bI_ne0 _).mp c_41
          refine lv_aload hx hb dX2_sendVote_44 (lv_at hl 0 rfl) ?_
          refine lv_iload_n hx hb dX2_sendVote_46 rfl (lv_at hl 2 rfl) ?_
          refine lv_iload_n hx hb dX2_sendVote_47 rfl (lv_at hl 3 rfl) ?_
          refine k_ci (k_runN (As := [.int (nI x), .int (nI b)]) (rest := []) X hK hP (wC_n0 G ((M1, u.2)) (by omega)) rfl (m1_expectVote l G ((M1, u.2)) hL ((by rw [hM]; exact ok_snd hk _ _ _ : okC G (M1, u.2))) (v := i) (by omega) (b := b) (x := x) (by omega) (by omega)) ⟨rfl, rfl⟩ ntw_2_16 tw_2_18 tw_0_17 tw_1_4 tw_2_19 ⟨by decide +kernel, by decide +kernel, (by decide +kernel : (parseMethodDescriptor yX1_expectVote.desc).map (fun d => d.parameters.length) = some 2)⟩ ⟨Nat.le_of_ble_eq_true rfl, Nat.le_of_ble_eq_true rfl⟩ hl.1 rfl (Nat.le_of_ble_eq_true rfl) ⟨Nat.zero_le _, Nat.zero_le _⟩ dX2_sendVote_48) hS (fun r_48 u_48 H locs hq_48 hP hS => ?_)
          have hP := k_su hq_48.2 hP
          refine k_ti hq_48.1 ?_
          have ok_48 : okC G ((mExp M1 (11 * b + 1 + x) i, u.2)) := ok_exp ((by rw [hM]; exact ok_snd hk _ _ _ : okC G (M1, u.2))) _ _
          refine lv_if_eq (tgt := 57) hx hb dX2_sendVote_51 (by decide) (fun c_51 => ?_) (fun c_51 => ?_)
          · have c_51 : (newL M1 (11 * b + 1 + x) i) = false := (bI_eq0 _).mp c_51
            refine lv_iinc (v := nI (i + 1)) (lv' := [(7, .int (nI (i + 1))), (8, .ref (gL G (11 + 5 * i))), (0, .ref (gL G 0)), (1, .int (nI x)), (2, .int (nI b)), (3, .int (to)), (4, .int (nI k3)), (5, .ref (gL G 1)), (6, .int (nI (gn G)))]) hx hb dX2_sendVote_57 hl (k := 8) rfl (nI_add i 1) (by decide) rfl (fun ls hl => ?_)
            refine lv_goto (tgt := 17) hx hb dX2_sendVote_60 (by decide) ?_
            exact ih_17 (gn G - (i + 1)) (by omega) (i + 1) (mExp M1 (11 * b + 1 + x) i) k3 rfl (by omega) (by rw [sndM, ← hM, if_pos c_41]) (by rw [sndC, ← hM, ← hc, c_41, c_51]; rfl) _ _ _ hP hS (lv_sub hl [2, 3, 4, 5, 6, 7, 8, 0] rfl)
          · have c_51 : (newL M1 (11 * b + 1 + x) i) = true := (bI_ne0 _).mp c_51
            refine lv_iinc (v := nI (k3 + 1)) (lv' := [(4, .int (nI (k3 + 1))), (8, .ref (gL G (11 + 5 * i))), (0, .ref (gL G 0)), (1, .int (nI x)), (2, .int (nI b)), (3, .int (to)), (5, .ref (gL G 1)), (6, .int (nI (gn G))), (7, .int (nI i))]) hx hb dX2_sendVote_54 hl (k := 5) rfl (nI_add k3 1) (by decide) rfl (fun ls hl => ?_)
            refine lv_iinc (v := nI (i + 1)) (lv' := [(7, .int (nI (i + 1))), (4, .int (nI (k3 + 1))), (8, .ref (gL G (11 + 5 * i))), (0, .ref (gL G 0)), (1, .int (nI x)), (2, .int (nI b)), (3, .int (to)), (5, .ref (gL G 1)), (6, .int (nI (gn G)))]) hx hb dX2_sendVote_57 hl (k := 8) rfl (nI_add i 1) (by decide) rfl (fun ls hl => ?_)
            refine lv_goto (tgt := 17) hx hb dX2_sendVote_60 (by decide) ?_
            exact ih_17 (gn G - (i + 1)) (by omega) (i + 1) (mExp M1 (11 * b + 1 + x) i) (k3 + 1) rfl (by omega) (by rw [sndM, ← hM, if_pos c_41]) (by rw [sndC, ← hM, ← hc, c_41, c_51]; rfl) _ _ _ hP hS (lv_sub hl [3, 4, 5, 6, 1, 7, 8, 0] rfl)
  exact loop_17 _ 0 u.1 0 rfl (Nat.zero_le _) (rfl) (rfl) _ _ _ hP hS (lv_sub hl [4, 5, 6, 7, 3, 2, 1, 0] rfl)

set_option maxHeartbeats 4000000 in
set_option maxRecDepth 100000 in
theorem m2_takeProposal (l : Launch) (G : kG) (u : CS) (hL : lay G) (hk : okC G u) {v : Nat} (hv : v < gn G) {b : Nat} (hb0 : 0 < b) (hbT : b < mT u.1) : KMv l G (AC G) (wC G) yX2_takeProposal cX2_takeProposal 3 (Option.none : Option FieldType) ({ frames := 3, cells := 0, slots := 0, locals := 71 }) [.ref (gL G 0), .ref (gL G (11 + 5 * v)), .int (nI b)] u (fun u' => u' = cTakeP (gn G) u v b) := by
  refine K_of (by decide) (Nat.le_of_ble_eq_true rfl) ?_
  intro p e s m below meth c X hr hlocks hnm hK hP ls hl
  have hx := X.1
  have hb := X.2.1
  have hown := X.2.2.2.1
  have hts := X.2.2.2.2
  have hS : va_S (AC G) s.heap s.heap [] := va_S.rf
  have hl : lv_has ls 3 [(0, .ref (gL G 0)), (1, .ref (gL G (11 + 5 * v))), (2, .int (nI b))] := hl
  obtain ⟨kn4, kn10, kT1, kT61, kP40, kLd, kPar, kEp, kHt, kFc, kVf, kTp, kHf⟩ := id hk
  refine lv_aload_n hx hb dX2_takeProposal_0 rfl (lv_at hl 1 rfl) ?_
  refine lv_iload_n hx hb dX2_takeProposal_1 rfl (lv_at hl 2 rfl) ?_
  refine k_cv (k_runN (As := [.int (nI b)]) (rest := []) X hK hP (wC_n0 G u hv) rfl (m1_haveProposal l G u hL (hk) (v := v) hv (b := b) (by omega) (show b < mT u.1 by omega)) ⟨rfl, rfl⟩ ntw_1_201 tw_1_203 tw_0_6 tw_1_4 tw_1_204 ⟨by decide +kernel, by decide +kernel, (by decide +kernel : (parseMethodDescriptor yX1_haveProposal.desc).map (fun d => d.parameters.length) = some 1)⟩ ⟨Nat.le_of_ble_eq_true rfl, Nat.le_of_ble_eq_true rfl⟩ hl.1 rfl (Nat.le_of_ble_eq_true rfl) ⟨Nat.zero_le _, Nat.zero_le _⟩ dX2_takeProposal_2) hS (fun u_2 H locs hq_2 hP hS => ?_)
  have hP := k_su hq_2 hP
  have ok_2 : okC G ((cHaveP (gn G) u v b)) := ok_cHaveP (hk) (show b < mT u.1 by omega)
  refine lv_aload_n hx hb dX2_takeProposal_5 rfl (lv_at hl 1 rfl) ?_
  refine k_gn (v := .int (bI ((mFa (((cHaveP (gn G) u v b)).1)) v))) X hK inX1 rfl hP (wC_n0 G ((cHaveP (gn G) u v b)) hv) 3 (by decide) ntw_1_83 rfl dX2_takeProposal_6 ?_
  refine lv_if_ne (tgt := 22) hx hb dX2_takeProposal_9 (by decide) (fun c_9 => ?_) (fun c_9 => ?_)
  · have c_9 : ((mFa (((cHaveP (gn G) u v b)).1)) v) = true := (bI_ne0 _).mp c_9
    have c_9 : mFa u.1 v = true := by rw [← stat_Fa (st_cHaveP (gn G) u v b)]; exact c_9
    exact k_retv X hr hlocks hP hS dX2_takeProposal_22 (by rw [cTakeP, if_pos c_9])
  · have c_9 : ((mFa (((cHaveP (gn G) u v b)).1)) v) = false := (bI_eq0 _).mp c_9
    have c_9 : mFa u.1 v = false := by rw [← stat_Fa (st_cHaveP (gn G) u v b)]; exact c_9
    refine lv_aload_n hx hb dX2_takeProposal_12 rfl (lv_at hl 0 rfl) ?_
    refine lv_iload_n hx hb dX2_takeProposal_13 rfl (lv_at hl 2 rfl) ?_
    refine lv_aload_n hx hb dX2_takeProposal_14 rfl (lv_at hl 0 rfl) ?_
    refine k_ci (k_runV (As := []) (rest := [.int (nI b), .ref (gL G 0)]) X hK hP (wC_g G ((cHaveP (gn G) u v b)) (k := 0) (by decide)) rfl (m2_allNodes l G ((cHaveP (gn G) u v b)) hL (ok_2)) ⟨rfl, rfl⟩ tw_1_227 tw_1_229 tw_0_10 tw_1_1 tw_1_230 ⟨by decide +kernel, by decide +kernel, (by decide +kernel : (parseMethodDescriptor yX2_allNodes.desc).map (fun d => d.parameters.length) = some 0)⟩ ⟨Nat.le_of_ble_eq_true rfl, Nat.le_of_ble_eq_true rfl⟩ hl.1 rfl (Nat.le_of_ble_eq_true rfl) ⟨Nat.zero_le _, Nat.zero_le _⟩ dX2_takeProposal_15) hS (fun r_15 u_15 H locs hq_15 hP hS => ?_)
    have hP := k_su hq_15.2 hP
    refine k_ti hq_15.1 ?_
    refine k_ci (k_runV (As := [.int (nI b), .int (nI (2 ^ gn G - 1))]) (rest := []) X hK hP (wC_g G ((cHaveP (gn G) u v b)) (k := 0) (by decide)) rfl (m2_sendProposal l G ((cHaveP (gn G) u v b)) hL (ok_2) (b := b) (by omega) (nI (2 ^ gn G - 1))) ⟨rfl, rfl⟩ tw_1_231 tw_1_233 tw_0_11 tw_1_1 tw_1_234 ⟨by decide +kernel, by decide +kernel, (by decide +kernel : (parseMethodDescriptor yX2_sendProposal.desc).map (fun d => d.parameters.length) = some 2)⟩ ⟨Nat.le_of_ble_eq_true rfl, Nat.le_of_ble_eq_true rfl⟩ hl.1 rfl (Nat.le_of_ble_eq_true rfl) ⟨Nat.zero_le _, Nat.zero_le _⟩ dX2_takeProposal_18) hS (fun r_18 u_18 H locs hq_18 hP hS => ?_)
    have hP := k_su hq_18.2 hP
    refine k_ti hq_18.1 ?_
    have ok_18 : okC G ((sndM ((cHaveP (gn G) u v b)).1 (11 * b) (nI (2 ^ gn G - 1)) (gn G), ((cHaveP (gn G) u v b)).2)) := ok_snd (ok_2) _ _ _
    refine lv_pop hx hb dX2_takeProposal_21 rfl ?_
    exact k_retv X hr hlocks hP hS dX2_takeProposal_22 (by rw [cTakeP, if_neg (by rw [c_9]; decide)]; rfl)

set_option maxHeartbeats 4000000 in
set_option maxRecDepth 100000 in
theorem m2_takeVote (l : Launch) (G : kG) (u : CS) (hL : lay G) (hk : okC G u) {v : Nat} (hv : v < gn G) {b x : Nat} (hb0 : 0 < b) (hbT : b < mT u.1) (hxx : x < 10) : KMv l G (AC G) (wC G) yX2_takeVote cX2_takeVote 4 (Option.none : Option FieldType) ({ frames := 3, cells := 0, slots := 0, locals := 73 }) [.ref (gL G 0), .ref (gL G (11 + 5 * v)), .int (nI x), .int (nI b)] u (fun u' => u' = cTakeV (gn G) u v x b) := by
  refine K_of (by decide) (Nat.le_of_ble_eq_true rfl) ?_
  intro p e s m below meth c X hr hlocks hnm hK hP ls hl
  have hx := X.1
  have hb := X.2.1
  have hown := X.2.2.2.1
  have hts := X.2.2.2.2
  have hS : va_S (AC G) s.heap s.heap [] := va_S.rf
  have hl : lv_has ls 4 [(0, .ref (gL G 0)), (1, .ref (gL G (11 + 5 * v))), (2, .int (nI x)), (3, .int (nI b))] := hl
  obtain ⟨kn4, kn10, kT1, kT61, kP40, kLd, kPar, kEp, kHt, kFc, kVf, kTp, kHf⟩ := id hk
  refine lv_aload_n hx hb dX2_takeVote_0 rfl (lv_at hl 1 rfl) ?_
  refine lv_iload_n hx hb dX2_takeVote_1 rfl (lv_at hl 2 rfl) ?_
  refine lv_iload_n hx hb dX2_takeVote_2 rfl (lv_at hl 3 rfl) ?_
  refine k_cv (k_runN (As := [.int (nI x), .int (nI b)]) (rest := []) X hK hP (wC_n0 G u hv) rfl (m1_haveVote l G u hL (hk) (v := v) hv (b := b) (x := x) (by omega) (show b < mT u.1 by omega) (by omega)) ⟨rfl, rfl⟩ ntw_2_8 tw_2_10 tw_0_15 tw_1_4 tw_2_11 ⟨by decide +kernel, by decide +kernel, (by decide +kernel : (parseMethodDescriptor yX1_haveVote.desc).map (fun d => d.parameters.length) = some 2)⟩ ⟨Nat.le_of_ble_eq_true rfl, Nat.le_of_ble_eq_true rfl⟩ hl.1 rfl (Nat.le_of_ble_eq_true rfl) ⟨Nat.zero_le _, Nat.zero_le _⟩ dX2_takeVote_3) hS (fun u_3 H locs hq_3 hP hS => ?_)
  have hP := k_su hq_3 hP
  have ok_3 : okC G ((cHaveV (gn G) u v x b)) := ok_cHaveV (hk) (show b < mT u.1 by omega)
  refine lv_aload_n hx hb dX2_takeVote_6 rfl (lv_at hl 1 rfl) ?_
  refine k_gn (v := .int (bI ((mFa (((cHaveV (gn G) u v x b)).1)) v))) X hK inX1 rfl hP (wC_n0 G ((cHaveV (gn G) u v x b)) hv) 3 (by decide) ntw_1_83 rfl dX2_takeVote_7 ?_
  refine lv_if_ne (tgt := 24) hx hb dX2_takeVote_10 (by decide) (fun c_10 => ?_) (fun c_10 => ?_)
  · have c_10 : ((mFa (((cHaveV (gn G) u v x b)).1)) v) = true := (bI_ne0 _).mp c_10
    have c_10 : mFa u.1 v = true := c_10
    exact k_retv X hr hlocks hP hS dX2_takeVote_24 (by rw [cTakeV, if_pos c_10])
  · have c_10 : ((mFa (((cHaveV (gn G) u v x b)).1)) v) = false := (bI_eq0 _).mp c_10
    have c_10 : mFa u.1 v = false := c_10
    refine lv_aload_n hx hb dX2_takeVote_13 rfl (lv_at hl 0 rfl) ?_
    refine lv_iload_n hx hb dX2_takeVote_14 rfl (lv_at hl 2 rfl) ?_
    refine lv_iload_n hx hb dX2_takeVote_15 rfl (lv_at hl 3 rfl) ?_
    refine lv_aload_n hx hb dX2_takeVote_16 rfl (lv_at hl 0 rfl) ?_
    refine k_ci (k_runV (As := []) (rest := [.int (nI b), .int (nI x), .ref (gL G 0)]) X hK hP (wC_g G ((cHaveV (gn G) u v x b)) (k := 0) (by decide)) rfl (m2_allNodes l G ((cHaveV (gn G) u v x b)) hL (ok_3)) ⟨rfl, rfl⟩ tw_1_227 tw_1_229 tw_0_10 tw_1_1 tw_1_230 ⟨by decide +kernel, by decide +kernel, (by decide +kernel : (parseMethodDescriptor yX2_allNodes.desc).map (fun d => d.parameters.length) = some 0)⟩ ⟨Nat.le_of_ble_eq_true rfl, Nat.le_of_ble_eq_true rfl⟩ hl.1 rfl (Nat.le_of_ble_eq_true rfl) ⟨Nat.zero_le _, Nat.zero_le _⟩ dX2_takeVote_17) hS (fun r_17 u_17 H locs hq_17 hP hS => ?_)
    have hP := k_su hq_17.2 hP
    refine k_ti hq_17.1 ?_
    refine k_ci (k_runV (As := [.int (nI x), .int (nI b), .int (nI (2 ^ gn G - 1))]) (rest := []) X hK hP (wC_g G ((cHaveV (gn G) u v x b)) (k := 0) (by decide)) rfl (m2_sendVote l G ((cHaveV (gn G) u v x b)) hL (ok_3) (b := b) (x := x) (by omega) (by omega) (nI (2 ^ gn G - 1))) ⟨rfl, rfl⟩ tw_2_12 tw_2_14 tw_0_16 tw_1_1 tw_2_15 ⟨by decide +kernel, by decide +kernel, (by decide +kernel : (parseMethodDescriptor yX2_sendVote.desc).map (fun d => d.parameters.length) = some 3)⟩ ⟨Nat.le_of_ble_eq_true rfl, Nat.le_of_ble_eq_true rfl⟩ hl.1 rfl (Nat.le_of_ble_eq_true rfl) ⟨Nat.zero_le _, Nat.zero_le _⟩ dX2_takeVote_20) hS (fun r_20 u_20 H locs hq_20 hP hS => ?_)
    have hP := k_su hq_20.2 hP
    refine k_ti hq_20.1 ?_
    have ok_20 : okC G ((sndM ((cHaveV (gn G) u v x b)).1 (11 * b + 1 + x) (nI (2 ^ gn G - 1)) (gn G), ((cHaveV (gn G) u v x b)).2)) := ok_snd (ok_3) _ _ _
    refine lv_pop hx hb dX2_takeVote_23 rfl ?_
    exact k_retv X hr hlocks hP hS dX2_takeVote_24 (by rw [cTakeV, if_neg (by rw [c_10]; decide)]; rfl)

set_option maxHeartbeats 4000000 in
set_option maxRecDepth 100000 in
theorem m2_look (l : Launch) (G : kG) (u : CS) (hL : lay G) (hk : okC G u) {v : Nat} (hv : v < gn G) : KMv l G (AC G) (wC G) yX2_look cX2_look 3 (Option.none : Option FieldType) ({ frames := 3, cells := 0, slots := 0, locals := 73 }) [.ref (gL G 0), .ref (gL G (11 + 5 * v))] u (fun u' => u' = cLook (gn G) u v) := by
  refine K_of (by decide) (Nat.le_of_ble_eq_true rfl) ?_
  intro p e s m below meth c X hr hlocks hnm hK hP ls hl
  have hx := X.1
  have hb := X.2.1
  have hown := X.2.2.2.1
  have hts := X.2.2.2.2
  have hS : va_S (AC G) s.heap s.heap [] := va_S.rf
  have hl : lv_has ls 3 [(0, .ref (gL G 0)), (1, .ref (gL G (11 + 5 * v)))] := hl
  obtain ⟨kn4, kn10, kT1, kT61, kP40, kLd, kPar, kEp, kHt, kFc, kVf, kTp, kHf⟩ := id hk
  refine lv_aload_n hx hb dX2_look_0 rfl (lv_at hl 1 rfl) ?_
  refine k_gn (v := .int (bI ((mFa u.1) v))) X hK inX1 rfl hP (wC_n0 G u hv) 3 (by decide) ntw_1_83 rfl dX2_look_1 ?_
  refine lv_if_eq (tgt := 11) hx hb dX2_look_4 (by decide) (fun c_4 => ?_) (fun c_4 => ?_)
  · have c_4 : ((mFa u.1) v) = false := (bI_eq0 _).mp c_4
    refine lv_aload_n hx hb dX2_look_11 rfl (lv_at hl 1 rfl) ?_
    refine lv_aload_n hx hb dX2_look_12 rfl (lv_at hl 0 rfl) ?_
    refine k_get (v := .int (nI (mP u.1))) X hK inX2 rfl hP (wC_g G u (k := 0) (by decide)) 3 (by decide) tw_1_142 rfl dX2_look_13 ?_
    refine k_ci (k_runN (As := [.int (nI (mP u.1))]) (rest := []) X hK hP (wC_n0 G u hv) rfl (m1_choice l G u hL (hk) (v := v) hv (q := (mP u.1)) (by omega)) ⟨rfl, rfl⟩ ntw_2_4 tw_2_6 tw_0_14 tw_1_4 tw_2_7 ⟨by decide +kernel, by decide +kernel, (by decide +kernel : (parseMethodDescriptor yX1_choice.desc).map (fun d => d.parameters.length) = some 1)⟩ ⟨Nat.le_of_ble_eq_true rfl, Nat.le_of_ble_eq_true rfl⟩ hl.1 rfl (Nat.le_of_ble_eq_true rfl) ⟨Nat.zero_le _, Nat.zero_le _⟩ dX2_look_16) hS (fun r_16 u_16 H locs hq_16 hP hS => ?_)
    have hP := k_su hq_16.2 hP
    refine k_ti hq_16.1 ?_
    rcases Nat.eq_zero_or_pos (cChoice u.1 u.2 v (mP u.1)) with hCz | hCz
    · refine k_ti (show oI (cChoice u.1 u.2 v (mP u.1)) = -1 by rw [hCz]; rfl) ?_
      refine lv_istore_n (lv' := [(2, .int (-1)), (0, .ref (gL G 0)), (1, .ref (gL G (11 + 5 * v)))]) hx hb dX2_look_19 rfl hl (by decide) rfl (fun ls hl => ?_)
      refine lv_iload_n hx hb dX2_look_20 rfl (lv_at hl 0 rfl) ?_
      refine lv_iconst (v := -1) hx hb dX2_look_21 (by decide) ?_
      refine lv_icmp_eq (tgt := 68) hx hb dX2_look_22 (by decide) (fun c_22 => ?_) (fun c_22 => ?_)
      · exact k_retv X hr hlocks hP hS dX2_look_68 (by rw [cLook, if_pos (by first | (rw [cCh, if_pos c_4]; done) | (rw [cCh, if_neg (by rw [c_4]; decide)]; exact hCz))])
      · exact absurd rfl c_22
    · obtain ⟨ch, hch⟩ : ∃ ch, cChoice u.1 u.2 v (mP u.1) = ch := ⟨_, rfl⟩
      rw [hch] at hCz
      have hce : cCh u v = ch := by rw [cCh, if_neg (by rw [c_4]; decide), hch]
      have hcl : ch < mT u.1 := hce ▸ cCh_lt hk v
      refine k_ti (y := nI ch) (by rw [hch]; exact (oI_pos hCz).symm) ?_
      refine lv_istore_n (lv' := [(2, .int (nI ch)), (0, .ref (gL G 0)), (1, .ref (gL G (11 + 5 * v)))]) hx hb dX2_look_19 rfl hl (by decide) rfl (fun ls hl => ?_)
      refine lv_iload_n hx hb dX2_look_20 rfl (lv_at hl 0 rfl) ?_
      refine lv_iconst (v := -1) hx hb dX2_look_21 (by decide) ?_
      refine lv_icmp_eq (tgt := 68) hx hb dX2_look_22 (by decide) (fun c_22 => ?_) (fun c_22 => ?_)
      · exact absurd c_22 (m1_ne (by omega))
      · refine lv_aload_n hx hb dX2_look_25 rfl (lv_at hl 2 rfl) ?_
        refine k_gn (v := .ref (gL G (15 + 5 * v))) X hK inX1 rfl hP (wC_n0 G u hv) 10 (by decide) ntw_1_95 rfl dX2_look_26 ?_
        refine lv_aload_n hx hb dX2_look_29 rfl (lv_at hl 1 rfl) ?_
        refine k_get (v := .int (nI (mP u.1))) X hK inX2 rfl hP (wC_g G u (k := 0) (by decide)) 3 (by decide) tw_1_142 rfl dX2_look_30 ?_
        refine lv_iload_n hx hb dX2_look_33 rfl (lv_at hl 0 rfl) ?_
        refine k_ti (oI_pos hCz) ?_
        refine k_ist (x := oI ch) X hK hP (wC_D hL _) hS (wC_n4 G u hv) (by omega) (by decide) ((sVf u.1 (up2 (mVf u.1) v (mP u.1) ch), u.2)) (cn_vf G u hv (mP u.1) ch) dX2_look_34 (fun H locs hP hS => ?_)
        have ok_34 : okC G ((sVf u.1 (up2 (mVf u.1) v (mP u.1) ch), u.2)) := ok_Vf hk (by omega)
        refine lv_aload_n hx hb dX2_look_35 rfl (lv_at hl 1 rfl) ?_
        refine lv_dup hx hb dX2_look_36 rfl ?_
        refine k_get (v := .int (nI (mG u.1))) X hK inX2 rfl hP (wC_g G ((sVf u.1 (up2 (mVf u.1) v (mP u.1) ch), u.2)) (k := 0) (by decide)) 4 (by decide) tw_1_143 rfl dX2_look_37 ?_
        refine lv_iconst (v := nI 1) hx hb dX2_look_40 (by decide) ?_
        refine lv_iadd hx hb dX2_look_41 ?_
        refine k_ti (nI_add (mG u.1) 1) ?_
        refine k_put (v := .int (nI ((mG u.1) + 1))) X hK inX2 rfl tyX2_ok nmX2 hP (wC_D hL _) hS (wC_g G ((sVf u.1 (up2 (mVf u.1) v (mP u.1) ch), u.2)) (k := 0) (by decide)) 4 (by decide) tw_1_143 rfl rfl rfl (Nat.le_of_ble_eq_true rfl) ((sG (sVf u.1 (up2 (mVf u.1) v (mP u.1) ch)) ((mG u.1) + 1), u.2)) (cs_G G ((sVf u.1 (up2 (mVf u.1) v (mP u.1) ch), u.2)) ((mG u.1) + 1)) dX2_look_42 (fun H locs hP hS => ?_)
        have ok_42 : okC G ((sG (sVf u.1 (up2 (mVf u.1) v (mP u.1) ch)) ((mG u.1) + 1), u.2)) := ok_34
        refine lv_aload_n hx hb dX2_look_45 rfl (lv_at hl 2 rfl) ?_
        refine lv_aload_n hx hb dX2_look_46 rfl (lv_at hl 2 rfl) ?_
        refine k_gn (v := .int (nI v)) X hK inX1 rfl hP (wC_n0 G ((sG (sVf u.1 (up2 (mVf u.1) v (mP u.1) ch)) ((mG u.1) + 1), u.2)) hv) 0 (by decide) ntw_1_80 rfl dX2_look_47 ?_
        refine lv_iload_n hx hb dX2_look_50 rfl (lv_at hl 0 rfl) ?_
        refine k_cv (k_runN (As := [.int (nI v), .int (nI ch)]) (rest := []) X hK hP (wC_n0 G ((sG (sVf u.1 (up2 (mVf u.1) v (mP u.1) ch)) ((mG u.1) + 1), u.2)) hv) rfl (m1_haveVote l G ((sG (sVf u.1 (up2 (mVf u.1) v (mP u.1) ch)) ((mG u.1) + 1), u.2)) hL (ok_42) (v := v) hv (b := ch) (x := v) (by omega) (show ch < mT u.1 by omega) (by omega)) ⟨rfl, rfl⟩ ntw_2_8 tw_2_10 tw_0_15 tw_1_4 tw_2_11 ⟨by decide +kernel, by decide +kernel, (by decide +kernel : (parseMethodDescriptor yX1_haveVote.desc).map (fun d => d.parameters.length) = some 2)⟩ ⟨Nat.le_of_ble_eq_true rfl, Nat.le_of_ble_eq_true rfl⟩ hl.1 rfl (Nat.le_of_ble_eq_true rfl) ⟨Nat.zero_le _, Nat.zero_le _⟩ dX2_look_51) hS (fun u_51 H locs hq_51 hP hS => ?_)
        have hP := k_su hq_51 hP
        have ok_51 : okC G ((cHaveV (gn G) ((sG (sVf u.1 (up2 (mVf u.1) v (mP u.1) ch)) ((mG u.1) + 1), u.2)) v v ch)) := ok_cHaveV (ok_42) (show ch < mT u.1 by omega)
        refine lv_aload_n hx hb dX2_look_54 rfl (lv_at hl 1 rfl) ?_
        refine lv_aload_n hx hb dX2_look_55 rfl (lv_at hl 2 rfl) ?_
        refine k_gn (v := .int (nI v)) X hK inX1 rfl hP (wC_n0 G ((cHaveV (gn G) ((sG (sVf u.1 (up2 (mVf u.1) v (mP u.1) ch)) ((mG u.1) + 1), u.2)) v v ch)) hv) 0 (by decide) ntw_1_80 rfl dX2_look_56 ?_
        refine lv_iload_n hx hb dX2_look_59 rfl (lv_at hl 0 rfl) ?_
        refine lv_aload_n hx hb dX2_look_60 rfl (lv_at hl 1 rfl) ?_
        refine k_ci (k_runV (As := []) (rest := [.int (nI ch), .int (nI v), .ref (gL G 0)]) X hK hP (wC_g G ((cHaveV (gn G) ((sG (sVf u.1 (up2 (mVf u.1) v (mP u.1) ch)) ((mG u.1) + 1), u.2)) v v ch)) (k := 0) (by decide)) rfl (m2_allNodes l G ((cHaveV (gn G) ((sG (sVf u.1 (up2 (mVf u.1) v (mP u.1) ch)) ((mG u.1) + 1), u.2)) v v ch)) hL (ok_51)) ⟨rfl, rfl⟩ tw_1_227 tw_1_229 tw_0_10 tw_1_1 tw_1_230 ⟨by decide +kernel, by decide +kernel, (by decide +kernel : (parseMethodDescriptor yX2_allNodes.desc).map (fun d => d.parameters.length) = some 0)⟩ ⟨Nat.le_of_ble_eq_true rfl, Nat.le_of_ble_eq_true rfl⟩ hl.1 rfl (Nat.le_of_ble_eq_true rfl) ⟨Nat.zero_le _, Nat.zero_le _⟩ dX2_look_61) hS (fun r_61 u_61 H locs hq_61 hP hS => ?_)
        have hP := k_su hq_61.2 hP
        refine k_ti hq_61.1 ?_
        refine k_ci (k_runV (As := [.int (nI v), .int (nI ch), .int (nI (2 ^ gn G - 1))]) (rest := []) X hK hP (wC_g G ((cHaveV (gn G) ((sG (sVf u.1 (up2 (mVf u.1) v (mP u.1) ch)) ((mG u.1) + 1), u.2)) v v ch)) (k := 0) (by decide)) rfl (m2_sendVote l G ((cHaveV (gn G) ((sG (sVf u.1 (up2 (mVf u.1) v (mP u.1) ch)) ((mG u.1) + 1), u.2)) v v ch)) hL (ok_51) (b := ch) (x := v) (by omega) (by omega) (nI (2 ^ gn G - 1))) ⟨rfl, rfl⟩ tw_2_12 tw_2_14 tw_0_16 tw_1_1 tw_2_15 ⟨by decide +kernel, by decide +kernel, (by decide +kernel : (parseMethodDescriptor yX2_sendVote.desc).map (fun d => d.parameters.length) = some 3)⟩ ⟨Nat.le_of_ble_eq_true rfl, Nat.le_of_ble_eq_true rfl⟩ hl.1 rfl (Nat.le_of_ble_eq_true rfl) ⟨Nat.zero_le _, Nat.zero_le _⟩ dX2_look_64) hS (fun r_64 u_64 H locs hq_64 hP hS => ?_)
        have hP := k_su hq_64.2 hP
        refine k_ti hq_64.1 ?_
        have ok_64 : okC G ((sndM ((cHaveV (gn G) ((sG (sVf u.1 (up2 (mVf u.1) v (mP u.1) ch)) ((mG u.1) + 1), u.2)) v v ch)).1 (11 * ch + 1 + v) (nI (2 ^ gn G - 1)) (gn G), ((cHaveV (gn G) ((sG (sVf u.1 (up2 (mVf u.1) v (mP u.1) ch)) ((mG u.1) + 1), u.2)) v v ch)).2)) := ok_snd (ok_51) _ _ _
        refine lv_pop hx hb dX2_look_67 rfl ?_
        exact k_retv X hr hlocks hP hS dX2_look_68 (by rw [cLook, hce, if_neg (Nat.ne_of_gt hCz)]; rfl)
  · have c_4 : ((mFa u.1) v) = true := (bI_ne0 _).mp c_4
    refine lv_iconst (v := -1) hx hb dX2_look_7 (by decide) ?_
    refine lv_goto (tgt := 19) hx hb dX2_look_8 (by decide) ?_
    refine lv_istore_n (lv' := [(2, .int (-1)), (0, .ref (gL G 0)), (1, .ref (gL G (11 + 5 * v)))]) hx hb dX2_look_19 rfl hl (by decide) rfl (fun ls hl => ?_)
    refine lv_iload_n hx hb dX2_look_20 rfl (lv_at hl 0 rfl) ?_
    refine lv_iconst (v := -1) hx hb dX2_look_21 (by decide) ?_
    refine lv_icmp_eq (tgt := 68) hx hb dX2_look_22 (by decide) (fun c_22 => ?_) (fun c_22 => ?_)
    · exact k_retv X hr hlocks hP hS dX2_look_68 (by rw [cLook, if_pos (by first | (rw [cCh, if_pos c_4]; done) | (rw [cCh, if_neg (by rw [c_4]; decide)]; exact hCz))])
    · exact absurd rfl c_22

set_option maxHeartbeats 4000000 in
set_option maxRecDepth 100000 in
theorem m2_letProposalCome (l : Launch) (G : kG) (u : CS) (hL : lay G) (hk : okC G u) {v : Nat} (hv : v < gn G) {b : Nat} (hb0 : 0 < b) (hbT : b < mT u.1) : KMv l G (AC G) (wC G) yX2_letProposalCome cX2_letProposalCome 3 (Option.none : Option FieldType) ({ frames := 4, cells := 0, slots := 0, locals := 95 }) [.ref (gL G 0), .ref (gL G (11 + 5 * v)), .int (nI b)] u (fun u' => u' = cLetP (gn G) u v b) := by
  refine K_of (by decide) (Nat.le_of_ble_eq_true rfl) ?_
  intro p e s m below meth c X hr hlocks hnm hK hP ls hl
  have hx := X.1
  have hb := X.2.1
  have hown := X.2.2.2.1
  have hts := X.2.2.2.2
  have hS : va_S (AC G) s.heap s.heap [] := va_S.rf
  have hl : lv_has ls 3 [(0, .ref (gL G 0)), (1, .ref (gL G (11 + 5 * v))), (2, .int (nI b))] := hl
  obtain ⟨kn4, kn10, kT1, kT61, kP40, kLd, kPar, kEp, kHt, kFc, kVf, kTp, kHf⟩ := id hk
  refine lv_aload_n hx hb dX2_letProposalCome_0 rfl (lv_at hl 0 rfl) ?_
  refine lv_dup hx hb dX2_letProposalCome_1 rfl ?_
  refine k_get (v := .int (nI (mC u.1))) X hK inX2 rfl hP (wC_g G u (k := 0) (by decide)) 5 (by decide) tw_1_144 rfl dX2_letProposalCome_2 ?_
  refine lv_iconst (v := nI 1) hx hb dX2_letProposalCome_5 (by decide) ?_
  refine lv_iadd hx hb dX2_letProposalCome_6 ?_
  refine k_ti (nI_add (mC u.1) 1) ?_
  refine k_put (v := .int (nI ((mC u.1) + 1))) X hK inX2 rfl tyX2_ok nmX2 hP (wC_D hL _) hS (wC_g G u (k := 0) (by decide)) 5 (by decide) tw_1_144 rfl rfl rfl (Nat.le_of_ble_eq_true rfl) ((sC u.1 ((mC u.1) + 1), u.2)) (cs_C G u ((mC u.1) + 1)) dX2_letProposalCome_7 (fun H locs hP hS => ?_)
  have ok_7 : okC G ((sC u.1 ((mC u.1) + 1), u.2)) := hk
  refine lv_aload_n hx hb dX2_letProposalCome_10 rfl (lv_at hl 0 rfl) ?_
  refine lv_aload_n hx hb dX2_letProposalCome_11 rfl (lv_at hl 1 rfl) ?_
  refine lv_iload_n hx hb dX2_letProposalCome_12 rfl (lv_at hl 2 rfl) ?_
  refine k_cv (k_runV (As := [.ref (gL G (11 + 5 * v)), .int (nI b)]) (rest := []) X hK hP (wC_g G ((sC u.1 ((mC u.1) + 1), u.2)) (k := 0) (by decide)) rfl (m2_takeProposal l G ((sC u.1 ((mC u.1) + 1), u.2)) hL (ok_7) (v := v) hv (b := b) (by omega) (show b < mT u.1 by omega)) ⟨rfl, rfl⟩ tw_1_197 tw_1_199 tw_0_5 tw_1_1 tw_1_200 ⟨by decide +kernel, by decide +kernel, (by decide +kernel : (parseMethodDescriptor yX2_takeProposal.desc).map (fun d => d.parameters.length) = some 2)⟩ ⟨Nat.le_of_ble_eq_true rfl, Nat.le_of_ble_eq_true rfl⟩ hl.1 rfl (Nat.le_of_ble_eq_true rfl) ⟨Nat.zero_le _, Nat.zero_le _⟩ dX2_letProposalCome_13) hS (fun u_13 H locs hq_13 hP hS => ?_)
  have hP := k_su hq_13 hP
  have ok_13 : okC G ((cTakeP (gn G) ((sC u.1 ((mC u.1) + 1), u.2)) v b)) := ok_takeP (ok_7) (show b < mT u.1 by omega)
  refine lv_aload_n hx hb dX2_letProposalCome_16 rfl (lv_at hl 0 rfl) ?_
  refine lv_aload_n hx hb dX2_letProposalCome_17 rfl (lv_at hl 1 rfl) ?_
  refine k_cv (k_runV (As := [.ref (gL G (11 + 5 * v))]) (rest := []) X hK hP (wC_g G ((cTakeP (gn G) ((sC u.1 ((mC u.1) + 1), u.2)) v b)) (k := 0) (by decide)) rfl (m2_look l G ((cTakeP (gn G) ((sC u.1 ((mC u.1) + 1), u.2)) v b)) hL (ok_13) (v := v) hv) ⟨rfl, rfl⟩ tw_2_0 tw_2_2 tw_0_13 tw_1_1 tw_2_3 ⟨by decide +kernel, by decide +kernel, (by decide +kernel : (parseMethodDescriptor yX2_look.desc).map (fun d => d.parameters.length) = some 1)⟩ ⟨Nat.le_of_ble_eq_true rfl, Nat.le_of_ble_eq_true rfl⟩ hl.1 rfl (Nat.le_of_ble_eq_true rfl) ⟨Nat.zero_le _, Nat.zero_le _⟩ dX2_letProposalCome_18) hS (fun u_18 H locs hq_18 hP hS => ?_)
  have hP := k_su hq_18 hP
  have ok_18 : okC G ((cLook (gn G) ((cTakeP (gn G) ((sC u.1 ((mC u.1) + 1), u.2)) v b)) v)) := ok_look (ok_13) _
  exact k_retv X hr hlocks hP hS dX2_letProposalCome_21 rfl

set_option maxHeartbeats 4000000 in
set_option maxRecDepth 100000 in
theorem m2_letVoteCome (l : Launch) (G : kG) (u : CS) (hL : lay G) (hk : okC G u) {v : Nat} (hv : v < gn G) {b x : Nat} (hb0 : 0 < b) (hbT : b < mT u.1) (hxx : x < 10) : KMv l G (AC G) (wC G) yX2_letVoteCome cX2_letVoteCome 4 (Option.none : Option FieldType) ({ frames := 4, cells := 0, slots := 0, locals := 96 }) [.ref (gL G 0), .ref (gL G (11 + 5 * v)), .int (nI x), .int (nI b)] u (fun u' => u' = cLetV (gn G) u v x b) := by
  refine K_of (by decide) (Nat.le_of_ble_eq_true rfl) ?_
  intro p e s m below meth c X hr hlocks hnm hK hP ls hl
  have hx := X.1
  have hb := X.2.1
  have hown := X.2.2.2.1
  have hts := X.2.2.2.2
  have hS : va_S (AC G) s.heap s.heap [] := va_S.rf
  have hl : lv_has ls 4 [(0, .ref (gL G 0)), (1, .ref (gL G (11 + 5 * v))), (2, .int (nI x)), (3, .int (nI b))] := hl
  obtain ⟨kn4, kn10, kT1, kT61, kP40, kLd, kPar, kEp, kHt, kFc, kVf, kTp, kHf⟩ := id hk
  refine lv_aload_n hx hb dX2_letVoteCome_0 rfl (lv_at hl 0 rfl) ?_
  refine lv_dup hx hb dX2_letVoteCome_1 rfl ?_
  refine k_get (v := .int (nI (mC u.1))) X hK inX2 rfl hP (wC_g G u (k := 0) (by decide)) 5 (by decide) tw_1_144 rfl dX2_letVoteCome_2 ?_
  refine lv_iconst (v := nI 1) hx hb dX2_letVoteCome_5 (by decide) ?_
  refine lv_iadd hx hb dX2_letVoteCome_6 ?_
  refine k_ti (nI_add (mC u.1) 1) ?_
  refine k_put (v := .int (nI ((mC u.1) + 1))) X hK inX2 rfl tyX2_ok nmX2 hP (wC_D hL _) hS (wC_g G u (k := 0) (by decide)) 5 (by decide) tw_1_144 rfl rfl rfl (Nat.le_of_ble_eq_true rfl) ((sC u.1 ((mC u.1) + 1), u.2)) (cs_C G u ((mC u.1) + 1)) dX2_letVoteCome_7 (fun H locs hP hS => ?_)
  have ok_7 : okC G ((sC u.1 ((mC u.1) + 1), u.2)) := hk
  refine lv_aload_n hx hb dX2_letVoteCome_10 rfl (lv_at hl 0 rfl) ?_
  refine lv_aload_n hx hb dX2_letVoteCome_11 rfl (lv_at hl 1 rfl) ?_
  refine lv_iload_n hx hb dX2_letVoteCome_12 rfl (lv_at hl 2 rfl) ?_
  refine lv_iload_n hx hb dX2_letVoteCome_13 rfl (lv_at hl 3 rfl) ?_
  refine k_cv (k_runV (As := [.ref (gL G (11 + 5 * v)), .int (nI x), .int (nI b)]) (rest := []) X hK hP (wC_g G ((sC u.1 ((mC u.1) + 1), u.2)) (k := 0) (by decide)) rfl (m2_takeVote l G ((sC u.1 ((mC u.1) + 1), u.2)) hL (ok_7) (v := v) hv (b := b) (x := x) (by omega) (show b < mT u.1 by omega) (by omega)) ⟨rfl, rfl⟩ tw_2_40 tw_2_42 tw_0_21 tw_1_1 tw_2_43 ⟨by decide +kernel, by decide +kernel, (by decide +kernel : (parseMethodDescriptor yX2_takeVote.desc).map (fun d => d.parameters.length) = some 3)⟩ ⟨Nat.le_of_ble_eq_true rfl, Nat.le_of_ble_eq_true rfl⟩ hl.1 rfl (Nat.le_of_ble_eq_true rfl) ⟨Nat.zero_le _, Nat.zero_le _⟩ dX2_letVoteCome_14) hS (fun u_14 H locs hq_14 hP hS => ?_)
  have hP := k_su hq_14 hP
  have ok_14 : okC G ((cTakeV (gn G) ((sC u.1 ((mC u.1) + 1), u.2)) v x b)) := ok_takeV (ok_7) (show b < mT u.1 by omega)
  refine lv_aload_n hx hb dX2_letVoteCome_17 rfl (lv_at hl 0 rfl) ?_
  refine lv_aload_n hx hb dX2_letVoteCome_18 rfl (lv_at hl 1 rfl) ?_
  refine k_cv (k_runV (As := [.ref (gL G (11 + 5 * v))]) (rest := []) X hK hP (wC_g G ((cTakeV (gn G) ((sC u.1 ((mC u.1) + 1), u.2)) v x b)) (k := 0) (by decide)) rfl (m2_look l G ((cTakeV (gn G) ((sC u.1 ((mC u.1) + 1), u.2)) v x b)) hL (ok_14) (v := v) hv) ⟨rfl, rfl⟩ tw_2_0 tw_2_2 tw_0_13 tw_1_1 tw_2_3 ⟨by decide +kernel, by decide +kernel, (by decide +kernel : (parseMethodDescriptor yX2_look.desc).map (fun d => d.parameters.length) = some 1)⟩ ⟨Nat.le_of_ble_eq_true rfl, Nat.le_of_ble_eq_true rfl⟩ hl.1 rfl (Nat.le_of_ble_eq_true rfl) ⟨Nat.zero_le _, Nat.zero_le _⟩ dX2_letVoteCome_19) hS (fun u_19 H locs hq_19 hP hS => ?_)
  have hP := k_su hq_19 hP
  have ok_19 : okC G ((cLook (gn G) ((cTakeV (gn G) ((sC u.1 ((mC u.1) + 1), u.2)) v x b)) v)) := ok_look (ok_14) _
  exact k_retv X hr hlocks hP hS dX2_letVoteCome_22 rfl
end
section
set_option maxHeartbeats 4000000 in
set_option maxRecDepth 100000 in
theorem m2_letAllCome (l : Launch) (G : kG) (u : CS) (hL : lay G) (hk : okC G u) {v : Nat} (hv : v < gn G) : KMi l G (AC G) (wC G) yX2_letAllCome cX2_letAllCome 5 (Option.some FieldType.int) ({ frames := 5, cells := 0, slots := 0, locals := 119 }) [.ref (gL G 0), .ref (gL G (11 + 5 * v))] u (fun r u' => r = nI (mC (cFlow (gn G) u v).1) - nI (mC u.1) ∧ u' = cFlow (gn G) u v) := by
  refine K_of (by decide) (Nat.le_of_ble_eq_true rfl) ?_
  intro p e s m below meth c X hr hlocks hnm hK hP ls hl
  have hx := X.1
  have hb := X.2.1
  have hown := X.2.2.2.1
  have hts := X.2.2.2.2
  have hS : va_S (AC G) s.heap s.heap [] := va_S.rf
  have hl : lv_has ls 5 [(0, .ref (gL G 0)), (1, .ref (gL G (11 + 5 * v)))] := hl
  obtain ⟨kn4, kn10, kT1, kT61, kP40, kLd, kPar, kEp, kHt, kFc, kVf, kTp, kHf⟩ := id hk
  refine lv_aload_n hx hb dX2_letAllCome_0 rfl (lv_at hl 0 rfl) ?_
  refine k_get (v := .int (nI (mC u.1))) X hK inX2 rfl hP (wC_g G u (k := 0) (by decide)) 5 (by decide) tw_1_144 rfl dX2_letAllCome_1 ?_
  refine lv_istore_n (lv' := [(2, .int (nI (mC u.1))), (0, .ref (gL G 0)), (1, .ref (gL G (11 + 5 * v)))]) hx hb dX2_letAllCome_4 rfl hl (by decide) rfl (fun ls hl => ?_)
  refine lv_iconst (v := nI 1) hx hb dX2_letAllCome_5 (by decide) ?_
  refine lv_istore_n (lv' := [(3, .int (nI 1)), (2, .int (nI (mC u.1))), (0, .ref (gL G 0)), (1, .ref (gL G (11 + 5 * v)))]) hx hb dX2_letAllCome_6 rfl hl (by decide) rfl (fun ls hl => ?_)
  have loop_7 : ∀ (d_7 : Nat) (i : Nat) (w : CS), mT u.1 - i = d_7 → (1 ≤ i) → (i ≤ mT u.1) → (w = fB (gn G) v u (i - 1)) → ∀ (H : Heap) (locs : List Loc) (ls : Array Slot), va_P (gD G) vwCl ((wC G) w) H → va_S (AC G) s.heap H locs → lv_has ls 5 [(0, .ref (gL G 0)), (1, .ref (gL G (11 + 5 * v))), (2, .int (nI (mC u.1))), (3, .int (nI i))] → W p l e ({ frames := 5, cells := 0, slots := 0, locals := 119 } : Room) s m ([.ref (gL G 0), .ref (gL G (11 + 5 * v))] : List Value).toArray below meth c H locs 0 0 (MQ below (va_Qi (fun r u' => r = nI (mC (cFlow (gn G) u v).1) - nI (mC u.1) ∧ u' = cFlow (gn G) u v) (KB G (wC G)) (AC G)) ([.ref (gL G 0), .ref (gL G (11 + 5 * v))] : List Value).toArray s 0 0 (AC G)) (F0 m 7 ls []) := by
    intro d_7
    induction d_7 using Nat.strongRecOn with
    | ind d_7 ih_7 =>
      intro i w hd_7 hi1 hi hw H locs ls hP hS hl
      have hok : okC G w := by rw [hw]; exact ok_fB hk (by omega)
      have hwT : mT w.1 = mT u.1 := by rw [hw]; exact stat_T (st_fB _ _ _ _)
      have join_86 : ∀ (w3 : CS) (hiT : i < mT u.1) (hw3 : w3 = fV (gn G) v i (fP (gn G) v i w) (gn G)) (H : Heap) (locs : List Loc) (ls : Array Slot), va_P (gD G) vwCl ((wC G) w3) H → va_S (AC G) s.heap H locs → lv_has ls 5 [(0, .ref (gL G 0)), (1, .ref (gL G (11 + 5 * v))), (2, .int (nI (mC u.1))), (3, .int (nI i))] → W p l e ({ frames := 5, cells := 0, slots := 0, locals := 119 } : Room) s m ([.ref (gL G 0), .ref (gL G (11 + 5 * v))] : List Value).toArray below meth c H locs 0 0 (MQ below (va_Qi (fun r u' => r = nI (mC (cFlow (gn G) u v).1) - nI (mC u.1) ∧ u' = cFlow (gn G) u v) (KB G (wC G)) (AC G)) ([.ref (gL G 0), .ref (gL G (11 + 5 * v))] : List Value).toArray s 0 0 (AC G)) (F0 m 86 ls []) := by
        intro w3 hiT hw3 H locs ls hP hS hl
        refine lv_iinc (v := nI (i + 1)) (lv' := [(3, .int (nI (i + 1))), (0, .ref (gL G 0)), (1, .ref (gL G (11 + 5 * v))), (2, .int (nI (mC u.1)))]) hx hb dX2_letAllCome_86 hl (k := 3) rfl (nI_add i 1) (by decide) rfl (fun ls hl => ?_)
        refine lv_goto (tgt := 7) hx hb dX2_letAllCome_89 (by decide) ?_
        exact ih_7 (mT u.1 - (i + 1)) (by omega) (i + 1) w3 rfl (by omega) (hiT) (by rw [show i + 1 - 1 = (i - 1) + 1 by omega, fB, show i - 1 + 1 = i by omega, ← hw]; exact hw3) _ _ _ hP hS (lv_sub hl [1, 2, 3, 0] rfl)
      have join_35 : ∀ (w1 : CS) (hiT : i < mT u.1) (hw1 : w1 = fP (gn G) v i w) (H : Heap) (locs : List Loc) (ls : Array Slot), va_P (gD G) vwCl ((wC G) w1) H → va_S (AC G) s.heap H locs → lv_has ls 5 [(0, .ref (gL G 0)), (1, .ref (gL G (11 + 5 * v))), (2, .int (nI (mC u.1))), (3, .int (nI i))] → W p l e ({ frames := 5, cells := 0, slots := 0, locals := 119 } : Room) s m ([.ref (gL G 0), .ref (gL G (11 + 5 * v))] : List Value).toArray below meth c H locs 0 0 (MQ below (va_Qi (fun r u' => r = nI (mC (cFlow (gn G) u v).1) - nI (mC u.1) ∧ u' = cFlow (gn G) u v) (KB G (wC G)) (AC G)) ([.ref (gL G 0), .ref (gL G (11 + 5 * v))] : List Value).toArray s 0 0 (AC G)) (F0 m 35 ls []) := by
        intro w1 hiT hw1 H locs ls hP hS hl
        have hok1 : okC G w1 := by rw [hw1]; exact ok_fP hok (by omega)
        have hw1T : mT w1.1 = mT u.1 := by rw [hw1, stat_T (st_fP _ _ _ _)]; exact hwT
        refine lv_iconst (v := nI 0) hx hb dX2_letAllCome_35 (by decide) ?_
        refine lv_istore (lv' := [(4, .int (nI 0)), (0, .ref (gL G 0)), (1, .ref (gL G (11 + 5 * v))), (2, .int (nI (mC u.1))), (3, .int (nI i))]) hx hb dX2_letAllCome_36 hl (by decide) rfl (fun ls hl => ?_)
        have loop_38 : ∀ (d_38 : Nat) (x : Nat) (w2 : CS), gn G - x = d_38 → (x ≤ gn G) → (w2 = fV (gn G) v i w1 x) → ∀ (H : Heap) (locs : List Loc) (ls : Array Slot), va_P (gD G) vwCl ((wC G) w2) H → va_S (AC G) s.heap H locs → lv_has ls 5 [(0, .ref (gL G 0)), (1, .ref (gL G (11 + 5 * v))), (2, .int (nI (mC u.1))), (3, .int (nI i)), (4, .int (nI x))] → W p l e ({ frames := 5, cells := 0, slots := 0, locals := 119 } : Room) s m ([.ref (gL G 0), .ref (gL G (11 + 5 * v))] : List Value).toArray below meth c H locs 0 0 (MQ below (va_Qi (fun r u' => r = nI (mC (cFlow (gn G) u v).1) - nI (mC u.1) ∧ u' = cFlow (gn G) u v) (KB G (wC G)) (AC G)) ([.ref (gL G 0), .ref (gL G (11 + 5 * v))] : List Value).toArray s 0 0 (AC G)) (F0 m 38 ls []) := by
          intro d_38
          induction d_38 using Nat.strongRecOn with
          | ind d_38 ih_38 =>
            intro x w2 hd_38 hxn hw2 H locs ls hP hS hl
            have hok2 : okC G w2 := by rw [hw2]; exact ok_fV hok1 (by omega) _
            have hw2T : mT w2.1 = mT u.1 := by rw [hw2, stat_T (st_fV _ _ _ _ _)]; exact hw1T
            refine lv_iload hx hb dX2_letAllCome_38 (lv_at hl 4 rfl) ?_
            refine lv_aload_n hx hb dX2_letAllCome_40 rfl (lv_at hl 0 rfl) ?_
            refine k_get (v := .ref (gL G 1)) X hK inX2 rfl hP (wC_g G w2 (k := 0) (by decide)) 1 (by decide) tw_1_140 rfl dX2_letAllCome_41 ?_
            refine k_len X hK hP (wC_g G w2 (k := 1) (by decide)) dX2_letAllCome_44 ?_
            refine lv_icmp_ge (tgt := 86) hx hb dX2_letAllCome_45 (by decide) (fun c_45 => ?_) (fun c_45 => ?_)
            · have c_45 : (gn G) ≤ x := cLe c_45 (by omega) (by omega)
              exact join_86 w2 (hiT) (by first | (rw [hw2, show x = gn G by omega]; exact (by rw [hw1])) | (rw [← hw1]; rw [hw2]; exact (hstop).symm)) _ _ _ hP hS (lv_sub hl [0, 1, 2, 3] rfl)
            · have c_45 : x < (gn G) := cNle c_45 (by omega) (by omega)
              refine lv_aload_n hx hb dX2_letAllCome_48 rfl (lv_at hl 1 rfl) ?_
              refine k_gn (v := .ref (gL G (13 + 5 * v))) X hK inX1 rfl hP (wC_n0 G w2 hv) 8 (by decide) ntw_1_92 rfl dX2_letAllCome_49 ?_
              refine lv_iload_n hx hb dX2_letAllCome_52 rfl (lv_at hl 3 rfl) ?_
              refine k_ild (v := eI (vB (mWy w2.1) i v)) X hK hP (wC_n2 G w2 hv) (by omega) (by decide) rfl dX2_letAllCome_53 ?_
              refine lv_if_eq (tgt := 86) hx hb dX2_letAllCome_54 (by decide) (fun c_54 => ?_) (fun c_54 => ?_)
              · have hstop : fV (gn G) v i w1 (gn G) = fV (gn G) v i w1 x := by
                  have h := fV_stop (n := gn G) (v := v) (b := i) (u := w1) (i := x) (fun y h1 h2 => by
                    rw [← hw2]
                    have h3 : tI (eI (vB (mWy w2.1) i v)) y = false := by rw [c_54]; simp [tI]
                    rw [tI_eI _ (by omega)] at h3
                    simpa only [vB, decide_eq_true (show y < 10 by omega), Bool.true_and] using h3) (gn G - x) (by omega)
                  rw [show x + (gn G - x) = gn G by omega] at h
                  exact h
                exact join_86 w2 (hiT) (by first | (rw [hw2, show x = gn G by omega]; exact (by rw [hw1])) | (rw [← hw1]; rw [hw2]; exact (hstop).symm)) _ _ _ hP hS (lv_sub hl [0, 1, 2, 3] rfl)
              · refine lv_aload_n hx hb dX2_letAllCome_57 rfl (lv_at hl 1 rfl) ?_
                refine k_gn (v := .ref (gL G (13 + 5 * v))) X hK inX1 rfl hP (wC_n0 G w2 hv) 8 (by decide) ntw_1_92 rfl dX2_letAllCome_58 ?_
                refine lv_iload_n hx hb dX2_letAllCome_61 rfl (lv_at hl 3 rfl) ?_
                refine k_ild (v := eI (vB (mWy w2.1) i v)) X hK hP (wC_n2 G w2 hv) (by omega) (by decide) rfl dX2_letAllCome_62 ?_
                refine lv_i2l (v := (eI (vB (mWy w2.1) i v)).toInt64) hx hb dX2_letAllCome_63 rfl ?_
                refine lv_iload hx hb dX2_letAllCome_64 (lv_at hl 4 rfl) ?_
                refine k_ci (k_runS (As := [.long ((eI (vB (mWy w2.1) i v)).toInt64), .int (nI x)]) (rest := []) X hK hP (m2_holds l G (AC G) (wC G) w2 ((eI (vB (mWy w2.1) i v)).toInt64) (k := x) (by omega)) ⟨rfl, rfl⟩ tw_1_235 tw_1_211 tw_1_1 tw_1_212 ⟨by decide +kernel, by decide +kernel, (by decide +kernel : (parseMethodDescriptor yX2_holds.desc).map (fun d => d.parameters.length) = some 2)⟩ ⟨Nat.le_of_ble_eq_true rfl, Nat.le_of_ble_eq_true rfl⟩ hl.1 rfl (Nat.le_of_ble_eq_true rfl) ⟨Nat.zero_le _, Nat.zero_le _⟩ dX2_letAllCome_66) hS (fun r_66 u_66 H locs hq_66 hP hS => ?_)
                have hP := k_su hq_66.2 hP
                refine k_ti (y := bI (mWy w2.1 (11 * i + 1 + x) v)) (hq_66.1.trans (congrArg bI ((tL_wide _ (by omega)).trans ((tI_eI _ (by omega)).trans (by simp only [vB, decide_eq_true (show x < 10 by omega), Bool.true_and]))))) ?_
                refine lv_if_eq (tgt := 80) hx hb dX2_letAllCome_69 (by decide) (fun c_69 => ?_) (fun c_69 => ?_)
                · have c_69 : (mWy w2.1 (11 * i + 1 + x) v) = false := (bI_eq0 _).mp c_69
                  refine lv_iinc (v := nI (x + 1)) (lv' := [(4, .int (nI (x + 1))), (0, .ref (gL G 0)), (1, .ref (gL G (11 + 5 * v))), (2, .int (nI (mC u.1))), (3, .int (nI i))]) hx hb dX2_letAllCome_80 hl (k := 4) rfl (nI_add x 1) (by decide) rfl (fun ls hl => ?_)
                  refine lv_goto (tgt := 38) hx hb dX2_letAllCome_83 (by decide) ?_
                  exact ih_38 (gn G - (x + 1)) (by omega) (x + 1) w2 rfl (by omega) (by rw [fV, ← hw2, if_neg (by rw [c_69]; decide)]) _ _ _ hP hS (lv_sub hl [1, 2, 3, 4, 0] rfl)
                · have c_69 : (mWy w2.1 (11 * i + 1 + x) v) = true := (bI_ne0 _).mp c_69
                  refine lv_aload_n hx hb dX2_letAllCome_72 rfl (lv_at hl 0 rfl) ?_
                  refine lv_aload_n hx hb dX2_letAllCome_73 rfl (lv_at hl 1 rfl) ?_
                  refine lv_iload hx hb dX2_letAllCome_74 (lv_at hl 4 rfl) ?_
                  refine lv_iload_n hx hb dX2_letAllCome_76 rfl (lv_at hl 3 rfl) ?_
                  refine k_cv (k_runV (As := [.ref (gL G (11 + 5 * v)), .int (nI x), .int (nI i)]) (rest := []) X hK hP (wC_g G w2 (k := 0) (by decide)) rfl (m2_letVoteCome l G w2 hL (hok2) (v := v) hv (b := i) (x := x) (by omega) (show i < mT w2.1 by omega) (by omega)) ⟨rfl, rfl⟩ tw_2_36 tw_2_38 tw_0_20 tw_1_1 tw_2_39 ⟨by decide +kernel, by decide +kernel, (by decide +kernel : (parseMethodDescriptor yX2_letVoteCome.desc).map (fun d => d.parameters.length) = some 3)⟩ ⟨Nat.le_of_ble_eq_true rfl, Nat.le_of_ble_eq_true rfl⟩ hl.1 rfl (Nat.le_of_ble_eq_true rfl) ⟨Nat.zero_le _, Nat.zero_le _⟩ dX2_letAllCome_77) hS (fun u_77 H locs hq_77 hP hS => ?_)
                  have hP := k_su hq_77 hP
                  have ok_77 : okC G ((cLetV (gn G) w2 v x i)) := ok_letV (hok2) (show i < mT w2.1 by omega)
                  refine lv_iinc (v := nI (x + 1)) (lv' := [(4, .int (nI (x + 1))), (0, .ref (gL G 0)), (1, .ref (gL G (11 + 5 * v))), (2, .int (nI (mC u.1))), (3, .int (nI i))]) hx hb dX2_letAllCome_80 hl (k := 4) rfl (nI_add x 1) (by decide) rfl (fun ls hl => ?_)
                  refine lv_goto (tgt := 38) hx hb dX2_letAllCome_83 (by decide) ?_
                  exact ih_38 (gn G - (x + 1)) (by omega) (x + 1) ((cLetV (gn G) w2 v x i)) rfl (by omega) (by rw [fV, ← hw2, if_pos c_69]) _ _ _ hP hS (lv_sub hl [1, 2, 3, 4, 0] rfl)
        exact loop_38 _ 0 w1 rfl (Nat.zero_le _) (rfl) _ _ _ hP hS (lv_sub hl [1, 2, 3, 4, 0] rfl)
      refine lv_iload_n hx hb dX2_letAllCome_7 rfl (lv_at hl 3 rfl) ?_
      refine lv_aload_n hx hb dX2_letAllCome_8 rfl (lv_at hl 0 rfl) ?_
      refine k_get (v := .ref (gL G 3)) X hK inX2 rfl hP (wC_g G w (k := 0) (by decide)) 0 (by decide) tw_1_139 rfl dX2_letAllCome_9 ?_
      refine k_gn (v := .int (nI (mT w.1))) X hK inX0 rfl hP (wC_g G w (k := 3) (by decide)) 7 (by decide) ntw_1_49 rfl dX2_letAllCome_12 ?_
      refine k_ti (congrArg nI hwT) ?_
      refine lv_icmp_ge (tgt := 92) hx hb dX2_letAllCome_15 (by decide) (fun c_15 => ?_) (fun c_15 => ?_)
      · have c_15 : (mT u.1) ≤ i := cLe c_15 (by omega) (by omega)
        refine lv_aload_n hx hb dX2_letAllCome_92 rfl (lv_at hl 0 rfl) ?_
        refine k_get (v := .int (nI (mC w.1))) X hK inX2 rfl hP (wC_g G w (k := 0) (by decide)) 5 (by decide) tw_1_144 rfl dX2_letAllCome_93 ?_
        refine lv_iload_n hx hb dX2_letAllCome_96 rfl (lv_at hl 2 rfl) ?_
        refine lv_isub hx hb dX2_letAllCome_97 ?_
        exact k_reti X hr hlocks hP hS dX2_letAllCome_98 ⟨by rw [cFlow, show mT u.1 - 1 = i - 1 by omega, ← hw], by rw [cFlow, show mT u.1 - 1 = i - 1 by omega, ← hw]⟩
      · have c_15 : i < (mT u.1) := cNle c_15 (by omega) (by omega)
        have hiT : i < mT u.1 := c_15
        refine lv_aload_n hx hb dX2_letAllCome_18 rfl (lv_at hl 1 rfl) ?_
        refine k_gn (v := .long (eL (pB (mWy w.1) v))) X hK inX1 rfl hP (wC_n0 G w hv) 6 (by decide) ntw_1_88 rfl dX2_letAllCome_19 ?_
        refine lv_iload_n hx hb dX2_letAllCome_22 rfl (lv_at hl 3 rfl) ?_
        refine k_ci (k_runS (As := [.long (eL (pB (mWy w.1) v)), .int (nI i)]) (rest := []) X hK hP (m2_holds l G (AC G) (wC G) w (eL (pB (mWy w.1) v)) (k := i) (by omega)) ⟨rfl, rfl⟩ tw_1_235 tw_1_211 tw_1_1 tw_1_212 ⟨by decide +kernel, by decide +kernel, (by decide +kernel : (parseMethodDescriptor yX2_holds.desc).map (fun d => d.parameters.length) = some 2)⟩ ⟨Nat.le_of_ble_eq_true rfl, Nat.le_of_ble_eq_true rfl⟩ hl.1 rfl (Nat.le_of_ble_eq_true rfl) ⟨Nat.zero_le _, Nat.zero_le _⟩ dX2_letAllCome_23) hS (fun r_23 u_23 H locs hq_23 hP hS => ?_)
        have hP := k_su hq_23.2 hP
        refine k_ti (y := bI (mWy w.1 (11 * i) v)) (hq_23.1.trans (congrArg bI (tL_eL _ (by omega)))) ?_
        refine lv_if_eq (tgt := 35) hx hb dX2_letAllCome_26 (by decide) (fun c_26 => ?_) (fun c_26 => ?_)
        · have c_26 : (mWy w.1 (11 * i) v) = false := (bI_eq0 _).mp c_26
          exact join_35 w (hiT) (by rw [fP, if_neg (by rw [c_26]; decide)]) _ _ _ hP hS (lv_sub hl [0, 1, 2, 3] rfl)
        · have c_26 : (mWy w.1 (11 * i) v) = true := (bI_ne0 _).mp c_26
          refine lv_aload_n hx hb dX2_letAllCome_29 rfl (lv_at hl 0 rfl) ?_
          refine lv_aload_n hx hb dX2_letAllCome_30 rfl (lv_at hl 1 rfl) ?_
          refine lv_iload_n hx hb dX2_letAllCome_31 rfl (lv_at hl 3 rfl) ?_
          refine k_cv (k_runV (As := [.ref (gL G (11 + 5 * v)), .int (nI i)]) (rest := []) X hK hP (wC_g G w (k := 0) (by decide)) rfl (m2_letProposalCome l G w hL (hok) (v := v) hv (b := i) (by omega) (show i < mT w.1 by omega)) ⟨rfl, rfl⟩ tw_2_28 tw_2_30 tw_0_19 tw_1_1 tw_2_31 ⟨by decide +kernel, by decide +kernel, (by decide +kernel : (parseMethodDescriptor yX2_letProposalCome.desc).map (fun d => d.parameters.length) = some 2)⟩ ⟨Nat.le_of_ble_eq_true rfl, Nat.le_of_ble_eq_true rfl⟩ hl.1 rfl (Nat.le_of_ble_eq_true rfl) ⟨Nat.zero_le _, Nat.zero_le _⟩ dX2_letAllCome_32) hS (fun u_32 H locs hq_32 hP hS => ?_)
          have hP := k_su hq_32 hP
          have ok_32 : okC G ((cLetP (gn G) w v i)) := ok_letP (hok) (show i < mT w.1 by omega)
          exact join_35 ((cLetP (gn G) w v i)) (hiT) (by rw [fP, if_pos c_26]) _ _ _ hP hS (lv_sub hl [0, 1, 2, 3] rfl)
  exact loop_7 _ 1 u rfl (Nat.le_refl _) (kT1) (rfl) _ _ _ hP hS (lv_sub hl [2, 3, 1, 0] rfl)

set_option maxHeartbeats 4000000 in
set_option maxRecDepth 100000 in
theorem m2_makeOnTip (l : Launch) (G : kG) (u : CS) (hL : lay G) (hk : okC G u) {v : Nat} (hv : v < gn G) (hT60 : mT u.1 ≤ 60) : KMv l G (AC G) (wC G) yX2_makeOnTip cX2_makeOnTip 4 (Option.none : Option FieldType) ({ frames := 4, cells := 0, slots := 0, locals := 93 }) [.ref (gL G 0), .ref (gL G (11 + 5 * v))] u (fun u' => u' = cMakeOnTip (gn G) u v) := by
  refine K_of (by decide) (Nat.le_of_ble_eq_true rfl) ?_
  intro p e s m below meth c X hr hlocks hnm hK hP ls hl
  have hx := X.1
  have hb := X.2.1
  have hown := X.2.2.2.1
  have hts := X.2.2.2.2
  have hS : va_S (AC G) s.heap s.heap [] := va_S.rf
  have hl : lv_has ls 4 [(0, .ref (gL G 0)), (1, .ref (gL G (11 + 5 * v)))] := hl
  obtain ⟨kn4, kn10, kT1, kT61, kP40, kLd, kPar, kEp, kHt, kFc, kVf, kTp, kHf⟩ := id hk
  have hTv := kTp v
  refine lv_aload_n hx hb dX2_makeOnTip_0 rfl (lv_at hl 1 rfl) ?_
  refine k_gn (v := .int ((mWi u.1) v)) X hK inX1 rfl hP (wC_n0 G u hv) 4 (by decide) ntw_1_84 rfl dX2_makeOnTip_1 ?_
  refine lv_aload_n hx hb dX2_makeOnTip_4 rfl (lv_at hl 0 rfl) ?_
  refine k_get (v := .ref (gL G 3)) X hK inX2 rfl hP (wC_g G u (k := 0) (by decide)) 0 (by decide) tw_1_139 rfl dX2_makeOnTip_5 ?_
  refine k_gn (v := .ref (gL G 10)) X hK inX0 rfl hP (wC_g G u (k := 3) (by decide)) 6 (by decide) ntw_1_46 rfl dX2_makeOnTip_8 ?_
  refine lv_aload_n hx hb dX2_makeOnTip_11 rfl (lv_at hl 1 rfl) ?_
  refine k_gn (v := .int (nI ((xTp u.2) v))) X hK inX1 rfl hP (wC_n0 G u hv) 14 (by decide) ntw_1_103 rfl dX2_makeOnTip_12 ?_
  refine k_ild (v := xCl u.2 ((xTp u.2) v)) X hK hP (wC_g G u (k := 10) (by decide)) (by omega) (by decide) rfl dX2_makeOnTip_15 ?_
  refine lv_iconst (v := -1) hx hb dX2_makeOnTip_16 (by decide) ?_
  refine lv_ixor hx hb dX2_makeOnTip_17 ?_
  refine lv_iand hx hb dX2_makeOnTip_18 ?_
  refine lv_istore_n (lv' := [(2, .int (((mWi u.1) v) &&& ((xCl u.2 ((xTp u.2) v)) ^^^ (-1)))), (0, .ref (gL G 0)), (1, .ref (gL G (11 + 5 * v)))]) hx hb dX2_makeOnTip_19 rfl hl (by decide) rfl (fun ls hl => ?_)
  refine lv_aload_n hx hb dX2_makeOnTip_20 rfl (lv_at hl 1 rfl) ?_
  refine k_get (v := .ref (gL G 3)) X hK inX2 rfl hP (wC_g G u (k := 0) (by decide)) 0 (by decide) tw_1_139 rfl dX2_makeOnTip_21 ?_
  refine lv_aload_n hx hb dX2_makeOnTip_24 rfl (lv_at hl 2 rfl) ?_
  refine k_gn (v := .int (nI ((xTp u.2) v))) X hK inX1 rfl hP (wC_n0 G u hv) 14 (by decide) ntw_1_103 rfl dX2_makeOnTip_25 ?_
  refine lv_aload_n hx hb dX2_makeOnTip_28 rfl (lv_at hl 1 rfl) ?_
  refine k_get (v := .int (nI (mP u.1))) X hK inX2 rfl hP (wC_g G u (k := 0) (by decide)) 3 (by decide) tw_1_142 rfl dX2_makeOnTip_29 ?_
  refine lv_iload_n hx hb dX2_makeOnTip_32 rfl (lv_at hl 0 rfl) ?_
  refine lv_aload_n hx hb dX2_makeOnTip_33 rfl (lv_at hl 2 rfl) ?_
  refine k_gn (v := .int (nI v)) X hK inX1 rfl hP (wC_n0 G u hv) 0 (by decide) ntw_1_80 rfl dX2_makeOnTip_34 ?_
  refine k_ci (k_runN (As := [.int (nI ((xTp u.2) v)), .int (nI (mP u.1)), .int (((mWi u.1) v) &&& ((xCl u.2 ((xTp u.2) v)) ^^^ (-1))), .int (nI v)]) (rest := []) X hK hP (wC_g G u (k := 3) (by decide)) rfl (m0_make l G u hL (hk) (o := ((xTp u.2) v)) (e0 := (mP u.1)) (v := v) (by omega) (by omega) (by omega) (((mWi u.1) v) &&& ((xCl u.2 ((xTp u.2) v)) ^^^ (-1)))) ⟨rfl, rfl⟩ ntw_1_193 tw_1_195 tw_0_4 tw_1_3 tw_1_196 ⟨by decide +kernel, by decide +kernel, (by decide +kernel : (parseMethodDescriptor yX0_make.desc).map (fun d => d.parameters.length) = some 4)⟩ ⟨Nat.le_of_ble_eq_true rfl, Nat.le_of_ble_eq_true rfl⟩ hl.1 rfl (Nat.le_of_ble_eq_true rfl) ⟨Nat.zero_le _, Nat.zero_le _⟩ dX2_makeOnTip_37) hS (fun r_37 u_37 H locs hq_37 hP hS => ?_)
  have hP := k_su hq_37.2 hP
  refine k_ti hq_37.1 ?_
  have ok_37 : okC G ((cMake u ((xTp u.2) v) (mP u.1) (((mWi u.1) v) &&& ((xCl u.2 ((xTp u.2) v)) ^^^ (-1))) v)) := ok_make (hk) _ (by omega) (by omega) (by omega)
  refine lv_istore_n (lv' := [(3, .int (nI (mT u.1))), (2, .int (((mWi u.1) v) &&& ((xCl u.2 ((xTp u.2) v)) ^^^ (-1)))), (0, .ref (gL G 0)), (1, .ref (gL G (11 + 5 * v)))]) hx hb dX2_makeOnTip_40 rfl hl (by decide) rfl (fun ls hl => ?_)
  refine lv_aload_n hx hb dX2_makeOnTip_41 rfl (lv_at hl 2 rfl) ?_
  refine lv_aload_n hx hb dX2_makeOnTip_42 rfl (lv_at hl 3 rfl) ?_
  refine lv_iload_n hx hb dX2_makeOnTip_43 rfl (lv_at hl 0 rfl) ?_
  refine k_cv (k_runV (As := [.ref (gL G (11 + 5 * v)), .int (nI (mT u.1))]) (rest := []) X hK hP (wC_g G ((cMake u ((xTp u.2) v) (mP u.1) (((mWi u.1) v) &&& ((xCl u.2 ((xTp u.2) v)) ^^^ (-1))) v)) (k := 0) (by decide)) rfl (m2_takeProposal l G ((cMake u ((xTp u.2) v) (mP u.1) (((mWi u.1) v) &&& ((xCl u.2 ((xTp u.2) v)) ^^^ (-1))) v)) hL (ok_37) (v := v) hv (b := (mT u.1)) (by omega) (show mT u.1 < mT u.1 + 1 by omega)) ⟨rfl, rfl⟩ tw_1_197 tw_1_199 tw_0_5 tw_1_1 tw_1_200 ⟨by decide +kernel, by decide +kernel, (by decide +kernel : (parseMethodDescriptor yX2_takeProposal.desc).map (fun d => d.parameters.length) = some 2)⟩ ⟨Nat.le_of_ble_eq_true rfl, Nat.le_of_ble_eq_true rfl⟩ hl.1 rfl (Nat.le_of_ble_eq_true rfl) ⟨Nat.zero_le _, Nat.zero_le _⟩ dX2_makeOnTip_44) hS (fun u_44 H locs hq_44 hP hS => ?_)
  have hP := k_su hq_44 hP
  have ok_44 : okC G ((cTakeP (gn G) ((cMake u ((xTp u.2) v) (mP u.1) (((mWi u.1) v) &&& ((xCl u.2 ((xTp u.2) v)) ^^^ (-1))) v)) v (mT u.1))) := ok_takeP (ok_37) (show mT u.1 < mT u.1 + 1 by omega)
  exact k_retv X hr hlocks hP hS dX2_makeOnTip_47 rfl

set_option maxHeartbeats 4000000 in
set_option maxRecDepth 100000 in
theorem m2_falseNodes (l : Launch) (G : kG) (u : CS) (hL : lay G) (hk : okC G u) : KMi l G (AC G) (wC G) yX2_falseNodes cX2_falseNodes 6 (Option.some FieldType.int) ({ frames := 0, cells := 0, slots := 0, locals := 0 }) [.ref (gL G 0)] u (fun r u' => r = nI (cnt (mFa u.1) (gn G)) ∧ u' = u) := by
  refine K_of (by decide) (Nat.le_of_ble_eq_true rfl) ?_
  intro p e s m below meth c X hr hlocks hnm hK hP ls hl
  have hx := X.1
  have hb := X.2.1
  have hown := X.2.2.2.1
  have hts := X.2.2.2.2
  have hS : va_S (AC G) s.heap s.heap [] := va_S.rf
  have hl : lv_has ls 6 [(0, .ref (gL G 0))] := hl
  obtain ⟨kn4, kn10, kT1, kT61, kP40, kLd, kPar, kEp, kHt, kFc, kVf, kTp, kHf⟩ := id hk
  refine lv_iconst (v := nI 0) hx hb dX2_falseNodes_0 (by decide) ?_
  refine lv_istore_n (lv' := [(1, .int (nI 0)), (0, .ref (gL G 0))]) hx hb dX2_falseNodes_1 rfl hl (by decide) rfl (fun ls hl => ?_)
  refine lv_aload_n hx hb dX2_falseNodes_2 rfl (lv_at hl 1 rfl) ?_
  refine k_get (v := .ref (gL G 1)) X hK inX2 rfl hP (wC_g G u (k := 0) (by decide)) 1 (by decide) tw_1_140 rfl dX2_falseNodes_3 ?_
  refine lv_astore_n (lv' := [(2, .ref (gL G 1)), (1, .int (nI 0)), (0, .ref (gL G 0))]) hx hb dX2_falseNodes_6 rfl hl (by decide) rfl (fun ls hl => ?_)
  refine lv_aload_n hx hb dX2_falseNodes_7 rfl (lv_at hl 0 rfl) ?_
  refine k_len X hK hP (wC_g G u (k := 1) (by decide)) dX2_falseNodes_8 ?_
  refine lv_istore_n (lv' := [(3, .int (nI (gn G))), (2, .ref (gL G 1)), (1, .int (nI 0)), (0, .ref (gL G 0))]) hx hb dX2_falseNodes_9 rfl hl (by decide) rfl (fun ls hl => ?_)
  refine lv_iconst (v := nI 0) hx hb dX2_falseNodes_10 (by decide) ?_
  refine lv_istore (lv' := [(4, .int (nI 0)), (3, .int (nI (gn G))), (2, .ref (gL G 1)), (1, .int (nI 0)), (0, .ref (gL G 0))]) hx hb dX2_falseNodes_11 hl (by decide) rfl (fun ls hl => ?_)
  have loop_13 : ∀ (d_13 : Nat) (i : Nat), gn G - i = d_13 → (i ≤ gn G) → ∀ (H : Heap) (locs : List Loc) (ls : Array Slot), va_P (gD G) vwCl ((wC G) u) H → va_S (AC G) s.heap H locs → lv_has ls 6 [(0, .ref (gL G 0)), (1, .int (nI (cnt (mFa u.1) i))), (2, .ref (gL G 1)), (3, .int (nI (gn G))), (4, .int (nI i))] → W p l e ({ frames := 0, cells := 0, slots := 0, locals := 0 } : Room) s m ([.ref (gL G 0)] : List Value).toArray below meth c H locs 0 0 (MQ below (va_Qi (fun r u' => r = nI (cnt (mFa u.1) (gn G)) ∧ u' = u) (KB G (wC G)) (AC G)) ([.ref (gL G 0)] : List Value).toArray s 0 0 (AC G)) (F0 m 13 ls []) := by
    intro d_13
    induction d_13 using Nat.strongRecOn with
    | ind d_13 ih_13 =>
      intro i hd_13 hi H locs ls hP hS hl
      refine lv_iload hx hb dX2_falseNodes_13 (lv_at hl 4 rfl) ?_
      refine lv_iload_n hx hb dX2_falseNodes_15 rfl (lv_at hl 3 rfl) ?_
      refine lv_icmp_ge (tgt := 42) hx hb dX2_falseNodes_16 (by decide) (fun c_16 => ?_) (fun c_16 => ?_)
      · have c_16 : (gn G) ≤ i := cLe c_16 (by omega) (by omega)
        refine lv_iload_n hx hb dX2_falseNodes_42 rfl (lv_at hl 1 rfl) ?_
        exact k_reti X hr hlocks hP hS dX2_falseNodes_43 ⟨by rw [show i = gn G by omega], rfl⟩
      · have c_16 : i < (gn G) := cNle c_16 (by omega) (by omega)
        refine lv_aload_n hx hb dX2_falseNodes_19 rfl (lv_at hl 2 rfl) ?_
        refine lv_iload hx hb dX2_falseNodes_20 (lv_at hl 4 rfl) ?_
        refine k_ald (v := gL G (11 + 5 * i)) X hK hP (wC_g G u (k := 1) (by decide)) (by omega) (by omega) rfl dX2_falseNodes_22 ?_
        refine lv_astore (lv' := [(5, .ref (gL G (11 + 5 * i))), (0, .ref (gL G 0)), (1, .int (nI (cnt (mFa u.1) i))), (2, .ref (gL G 1)), (3, .int (nI (gn G))), (4, .int (nI i))]) hx hb dX2_falseNodes_23 hl (by decide) rfl (fun ls hl => ?_)
        refine lv_aload hx hb dX2_falseNodes_25 (lv_at hl 0 rfl) ?_
        refine k_gn (v := .int (bI ((mFa u.1) i))) X hK inX1 rfl hP (wC_n0 G u (by omega)) 3 (by decide) ntw_1_83 rfl dX2_falseNodes_27 ?_
        refine lv_if_eq (tgt := 36) hx hb dX2_falseNodes_30 (by decide) (fun c_30 => ?_) (fun c_30 => ?_)
        · have c_30 : ((mFa u.1) i) = false := (bI_eq0 _).mp c_30
          have hl : lv_has ls 6 [(5, .ref (gL G (11 + 5 * i))), (0, .ref (gL G 0)), (1, .int (nI (cnt (mFa u.1) (i + 1)))), (2, .ref (gL G 1)), (3, .int (nI (gn G))), (4, .int (nI i))] := by rw [cnt, c_30]; exact hl
          refine lv_iinc (v := nI (i + 1)) (lv' := [(4, .int (nI (i + 1))), (5, .ref (gL G (11 + 5 * i))), (0, .ref (gL G 0)), (1, .int (nI (cnt (mFa u.1) (i + 1)))), (2, .ref (gL G 1)), (3, .int (nI (gn G)))]) hx hb dX2_falseNodes_36 hl (k := 5) rfl (nI_add i 1) (by decide) rfl (fun ls hl => ?_)
          refine lv_goto (tgt := 13) hx hb dX2_falseNodes_39 (by decide) ?_
          exact ih_13 (gn G - (i + 1)) (by omega) (i + 1) rfl (by omega) _ _ _ hP hS (lv_sub hl [2, 3, 4, 5, 0] rfl)
        · have c_30 : ((mFa u.1) i) = true := (bI_ne0 _).mp c_30
          refine lv_iinc (v := nI (cnt (mFa u.1) i + 1)) (lv' := [(1, .int (nI (cnt (mFa u.1) i + 1))), (5, .ref (gL G (11 + 5 * i))), (0, .ref (gL G 0)), (2, .ref (gL G 1)), (3, .int (nI (gn G))), (4, .int (nI i))]) hx hb dX2_falseNodes_33 hl (k := 2) rfl (nI_add (cnt (mFa u.1) i) 1) (by decide) rfl (fun ls hl => ?_)
          have hl : lv_has ls 6 [(1, .int (nI (cnt (mFa u.1) (i + 1)))), (5, .ref (gL G (11 + 5 * i))), (0, .ref (gL G 0)), (2, .ref (gL G 1)), (3, .int (nI (gn G))), (4, .int (nI i))] := by rw [cnt, c_30]; exact hl
          refine lv_iinc (v := nI (i + 1)) (lv' := [(4, .int (nI (i + 1))), (1, .int (nI (cnt (mFa u.1) (i + 1)))), (5, .ref (gL G (11 + 5 * i))), (0, .ref (gL G 0)), (2, .ref (gL G 1)), (3, .int (nI (gn G)))]) hx hb dX2_falseNodes_36 hl (k := 5) rfl (nI_add i 1) (by decide) rfl (fun ls hl => ?_)
          refine lv_goto (tgt := 13) hx hb dX2_falseNodes_39 (by decide) ?_
          exact ih_13 (gn G - (i + 1)) (by omega) (i + 1) rfl (by omega) _ _ _ hP hS (lv_sub hl [3, 1, 4, 5, 0] rfl)
  exact loop_13 _ 0 rfl (Nat.zero_le _) _ _ _ hP hS (lv_sub hl [4, 3, 2, 1, 0] rfl)

set_option maxHeartbeats 4000000 in
set_option maxRecDepth 100000 in
theorem m2_lettersUnderWay (l : Launch) (G : kG) (u : CS) (hL : lay G) (hk : okC G u) : KMi l G (AC G) (wC G) yX2_lettersUnderWay cX2_lettersUnderWay 7 (Option.some FieldType.int) ({ frames := 1, cells := 0, slots := 0, locals := 21 }) [.ref (gL G 0)] u (fun r u' => r = nI (uwN u.1 (gn G)) ∧ u' = u) := by
  refine K_of (by decide) (Nat.le_of_ble_eq_true rfl) ?_
  intro p e s m below meth c X hr hlocks hnm hK hP ls hl
  have hx := X.1
  have hb := X.2.1
  have hown := X.2.2.2.1
  have hts := X.2.2.2.2
  have hS : va_S (AC G) s.heap s.heap [] := va_S.rf
  have hl : lv_has ls 7 [(0, .ref (gL G 0))] := hl
  obtain ⟨kn4, kn10, kT1, kT61, kP40, kLd, kPar, kEp, kHt, kFc, kVf, kTp, kHf⟩ := id hk
  refine lv_iconst (v := nI 0) hx hb dX2_lettersUnderWay_0 (by decide) ?_
  refine lv_istore_n (lv' := [(1, .int (nI 0)), (0, .ref (gL G 0))]) hx hb dX2_lettersUnderWay_1 rfl hl (by decide) rfl (fun ls hl => ?_)
  refine lv_aload_n hx hb dX2_lettersUnderWay_2 rfl (lv_at hl 1 rfl) ?_
  refine k_get (v := .ref (gL G 1)) X hK inX2 rfl hP (wC_g G u (k := 0) (by decide)) 1 (by decide) tw_1_140 rfl dX2_lettersUnderWay_3 ?_
  refine lv_astore_n (lv' := [(2, .ref (gL G 1)), (1, .int (nI 0)), (0, .ref (gL G 0))]) hx hb dX2_lettersUnderWay_6 rfl hl (by decide) rfl (fun ls hl => ?_)
  refine lv_aload_n hx hb dX2_lettersUnderWay_7 rfl (lv_at hl 0 rfl) ?_
  refine k_len X hK hP (wC_g G u (k := 1) (by decide)) dX2_lettersUnderWay_8 ?_
  refine lv_istore_n (lv' := [(3, .int (nI (gn G))), (2, .ref (gL G 1)), (1, .int (nI 0)), (0, .ref (gL G 0))]) hx hb dX2_lettersUnderWay_9 rfl hl (by decide) rfl (fun ls hl => ?_)
  refine lv_iconst (v := nI 0) hx hb dX2_lettersUnderWay_10 (by decide) ?_
  refine lv_istore (lv' := [(4, .int (nI 0)), (3, .int (nI (gn G))), (2, .ref (gL G 1)), (1, .int (nI 0)), (0, .ref (gL G 0))]) hx hb dX2_lettersUnderWay_11 hl (by decide) rfl (fun ls hl => ?_)
  have loop_13 : ∀ (d_13 : Nat) (i : Nat), gn G - i = d_13 → (i ≤ gn G) → ∀ (H : Heap) (locs : List Loc) (ls : Array Slot), va_P (gD G) vwCl ((wC G) u) H → va_S (AC G) s.heap H locs → lv_has ls 7 [(0, .ref (gL G 0)), (1, .int (nI (uwN u.1 i))), (2, .ref (gL G 1)), (3, .int (nI (gn G))), (4, .int (nI i))] → W p l e ({ frames := 1, cells := 0, slots := 0, locals := 21 } : Room) s m ([.ref (gL G 0)] : List Value).toArray below meth c H locs 0 0 (MQ below (va_Qi (fun r u' => r = nI (uwN u.1 (gn G)) ∧ u' = u) (KB G (wC G)) (AC G)) ([.ref (gL G 0)] : List Value).toArray s 0 0 (AC G)) (F0 m 13 ls []) := by
    intro d_13
    induction d_13 using Nat.strongRecOn with
    | ind d_13 ih_13 =>
      intro i hd_13 hi H locs ls hP hS hl
      refine lv_iload hx hb dX2_lettersUnderWay_13 (lv_at hl 4 rfl) ?_
      refine lv_iload_n hx hb dX2_lettersUnderWay_15 rfl (lv_at hl 3 rfl) ?_
      refine lv_icmp_ge (tgt := 77) hx hb dX2_lettersUnderWay_16 (by decide) (fun c_16 => ?_) (fun c_16 => ?_)
      · have c_16 : (gn G) ≤ i := cLe c_16 (by omega) (by omega)
        refine lv_iload_n hx hb dX2_lettersUnderWay_77 rfl (lv_at hl 1 rfl) ?_
        exact k_reti X hr hlocks hP hS dX2_lettersUnderWay_78 ⟨by rw [show i = gn G by omega], rfl⟩
      · have c_16 : i < (gn G) := cNle c_16 (by omega) (by omega)
        refine lv_aload_n hx hb dX2_lettersUnderWay_19 rfl (lv_at hl 2 rfl) ?_
        refine lv_iload hx hb dX2_lettersUnderWay_20 (lv_at hl 4 rfl) ?_
        refine k_ald (v := gL G (11 + 5 * i)) X hK hP (wC_g G u (k := 1) (by decide)) (by omega) (by omega) rfl dX2_lettersUnderWay_22 ?_
        refine lv_astore (lv' := [(5, .ref (gL G (11 + 5 * i))), (0, .ref (gL G 0)), (1, .int (nI (uwN u.1 i))), (2, .ref (gL G 1)), (3, .int (nI (gn G))), (4, .int (nI i))]) hx hb dX2_lettersUnderWay_23 hl (by decide) rfl (fun ls hl => ?_)
        refine lv_iload_n hx hb dX2_lettersUnderWay_25 rfl (lv_at hl 2 rfl) ?_
        refine lv_aload hx hb dX2_lettersUnderWay_26 (lv_at hl 0 rfl) ?_
        refine k_gn (v := .long (eL (pB (mWy u.1) i))) X hK inX1 rfl hP (wC_n0 G u (by omega)) 6 (by decide) ntw_1_88 rfl dX2_lettersUnderWay_28 ?_
        refine k_ci (k_runS (As := [.long (eL (pB (mWy u.1) i))]) (rest := [.int (nI (uwN u.1 i))]) X hK hP (mJ_bc64 l G (AC G) (wC G) u (eL (pB (mWy u.1) i))) ⟨rfl, rfl⟩ tw_2_60 tw_2_61 tw_1_8 tw_2_62 ⟨by decide +kernel, by decide +kernel, (by decide +kernel : (parseMethodDescriptor yJ13_bitCount_95d88.desc).map (fun d => d.parameters.length) = some 1)⟩ ⟨Nat.le_of_ble_eq_true rfl, Nat.le_of_ble_eq_true rfl⟩ hl.1 rfl (Nat.le_of_ble_eq_true rfl) ⟨Nat.zero_le _, Nat.zero_le _⟩ dX2_lettersUnderWay_31) hS (fun r_31 u_31 H locs hq_31 hP hS => ?_)
        have hP := k_su hq_31.2 hP
        refine k_ti (y := nI (cnt (pB (mWy u.1) i) 64)) (hq_31.1.trans (congrArg nI (cnt_pB _ _))) ?_
        refine lv_iadd hx hb dX2_lettersUnderWay_34 ?_
        refine k_ti (nI_add (uwN u.1 i) (cnt (pB (mWy u.1) i) 64)) ?_
        refine k_ti (congrArg nI (show uwN u.1 i + cnt (pB (mWy u.1) i) 64 = uwN u.1 i + (cnt (pB (mWy u.1) i) 64 + uwB u.1 i 0) from rfl)) ?_
        refine lv_istore_n (lv' := [(1, .int (nI (uwN u.1 i + (cnt (pB (mWy u.1) i) 64 + uwB u.1 i 0)))), (5, .ref (gL G (11 + 5 * i))), (0, .ref (gL G 0)), (2, .ref (gL G 1)), (3, .int (nI (gn G))), (4, .int (nI i))]) hx hb dX2_lettersUnderWay_35 rfl hl (by decide) rfl (fun ls hl => ?_)
        refine lv_iconst (v := nI 0) hx hb dX2_lettersUnderWay_36 (by decide) ?_
        refine lv_istore (lv' := [(6, .int (nI 0)), (1, .int (nI (uwN u.1 i + (cnt (pB (mWy u.1) i) 64 + uwB u.1 i 0)))), (5, .ref (gL G (11 + 5 * i))), (0, .ref (gL G 0)), (2, .ref (gL G 1)), (3, .int (nI (gn G))), (4, .int (nI i))]) hx hb dX2_lettersUnderWay_37 hl (by decide) rfl (fun ls hl => ?_)
        have loop_39 : ∀ (d_39 : Nat) (b : Nat), mT u.1 - b = d_39 → (b ≤ mT u.1) → ∀ (H : Heap) (locs : List Loc) (ls : Array Slot), va_P (gD G) vwCl ((wC G) u) H → va_S (AC G) s.heap H locs → lv_has ls 7 [(0, .ref (gL G 0)), (1, .int (nI (uwN u.1 i + (cnt (pB (mWy u.1) i) 64 + uwB u.1 i b)))), (2, .ref (gL G 1)), (3, .int (nI (gn G))), (4, .int (nI i)), (5, .ref (gL G (11 + 5 * i))), (6, .int (nI b))] → W p l e ({ frames := 1, cells := 0, slots := 0, locals := 21 } : Room) s m ([.ref (gL G 0)] : List Value).toArray below meth c H locs 0 0 (MQ below (va_Qi (fun r u' => r = nI (uwN u.1 (gn G)) ∧ u' = u) (KB G (wC G)) (AC G)) ([.ref (gL G 0)] : List Value).toArray s 0 0 (AC G)) (F0 m 39 ls []) := by
          intro d_39
          induction d_39 using Nat.strongRecOn with
          | ind d_39 ih_39 =>
            intro b hd_39 hbT H locs ls hP hS hl
            refine lv_iload hx hb dX2_lettersUnderWay_39 (lv_at hl 6 rfl) ?_
            refine lv_aload_n hx hb dX2_lettersUnderWay_41 rfl (lv_at hl 0 rfl) ?_
            refine k_get (v := .ref (gL G 3)) X hK inX2 rfl hP (wC_g G u (k := 0) (by decide)) 0 (by decide) tw_1_139 rfl dX2_lettersUnderWay_42 ?_
            refine k_gn (v := .int (nI (mT u.1))) X hK inX0 rfl hP (wC_g G u (k := 3) (by decide)) 7 (by decide) ntw_1_49 rfl dX2_lettersUnderWay_45 ?_
            refine lv_icmp_ge (tgt := 71) hx hb dX2_lettersUnderWay_48 (by decide) (fun c_48 => ?_) (fun c_48 => ?_)
            · have c_48 : (mT u.1) ≤ b := cLe c_48 (by omega) (by omega)
              have hl : lv_has ls 7 [(0, .ref (gL G 0)), (1, .int (nI (uwN u.1 (i + 1)))), (2, .ref (gL G 1)), (3, .int (nI (gn G))), (4, .int (nI i)), (5, .ref (gL G (11 + 5 * i))), (6, .int (nI b))] := by rw [uwN, show mT u.1 = b by omega]; exact hl
              refine lv_iinc (v := nI (i + 1)) (lv' := [(4, .int (nI (i + 1))), (0, .ref (gL G 0)), (1, .int (nI (uwN u.1 (i + 1)))), (2, .ref (gL G 1)), (3, .int (nI (gn G))), (5, .ref (gL G (11 + 5 * i))), (6, .int (nI b))]) hx hb dX2_lettersUnderWay_71 hl (k := 4) rfl (nI_add i 1) (by decide) rfl (fun ls hl => ?_)
              refine lv_goto (tgt := 13) hx hb dX2_lettersUnderWay_74 (by decide) ?_
              exact ih_13 (gn G - (i + 1)) (by omega) (i + 1) rfl (by omega) _ _ _ hP hS (lv_sub hl [1, 2, 3, 4, 0] rfl)
            · have c_48 : b < (mT u.1) := cNle c_48 (by omega) (by omega)
              refine lv_iload_n hx hb dX2_lettersUnderWay_51 rfl (lv_at hl 1 rfl) ?_
              refine lv_aload hx hb dX2_lettersUnderWay_52 (lv_at hl 5 rfl) ?_
              refine k_gn (v := .ref (gL G (13 + 5 * i))) X hK inX1 rfl hP (wC_n0 G u (by omega)) 8 (by decide) ntw_1_92 rfl dX2_lettersUnderWay_54 ?_
              refine lv_iload hx hb dX2_lettersUnderWay_57 (lv_at hl 6 rfl) ?_
              refine k_ild (v := eI (vB (mWy u.1) b i)) X hK hP (wC_n2 G u (by omega)) (by omega) (by decide) rfl dX2_lettersUnderWay_59 ?_
              refine k_ci (k_runS (As := [.int (eI (vB (mWy u.1) b i))]) (rest := [.int (nI (uwN u.1 i + (cnt (pB (mWy u.1) i) 64 + uwB u.1 i b)))]) X hK hP (mJ_bc32 l G (AC G) (wC G) u (eI (vB (mWy u.1) b i))) ⟨rfl, rfl⟩ tw_2_66 tw_1_214 tw_1_7 tw_1_215 ⟨by decide +kernel, by decide +kernel, (by decide +kernel : (parseMethodDescriptor yJ6_bitCount_0f7a4.desc).map (fun d => d.parameters.length) = some 1)⟩ ⟨Nat.le_of_ble_eq_true rfl, Nat.le_of_ble_eq_true rfl⟩ hl.1 rfl (Nat.le_of_ble_eq_true rfl) ⟨Nat.zero_le _, Nat.zero_le _⟩ dX2_lettersUnderWay_60) hS (fun r_60 u_60 H locs hq_60 hP hS => ?_)
              have hP := k_su hq_60.2 hP
              refine k_ti (y := nI (cnt (fun x => mWy u.1 (11 * b + 1 + x) i) 10)) (hq_60.1.trans (congrArg nI (cnt_vB _ _ _))) ?_
              refine lv_iadd hx hb dX2_lettersUnderWay_63 ?_
              refine k_ti (nI_add (uwN u.1 i + (cnt (pB (mWy u.1) i) 64 + uwB u.1 i b)) (cnt (fun x => mWy u.1 (11 * b + 1 + x) i) 10)) ?_
              refine k_ti (congrArg nI (show _ = uwN u.1 i + (cnt (pB (mWy u.1) i) 64 + uwB u.1 i (b + 1)) by rw [uwB]; omega)) ?_
              refine lv_istore_n (lv' := [(1, .int (nI (uwN u.1 i + (cnt (pB (mWy u.1) i) 64 + uwB u.1 i (b + 1))))), (0, .ref (gL G 0)), (2, .ref (gL G 1)), (3, .int (nI (gn G))), (4, .int (nI i)), (5, .ref (gL G (11 + 5 * i))), (6, .int (nI b))]) hx hb dX2_lettersUnderWay_64 rfl hl (by decide) rfl (fun ls hl => ?_)
              refine lv_iinc (v := nI (b + 1)) (lv' := [(6, .int (nI (b + 1))), (1, .int (nI (uwN u.1 i + (cnt (pB (mWy u.1) i) 64 + uwB u.1 i (b + 1))))), (0, .ref (gL G 0)), (2, .ref (gL G 1)), (3, .int (nI (gn G))), (4, .int (nI i)), (5, .ref (gL G (11 + 5 * i)))]) hx hb dX2_lettersUnderWay_65 hl (k := 6) rfl (nI_add b 1) (by decide) rfl (fun ls hl => ?_)
              refine lv_goto (tgt := 39) hx hb dX2_lettersUnderWay_68 (by decide) ?_
              exact ih_39 (mT u.1 - (b + 1)) (by omega) (b + 1) rfl (by omega) _ _ _ hP hS (lv_sub hl [2, 1, 3, 4, 5, 6, 0] rfl)
        exact loop_39 _ 0 rfl (Nat.zero_le _) _ _ _ hP hS (lv_sub hl [3, 1, 4, 5, 6, 2, 0] rfl)
  exact loop_13 _ 0 rfl (Nat.zero_le _) _ _ _ hP hS (lv_sub hl [4, 3, 2, 1, 0] rfl)

set_option maxHeartbeats 4000000 in
set_option maxRecDepth 100000 in
theorem m2_areInLine (l : Launch) (G : kG) (u : CS) (hL : lay G) (hk : okC G u) {a0 b0 : Nat} (ha0 : a0 ≤ 60) (hb0 : b0 ≤ 60) : KMi l G (AC G) (wC G) yX2_areInLine cX2_areInLine 3 (Option.some FieldType.boolean) ({ frames := 1, cells := 0, slots := 0, locals := 22 }) [.ref (gL G 0), .int (nI a0), .int (nI b0)] u (fun r u' => r = bI (xCh u.2 a0 b0 || xCh u.2 b0 a0) ∧ u' = u) := by
  refine K_of (by decide) (Nat.le_of_ble_eq_true rfl) ?_
  intro p e s m below meth c X hr hlocks hnm hK hP ls hl
  have hx := X.1
  have hb := X.2.1
  have hown := X.2.2.2.1
  have hts := X.2.2.2.2
  have hS : va_S (AC G) s.heap s.heap [] := va_S.rf
  have hl : lv_has ls 3 [(0, .ref (gL G 0)), (1, .int (nI a0)), (2, .int (nI b0))] := hl
  obtain ⟨kn4, kn10, kT1, kT61, kP40, kLd, kPar, kEp, kHt, kFc, kVf, kTp, kHf⟩ := id hk
  refine lv_aload_n hx hb dX2_areInLine_0 rfl (lv_at hl 0 rfl) ?_
  refine k_get (v := .ref (gL G 3)) X hK inX2 rfl hP (wC_g G u (k := 0) (by decide)) 0 (by decide) tw_1_139 rfl dX2_areInLine_1 ?_
  refine k_gn (v := .ref (gL G 9)) X hK inX0 rfl hP (wC_g G u (k := 3) (by decide)) 5 (by decide) ntw_1_44 rfl dX2_areInLine_4 ?_
  refine lv_iload_n hx hb dX2_areInLine_7 rfl (lv_at hl 1 rfl) ?_
  refine k_lld (v := eL (xCh u.2 a0)) X hK hP (wC_g G u (k := 9) (by decide)) (by omega) (by decide) rfl dX2_areInLine_8 ?_
  refine lv_iload_n hx hb dX2_areInLine_9 rfl (lv_at hl 2 rfl) ?_
  refine k_ci (k_runS (As := [.long (eL (xCh u.2 a0)), .int (nI b0)]) (rest := []) X hK hP (m2_holds l G (AC G) (wC G) u (eL (xCh u.2 a0)) (k := b0) (by omega)) ⟨rfl, rfl⟩ tw_1_235 tw_1_211 tw_1_1 tw_1_212 ⟨by decide +kernel, by decide +kernel, (by decide +kernel : (parseMethodDescriptor yX2_holds.desc).map (fun d => d.parameters.length) = some 2)⟩ ⟨Nat.le_of_ble_eq_true rfl, Nat.le_of_ble_eq_true rfl⟩ hl.1 rfl (Nat.le_of_ble_eq_true rfl) ⟨Nat.zero_le _, Nat.zero_le _⟩ dX2_areInLine_10) hS (fun r_10 u_10 H locs hq_10 hP hS => ?_)
  have hP := k_su hq_10.2 hP
  refine k_ti (y := bI ((xCh u.2 a0) b0)) (hq_10.1.trans (congrArg bI (tL_eL _ (by omega)))) ?_
  refine lv_if_ne (tgt := 32) hx hb dX2_areInLine_13 (by decide) (fun c_13 => ?_) (fun c_13 => ?_)
  · have c_13 : ((xCh u.2 a0) b0) = true := (bI_ne0 _).mp c_13
    refine lv_iconst (v := nI 1) hx hb dX2_areInLine_32 (by decide) ?_
    refine lv_goto (tgt := 37) hx hb dX2_areInLine_33 (by decide) ?_
    exact k_retz X hr hlocks hP hS dX2_areInLine_37 rfl ⟨by first | (rw [c_13]; rfl) | (rw [c_29, Bool.or_true]; rfl), rfl⟩
  · have c_13 : ((xCh u.2 a0) b0) = false := (bI_eq0 _).mp c_13
    refine lv_aload_n hx hb dX2_areInLine_16 rfl (lv_at hl 0 rfl) ?_
    refine k_get (v := .ref (gL G 3)) X hK inX2 rfl hP (wC_g G u (k := 0) (by decide)) 0 (by decide) tw_1_139 rfl dX2_areInLine_17 ?_
    refine k_gn (v := .ref (gL G 9)) X hK inX0 rfl hP (wC_g G u (k := 3) (by decide)) 5 (by decide) ntw_1_44 rfl dX2_areInLine_20 ?_
    refine lv_iload_n hx hb dX2_areInLine_23 rfl (lv_at hl 2 rfl) ?_
    refine k_lld (v := eL (xCh u.2 b0)) X hK hP (wC_g G u (k := 9) (by decide)) (by omega) (by decide) rfl dX2_areInLine_24 ?_
    refine lv_iload_n hx hb dX2_areInLine_25 rfl (lv_at hl 1 rfl) ?_
    refine k_ci (k_runS (As := [.long (eL (xCh u.2 b0)), .int (nI a0)]) (rest := []) X hK hP (m2_holds l G (AC G) (wC G) u (eL (xCh u.2 b0)) (k := a0) (by omega)) ⟨rfl, rfl⟩ tw_1_235 tw_1_211 tw_1_1 tw_1_212 ⟨by decide +kernel, by decide +kernel, (by decide +kernel : (parseMethodDescriptor yX2_holds.desc).map (fun d => d.parameters.length) = some 2)⟩ ⟨Nat.le_of_ble_eq_true rfl, Nat.le_of_ble_eq_true rfl⟩ hl.1 rfl (Nat.le_of_ble_eq_true rfl) ⟨Nat.zero_le _, Nat.zero_le _⟩ dX2_areInLine_26) hS (fun r_26 u_26 H locs hq_26 hP hS => ?_)
    have hP := k_su hq_26.2 hP
    refine k_ti (y := bI ((xCh u.2 b0) a0)) (hq_26.1.trans (congrArg bI (tL_eL _ (by omega)))) ?_
    refine lv_if_eq (tgt := 36) hx hb dX2_areInLine_29 (by decide) (fun c_29 => ?_) (fun c_29 => ?_)
    · have c_29 : ((xCh u.2 b0) a0) = false := (bI_eq0 _).mp c_29
      refine lv_iconst (v := nI 0) hx hb dX2_areInLine_36 (by decide) ?_
      exact k_retz X hr hlocks hP hS dX2_areInLine_37 rfl ⟨by rw [c_13, c_29]; rfl, rfl⟩
    · have c_29 : ((xCh u.2 b0) a0) = true := (bI_ne0 _).mp c_29
      refine lv_iconst (v := nI 1) hx hb dX2_areInLine_32 (by decide) ?_
      refine lv_goto (tgt := 37) hx hb dX2_areInLine_33 (by decide) ?_
      exact k_retz X hr hlocks hP hS dX2_areInLine_37 rfl ⟨by first | (rw [c_13]; rfl) | (rw [c_29, Bool.or_true]; rfl), rfl⟩

set_option maxHeartbeats 4000000 in
set_option maxRecDepth 100000 in
theorem m2_wishAt (l : Launch) (G : kG) (A : Nat → Prop) {S : Type} (wd : S → va_W) (u : S) (x : Int32) {k : Nat} (hk32 : k < 2 ^ 31) : KMi l G A wd yX2_wishAt cX2_wishAt 4 (Option.some FieldType.int) ({ frames := 1, cells := 0, slots := 0, locals := 22 }) [.int (x), .int (nI k)] u (fun r u' => ((∃ i, i < 32 ∧ r = nI i ∧ tI x i = true ∧ cnt (tI x) i = k) ∨ (r = -1 ∧ cnt (tI x) 32 ≤ k)) ∧ u' = u) := by
  refine K_of (by decide) (Nat.le_of_ble_eq_true rfl) ?_
  intro p e s m below meth c X hr hlocks hnm hK hP ls hl
  have hx := X.1
  have hb := X.2.1
  have hown := X.2.2.2.1
  have hts := X.2.2.2.2
  have hS : va_S A s.heap s.heap [] := va_S.rf
  have hl : lv_has ls 4 [(0, .int (x)), (1, .int (nI k))] := hl
  refine lv_iload_n hx hb dX2_wishAt_0 rfl (lv_at hl 1 rfl) ?_
  refine lv_istore_n (lv' := [(2, .int (nI k)), (0, .int (x)), (1, .int (nI k))]) hx hb dX2_wishAt_1 rfl hl (by decide) rfl (fun ls hl => ?_)
  refine lv_iconst (v := nI 0) hx hb dX2_wishAt_2 (by decide) ?_
  refine lv_istore_n (lv' := [(3, .int (nI 0)), (2, .int (nI k)), (0, .int (x)), (1, .int (nI k))]) hx hb dX2_wishAt_3 rfl hl (by decide) rfl (fun ls hl => ?_)
  have loop_4 : ∀ (d_4 : Nat) (i : Nat) (lf : Nat), 32 - i = d_4 → (i ≤ 32) → (cnt (tI x) i + lf = k) → ∀ (H : Heap) (locs : List Loc) (ls : Array Slot), va_P (gD G) vwCl (wd u) H → va_S A s.heap H locs → lv_has ls 4 [(0, .int (x)), (1, .int (nI k)), (2, .int (nI lf)), (3, .int (nI i))] → W p l e ({ frames := 1, cells := 0, slots := 0, locals := 22 } : Room) s m ([.int (x), .int (nI k)] : List Value).toArray below meth c H locs 0 0 (MQ below (va_Qi (fun r u' => ((∃ i, i < 32 ∧ r = nI i ∧ tI x i = true ∧ cnt (tI x) i = k) ∨ (r = -1 ∧ cnt (tI x) 32 ≤ k)) ∧ u' = u) (KB G wd) A) ([.int (x), .int (nI k)] : List Value).toArray s 0 0 A) (F0 m 4 ls []) := by
    intro d_4
    induction d_4 using Nat.strongRecOn with
    | ind d_4 ih_4 =>
      intro i lf hd_4 hi hlf H locs ls hP hS hl
      refine lv_iload_n hx hb dX2_wishAt_4 rfl (lv_at hl 3 rfl) ?_
      refine lv_bipush (v := nI 32) hx hb dX2_wishAt_5 (by decide) ?_
      refine lv_icmp_ge (tgt := 34) hx hb dX2_wishAt_7 (by decide) (fun c_7 => ?_) (fun c_7 => ?_)
      · have c_7 : 32 ≤ i := cLe c_7 (by omega) (by omega)
        refine lv_iconst (v := -1) hx hb dX2_wishAt_34 (by decide) ?_
        exact k_reti X hr hlocks hP hS dX2_wishAt_35 ⟨Or.inr ⟨rfl, by rw [show (32 : Nat) = i by omega]; omega⟩, rfl⟩
      · have c_7 : i < 32 := cNle c_7 (by omega) (by omega)
        refine lv_iload_n hx hb dX2_wishAt_10 rfl (lv_at hl 0 rfl) ?_
        refine lv_i2l (v := x.toInt64) hx hb dX2_wishAt_11 rfl ?_
        refine lv_iload_n hx hb dX2_wishAt_12 rfl (lv_at hl 3 rfl) ?_
        refine k_ci (k_runS (As := [.long (x.toInt64), .int (nI i)]) (rest := []) X hK hP (m2_holds l G A wd u x.toInt64 (k := i) (by omega)) ⟨rfl, rfl⟩ tw_1_235 tw_1_211 tw_1_1 tw_1_212 ⟨by decide +kernel, by decide +kernel, (by decide +kernel : (parseMethodDescriptor yX2_holds.desc).map (fun d => d.parameters.length) = some 2)⟩ ⟨Nat.le_of_ble_eq_true rfl, Nat.le_of_ble_eq_true rfl⟩ hl.1 rfl (Nat.le_of_ble_eq_true rfl) ⟨Nat.zero_le _, Nat.zero_le _⟩ dX2_wishAt_13) hS (fun r_13 u_13 H locs hq_13 hP hS => ?_)
        have hP := k_su hq_13.2 hP
        refine k_ti (y := bI (tI x i)) (hq_13.1.trans (congrArg bI (tL_wide _ (by omega)))) ?_
        refine lv_if_eq (tgt := 28) hx hb dX2_wishAt_16 (by decide) (fun c_16 => ?_) (fun c_16 => ?_)
        · have c_16 : (tI x i) = false := (bI_eq0 _).mp c_16
          refine lv_iinc (v := nI (i + 1)) (lv' := [(3, .int (nI (i + 1))), (0, .int (x)), (1, .int (nI k)), (2, .int (nI lf))]) hx hb dX2_wishAt_28 hl (k := 3) rfl (nI_add i 1) (by decide) rfl (fun ls hl => ?_)
          refine lv_goto (tgt := 4) hx hb dX2_wishAt_31 (by decide) ?_
          exact ih_4 (32 - (i + 1)) (by omega) (i + 1) lf rfl (by omega) (by rw [cnt, c_16]; simp only [Bool.false_eq_true, if_false]; omega) _ _ _ hP hS (lv_sub hl [1, 2, 3, 0] rfl)
        · have c_16 : (tI x i) = true := (bI_ne0 _).mp c_16
          refine lv_iload_n hx hb dX2_wishAt_19 rfl (lv_at hl 2 rfl) ?_
          refine lv_if_ne (tgt := 25) hx hb dX2_wishAt_20 (by decide) (fun c_20 => ?_) (fun c_20 => ?_)
          · have c_20 : lf ≠ 0 := czNe c_20 (by omega) (by omega)
            obtain ⟨mm, rfl⟩ : ∃ mm, lf = mm + 1 := ⟨lf - 1, by omega⟩
            refine lv_iinc (v := nI mm) (lv' := [(2, .int (nI mm)), (0, .int (x)), (1, .int (nI k)), (3, .int (nI i))]) hx hb dX2_wishAt_25 hl (k := 2) rfl (pk_m1 mm) (by decide) rfl (fun ls hl => ?_)
            refine lv_iinc (v := nI (i + 1)) (lv' := [(3, .int (nI (i + 1))), (2, .int (nI mm)), (0, .int (x)), (1, .int (nI k))]) hx hb dX2_wishAt_28 hl (k := 3) rfl (nI_add i 1) (by decide) rfl (fun ls hl => ?_)
            refine lv_goto (tgt := 4) hx hb dX2_wishAt_31 (by decide) ?_
            exact ih_4 (32 - (i + 1)) (by omega) (i + 1) mm rfl (by omega) (by rw [cnt, c_16]; simp only [if_true]; omega) _ _ _ hP hS (lv_sub hl [2, 3, 1, 0] rfl)
          · have c_20 : lf = 0 := czEq c_20 (by omega) (by omega)
            refine lv_iload_n hx hb dX2_wishAt_23 rfl (lv_at hl 3 rfl) ?_
            exact k_reti X hr hlocks hP hS dX2_wishAt_24 ⟨Or.inl ⟨i, by omega, rfl, c_16, by omega⟩, rfl⟩
  exact loop_4 _ 0 k rfl (Nat.zero_le _) (Nat.zero_add _) _ _ _ hP hS (lv_sub hl [2, 3, 1, 0] rfl)
end
section
/-! what the public methods answer and do -/
/-- an int that is a small number below n -/
def ix (n : Nat) (x : Int32) : Option Nat := if 0 ≤ x.toInt ∧ x.toInt < n then some x.toInt.toNat else none
def ixE (x : Int32) : Option Nat := if 1 ≤ x.toInt ∧ x.toInt ≤ 40 then some x.toInt.toNat else none
theorem ix_some {n j : Nat} (h : j < n) (hn : n < 2 ^ 31) : ix n (nI j) = some j := by
  have e := nI_toInt (Nat.lt_trans h hn)
  simp only [ix, e]
  rw [if_pos (by omega)]
  simp
theorem ix_none {n : Nat} {x : Int32} (h : ∀ j : Nat, j < n → x ≠ nI j) (hn : n < 2 ^ 31) : ix n x = none := by
  simp only [ix]
  rw [if_neg]
  intro ⟨h1, h2⟩
  obtain ⟨j, hj, hx⟩ := vp_in_of (vp_in_iff.mpr ⟨h1, h2⟩) hn
  exact h j hj hx
theorem ixE_some {j : Nat} (h : 1 ≤ j ∧ j ≤ 40) : ixE (nI j) = some j := by
  have e := nI_toInt (n := j) (by omega)
  simp only [ixE, e]
  rw [if_pos (by omega)]
  simp
theorem ixE_none {x : Int32} (h : ∀ j : Nat, 1 ≤ j ∧ j ≤ 40 → x ≠ nI j) : ixE x = none := by
  simp only [ixE]
  rw [if_neg]
  intro ⟨h1, h2⟩
  obtain ⟨j, hj, hx⟩ := vp_in_of (x := x) (n := 41) (vp_in_iff.mpr ⟨by omega, by omega⟩) (by decide)
  refine h j ⟨?_, by omega⟩ hx
  rw [hx, nI_toInt (by omega)] at h1
  omega
theorem ix_of {n : Nat} {x : Int32} {j : Nat} (h : ix n x = some j) (hn : n < 2 ^ 31) : j < n ∧ x = nI j := by
  rcases ix3 x n hn with ⟨i, hi, rfl⟩ | hz
  · rw [ix_some hi hn] at h
    cases h
    exact ⟨hi, rfl⟩
  · rw [ix_none hz hn] at h
    cases h
theorem sw_out {x : Int32} {n : Nat} (h : ∀ j : Nat, j < n + 1 → x ≠ nI j) (hn : n + 1 < 2 ^ 31) : x.toInt < 0 ∨ (n : Int) < x.toInt := by
  by_cases h1 : x.toInt < 0
  · exact Or.inl h1
  · refine Or.inr (Int.not_le.mp fun h2 => ?_)
    obtain ⟨j, hj, hx⟩ := vp_in_of (x := x) (n := n + 1) (vp_in_iff.mpr ⟨by omega, by omega⟩) hn
    exact h j hj hx
def pLead (n : Nat) (u : CS) (x y : Int32) : Int32 × CS := match ixE x with
  | none => (-2, u)
  | some e => match ix n y with
    | none => (-2, u)
    | some v => if decide (e ≤ mP u.1) || hasEp u.1 e then (-3, u) else (nI (mLd u.1 e), (sLd u.1 (va_up (mLd u.1) e v), u.2))
def pFall (n : Nat) (u : CS) (x : Int32) : Int32 × CS := match ix n x with
  | none => (-2, u)
  | some v => if mFa u.1 v then (0, u) else (1, (sFa u.1 (va_up (mFa u.1) v true), u.2))
def wsh (x : Int32) (k : Nat) : Int32 := x ||| ((1 : Int32) <<< (nI k &&& 31))
def pWish (n : Nat) (u : CS) (x y : Int32) : Int32 × CS := match ix n x with
  | none => (-2, u)
  | some v => match ix 32 y with
    | none => (-2, u)
    | some k => (bI (!(tI (mWi u.1 v) k)), (sWi u.1 (va_up (mWi u.1) v (wsh (mWi u.1 v) k)), u.2))
def lkAll (n : Nat) (u : CS) : Nat → CS
  | 0 => u
  | k + 1 => cLook n (lkAll n u k) k
def cNext (u : CS) : CS := (sP u.1 (mP u.1 + 1), u.2)
def cBegin (n : Nat) (u : CS) (v : Nat) : CS := if mFa u.1 v then cNext u else cMakeOnTip n (cNext u) v
def pEpoch (n : Nat) (u : CS) : Int32 × CS := if 40 ≤ mP u.1 then (-3, u) else if !(mFa u.1 (mLd u.1 (mP u.1 + 1))) && !(decide (mT u.1 ≤ 60)) then (-4, u) else (nI (mP u.1 + 1), lkAll n (cBegin n u (mLd u.1 (mP u.1 + 1))) n)
def pBring (n : Nat) (u : CS) (x y : Int32) : Int32 × CS := match ix n y with
  | none => (-2, u)
  | some v => match ix (mT u.1) x with
    | none => (-2, u)
    | some b => if mWy u.1 (11 * b) v then (1, cLetP n u v b) else (-3, u)
def pBringVote (n : Nat) (u : CS) (x y z : Int32) : Int32 × CS := match ix n z with
  | none => (-2, u)
  | some v => match ix n x with
    | none => (-2, u)
    | some w => match ix (mT u.1) y with
      | none => (-2, u)
      | some b => if mWy u.1 (11 * b + 1 + w) v then (1, cLetV n u v w b) else (-3, u)
def pFlow (n : Nat) (u : CS) (x : Int32) : Int32 × CS := match ix n x with
  | none => (-2, u)
  | some v => (nI (mC (cFlow n u v).1) - nI (mC u.1), cFlow n u v)
def rnd (n : Nat) (u : CS) : Nat → CS
  | 0 => u
  | k + 1 => cFlow n (rnd n u k) k
def stl (n : Nat) (u : CS) : Nat → CS
  | 0 => u
  | k + 1 => if uwN (stl n u k).1 n = 0 then stl n u k else rnd n (stl n u k) n
def pSettle (n : Nat) (u : CS) : Int32 × CS := (nI (mC (stl n u 6601).1) - nI (mC u.1), stl n u 6601)
noncomputable def pPropose (n : Nat) (u : CS) (x y z w t : Int32) : Int32 × CS := match ix n x with
  | none => (-2, u)
  | some v => match ix (mT u.1) y with
    | none => (-2, u)
    | some b => match ixE z with
      | none => (-2, u)
      | some e => @ite _ (toOk n t) (Classical.propDecidable _) (if !(mFa u.1 v) || !(decide (mLd u.1 e = v)) then (-3, u) else if !(decide (mT u.1 ≤ 60)) then (-4, u) else
          (nI (mT u.1), (sndM (cTakeP n (cMake u b e w v) v (mT u.1)).1 (11 * mT u.1) t n, (cTakeP n (cMake u b e w v) v (mT u.1)).2))) (-2, u)
noncomputable def pLie (n : Nat) (u : CS) (x y t : Int32) : Int32 × CS := match ix n x with
  | none => (-2, u)
  | some v => if y = 0 then (-2, u) else match ix (mT u.1) y with
    | none => (-2, u)
    | some b => @ite _ (toOk n t) (Classical.propDecidable _) (if !(mFa u.1 v) then (-3, u) else
        (nI (sndC (cTakeV n u v v b).1 (11 * b + 1 + v) t n), (sndM (cTakeV n u v v b).1 (11 * b + 1 + v) t n, (cTakeV n u v v b).2))) (-2, u)
noncomputable def pPass (n : Nat) (u : CS) (x y t : Int32) : Int32 × CS := match ix n x with
  | none => (-2, u)
  | some v => if y = 0 then (-2, u) else match ix (mT u.1) y with
    | none => (-2, u)
    | some b => @ite _ (toOk n t) (Classical.propDecidable _) (if !(mFa u.1 v) || !(mHs u.1 (11 * b) v) then (-3, u) else
        (nI (sndC u.1 (11 * b) t n), (sndM u.1 (11 * b) t n, u.2))) (-2, u)
def pAbout (u : CS) (x y : Int32) : Int32 × CS := match ix (mT u.1) x with
  | none => (-2, u)
  | some b => match ix 5 y with
    | some 0 => (eP (mPar u.1) b, u)
    | some 1 => (nI (mEp u.1 b), u)
    | some 2 => (mLo u.1 b, u)
    | some 3 => (nI (mHt u.1 b), u)
    | some _ => (eP (mMk u.1) b, u)
    | none => (-2, u)
def pSeen (n : Nat) (u : CS) (x y : Int32) : Int32 × CS := match ix n x with
  | none => (-2, u)
  | some v => match ix (mT u.1) y with
    | none => (-2, u)
    | some b => (if xFi u.2 v b then 4 else if xNo u.2 v b then 3 else if xKn u.2 v b then 2 else if mHs u.1 (11 * b) v then 1 else 0, u)
def pVotes (n : Nat) (u : CS) (x y : Int32) : Int32 × CS := match ix n x with
  | none => (-2, u)
  | some v => match ix (mT u.1) y with
    | none => (-2, u)
    | some b => (nI (nVo u.1 b v), u)
def pVoted (n : Nat) (u : CS) (x y : Int32) : Int32 × CS := match ix n x with
  | none => (-2, u)
  | some v => match ixE y with
    | none => (-2, u)
    | some e => (oI (mVf u.1 v e), u)
def pReach (n : Nat) (u : CS) (x y : Int32) : Int32 × CS := match ix n x with
  | none => (-2, u)
  | some v => match ix 3 y with
    | some 0 => (nI (mHt u.1 (xTp u.2 v)), u)
    | some 1 => (nI (xTp u.2 v), u)
    | some _ => (nI (xHf u.2 v), u)
    | none => (-2, u)
def watF (x : Int32) (k : Nat) : Nat → Nat
  | 0 => 0
  | i + 1 => if tI x i && decide (cnt (tI x) i = k) then i else watF x k i
/-- from block b on, d blocks: the wish number lf of the ledger -/
def ldg (M : MS) (ch : Nat → Bool) : Nat → Nat → Int32 → Nat → Int32
  | 0, _, _, _ => -1
  | d + 1, b, ah, lf => if ch b then (if lf < cnt (tI (mLo M b &&& (ah ^^^ (-1)))) 32 then nI (watF (mLo M b &&& (ah ^^^ (-1))) lf 32) else ldg M ch d (b + 1) (ah ||| (mLo M b &&& (ah ^^^ (-1)))) (lf - cnt (tI (mLo M b &&& (ah ^^^ (-1)))) 32)) else ldg M ch d (b + 1) ah lf
def pLedger (n : Nat) (u : CS) (x y : Int32) : Int32 × CS := match ix n x with
  | none => (-2, u)
  | some v => (if y < 0 then -1 else ldg u.1 (xCh u.2 (xHf u.2 v)) (mT u.1) 0 0 y.toInt.toNat, u)
def lineB (X : XS) (a b : Nat) : Bool := xCh X a b || xCh X b a
def agr (n : Nat) (u : CS) : Bool := (List.range n).all fun v => (List.range n).all fun w => mFa u.1 v || (mFa u.1 w || lineB u.2 (xHf u.2 v) (xHf u.2 w))
def pAgree (n : Nat) (u : CS) : Int32 × CS := (bI (agr n u), u)
def pCount (n : Nat) (u : CS) (x : Int32) : Int32 × CS := match ix 7 x with
  | some 0 => (nI n, u)
  | some 1 => (nI (mP u.1), u)
  | some 2 => (nI (mT u.1), u)
  | some 3 => (nI (cnt (mFa u.1) n), u)
  | some 4 => (nI (uwN u.1 n), u)
  | some 5 => (nI (mG u.1), u)
  | some _ => (nI (mC u.1), u)
  | none => (-2, u)
/-! ranges -/
theorem ok_lead {G : kG} {u : CS} (hk : okC G u) {e v : Nat} (hv : v < gn G) : okC G (sLd u.1 (va_up (mLd u.1) e v), u.2) := by
  obtain ⟨a1, a2, a3, a4, a5, a6, a7, a8, a9, a10, a11, a12, a13⟩ := hk
  refine ⟨a1, a2, a3, a4, a5, fun e' => ?_, a7, a8, a9, a10, a11, a12, a13⟩
  show va_up (mLd u.1) e v e' < gn G
  unfold va_up; split
  · exact hv
  · exact a6 e'
theorem ok_next {G : kG} {u : CS} (hk : okC G u) (h : mP u.1 < 40) : okC G (cNext u) := by
  obtain ⟨a1, a2, a3, a4, a5, a6, a7, a8, a9, a10, a11, a12, a13⟩ := hk
  exact ⟨a1, a2, a3, a4, h, a6, a7, a8, a9, a10, a11, a12, a13⟩
theorem ok_begin {G : kG} {u : CS} (hk : okC G u) (h : mP u.1 < 40) {v : Nat} (hr : mFa u.1 v = true ∨ mT u.1 ≤ 60) : okC G (cBegin (gn G) u v) := by
  unfold cBegin; split
  · exact ok_next hk h
  · rename_i hf
    exact ok_makeOnTip (u := cNext u) (ok_next hk h) (hr.resolve_left hf)
theorem ok_lkAll {G : kG} {u : CS} (hk : okC G u) (k : Nat) : okC G (lkAll (gn G) u k) := by
  induction k with
  | zero => exact hk
  | succ k ih => exact ok_look ih k
theorem st_lkAll (n : Nat) (u : CS) (k : Nat) : stat (lkAll n u k).1 = stat u.1 := by
  induction k with
  | zero => rfl
  | succ k ih => unfold lkAll; rw [st_look]; exact ih
theorem ok_rnd {G : kG} {u : CS} (hk : okC G u) (k : Nat) : okC G (rnd (gn G) u k) := by
  induction k with
  | zero => exact hk
  | succ k ih => exact ok_flow ih k
theorem st_rnd (n : Nat) (u : CS) (k : Nat) : stat (rnd n u k).1 = stat u.1 := by
  induction k with
  | zero => rfl
  | succ k ih => unfold rnd; rw [st_flow]; exact ih
theorem ok_stl {G : kG} {u : CS} (hk : okC G u) (k : Nat) : okC G (stl (gn G) u k) := by
  induction k with
  | zero => exact hk
  | succ k ih =>
    unfold stl; split
    · exact ih
    · exact ok_rnd ih _
theorem st_stl (n : Nat) (u : CS) (k : Nat) : stat (stl n u k).1 = stat u.1 := by
  induction k with
  | zero => rfl
  | succ k ih =>
    unfold stl; split
    · exact ih
    · rw [st_rnd]; exact ih
theorem stl_stop {n : Nat} {u : CS} {i : Nat} (h : uwN (stl n u i).1 n = 0) (d : Nat) : stl n u (i + d) = stl n u i := by
  induction d with
  | zero => rfl
  | succ d ih =>
    show (if uwN (stl n u (i + d)).1 n = 0 then stl n u (i + d) else _) = _
    rw [ih, if_pos h]
theorem wsh_eq (x : Int32) {k : Nat} (hk : k < 32) : wsh x k = x ↔ tI x k = true := by
  constructor
  · intro h
    rw [← h, wsh, tI_or, tI_sh hk hk]
    simp
  · intro h
    apply tI_ext
    intro j hj
    rw [wsh, tI_or, tI_sh hk hj]
    by_cases e : j = k
    · subst e; simp [h]
    · simp [e]
theorem watF_at {x : Int32} {i k : Nat} (h1 : tI x i = true) (h2 : cnt (tI x) i = k) : ∀ m, i < m → (∀ j, j < m → tI x j = true → cnt (tI x) j = k → j = i) → watF x k m = i := by
  intro m
  induction m with
  | zero => intro h; omega
  | succ m ih =>
    intro hm hu
    unfold watF
    by_cases e : tI x m = true ∧ cnt (tI x) m = k
    · rw [if_pos (by simp [e.1, e.2])]
      exact hu m (by omega) e.1 e.2
    · rw [if_neg (fun h => e (by simpa using h))]
      have hmi : m ≠ i := fun q => e (by rw [q]; exact ⟨h1, h2⟩)
      exact ih (by omega) (fun j hj => hu j (by omega))
theorem cnt_mono (f : Nat → Bool) {a b : Nat} (h : a ≤ b) : cnt f a ≤ cnt f b := by
  induction b with
  | zero => rw [Nat.le_zero.mp h]; exact Nat.le_refl _
  | succ b ih =>
    rcases Nat.lt_or_ge a (b + 1) with q | q
    · have := ih (by omega)
      simp only [cnt]; omega
    · rw [show a = b + 1 by omega]; exact Nat.le_refl _
theorem cnt_uniq {f : Nat → Bool} {i j : Nat} (hi : f i = true) (hj : f j = true) (h : cnt f i = cnt f j) : i = j := by
  rcases Nat.lt_trichotomy i j with q | q | q
  · have h1 : cnt f (i + 1) ≤ cnt f j := cnt_mono f q
    simp only [cnt, hi, if_true] at h1
    omega
  · exact q
  · have h1 : cnt f (j + 1) ≤ cnt f i := cnt_mono f q
    simp only [cnt, hj, if_true] at h1
    omega
theorem watF_eq {x : Int32} {i k : Nat} (hi : i < 32) (h1 : tI x i = true) (h2 : cnt (tI x) i = k) : watF x k 32 = i :=
  watF_at h1 h2 32 hi (fun j _ a b => cnt_uniq a h1 (b.trans h2.symm))
theorem sw3 (x : Int32) : x = nI 0 ∨ x = nI 1 ∨ x = nI 2 ∨ (∀ j : Nat, j < 3 → x ≠ nI j) := by
  rcases ix3 x 3 (by decide) with ⟨j, hj, h⟩ | h
  · match j, hj with
    | 0, _ => exact Or.inl h
    | 1, _ => exact Or.inr (Or.inl h)
    | 2, _ => exact Or.inr (Or.inr (Or.inl h))
  · exact Or.inr (Or.inr (Or.inr (h)))
theorem sw5 (x : Int32) : x = nI 0 ∨ x = nI 1 ∨ x = nI 2 ∨ x = nI 3 ∨ x = nI 4 ∨ (∀ j : Nat, j < 5 → x ≠ nI j) := by
  rcases ix3 x 5 (by decide) with ⟨j, hj, h⟩ | h
  · match j, hj with
    | 0, _ => exact Or.inl h
    | 1, _ => exact Or.inr (Or.inl h)
    | 2, _ => exact Or.inr (Or.inr (Or.inl h))
    | 3, _ => exact Or.inr (Or.inr (Or.inr (Or.inl h)))
    | 4, _ => exact Or.inr (Or.inr (Or.inr (Or.inr (Or.inl h))))
  · exact Or.inr (Or.inr (Or.inr (Or.inr (Or.inr (h)))))
theorem sw7 (x : Int32) : x = nI 0 ∨ x = nI 1 ∨ x = nI 2 ∨ x = nI 3 ∨ x = nI 4 ∨ x = nI 5 ∨ x = nI 6 ∨ (∀ j : Nat, j < 7 → x ≠ nI j) := by
  rcases ix3 x 7 (by decide) with ⟨j, hj, h⟩ | h
  · match j, hj with
    | 0, _ => exact Or.inl h
    | 1, _ => exact Or.inr (Or.inl h)
    | 2, _ => exact Or.inr (Or.inr (Or.inl h))
    | 3, _ => exact Or.inr (Or.inr (Or.inr (Or.inl h)))
    | 4, _ => exact Or.inr (Or.inr (Or.inr (Or.inr (Or.inl h))))
    | 5, _ => exact Or.inr (Or.inr (Or.inr (Or.inr (Or.inr (Or.inl h)))))
    | 6, _ => exact Or.inr (Or.inr (Or.inr (Or.inr (Or.inr (Or.inr (Or.inl h))))))
  · exact Or.inr (Or.inr (Or.inr (Or.inr (Or.inr (Or.inr (Or.inr (h)))))))
end
section
section KQ
variable {p : Program} {l : Launch} {e : Env} {R : Room} {s : State} {m : MethodId} {args : Array Value} {below : List Frame} {meth : Method} {c : Code} {H : Heap} {locs : List Loc} {cells slots : Nat} {Q : State → Prop} {pc : Nat} {ls : Array Slot} {rest : List Value} {a : Nat}
theorem k_qs (kk : W p l e R s m args below meth c H locs cells slots Q (F0 m pc ls (.ref a :: rest))) : W p l e R s m args below meth c H locs cells slots Q (F0 m pc ls (va_rf (some a) :: rest)) := kk
theorem k_qn (kk : W p l e R s m args below meth c H locs cells slots Q (F0 m pc ls (.null :: rest))) : W p l e R s m args below meth c H locs cells slots Q (F0 m pc ls (va_rf none :: rest)) := kk
end KQ
theorem P_begin (n : Nat) (u : CS) (v : Nat) : mP (cBegin n u v).1 = mP u.1 + 1 := by
  unfold cBegin; split
  · rfl
  · unfold cMakeOnTip; rw [stat_P (st_takeP _ _ _ _)]; rfl
end
section
set_option maxHeartbeats 4000000 in
set_option maxRecDepth 100000 in
theorem m2_lead (l : Launch) (G : kG) (u : CS) (hL : lay G) (hk : okC G u) (x y : Int32) : KMi l G (AC G) (wC G) yX2_lead cX2_lead 4 (Option.some FieldType.int) ({ frames := 1, cells := 0, slots := 0, locals := 22 }) [.ref (gL G 0), .int (x), .int (y)] u (fun r u' => pLead (gn G) u x y = (r, u')) := by
  refine K_of (by decide) (Nat.le_of_ble_eq_true rfl) ?_
  intro p e s m below meth c X hr hlocks hnm hK hP ls hl
  have hx := X.1
  have hb := X.2.1
  have hown := X.2.2.2.1
  have hts := X.2.2.2.2
  have hS : va_S (AC G) s.heap s.heap [] := va_S.rf
  have hl : lv_has ls 4 [(0, .ref (gL G 0)), (1, .int (x)), (2, .int (y))] := hl
  obtain ⟨kn4, kn10, kT1, kT61, kP40, kLd, kPar, kEp, kHt, kFc, kVf, kTp, kHf⟩ := id hk
  refine lv_iload_n hx hb dX2_lead_0 rfl (lv_at hl 1 rfl) ?_
  refine k_ci (k_runS (As := [.int (x)]) (rest := []) X hK hP (m2_isEpoch l G (AC G) (wC G) u x) ⟨rfl, rfl⟩ tw_1_162 tw_1_163 tw_1_1 tw_1_164 ⟨by decide +kernel, by decide +kernel, (by decide +kernel : (parseMethodDescriptor yX2_isEpoch.desc).map (fun d => d.parameters.length) = some 1)⟩ ⟨Nat.le_of_ble_eq_true rfl, Nat.le_of_ble_eq_true rfl⟩ hl.1 rfl (Nat.le_of_ble_eq_true rfl) ⟨Nat.zero_le _, Nat.zero_le _⟩ dX2_lead_1) hS (fun r_1 u_1 H locs hq_1 hP hS => ?_)
  have hP := k_su hq_1.1 hP
  rcases hq_1.2 with ⟨j_1, hj_1, hx_1, hr_1⟩ | ⟨hz_1, hr_1⟩
  · subst hx_1
    subst hr_1
    refine lv_if_eq (tgt := 15) hx hb dX2_lead_4 (by decide) (fun c_4 => ?_) (fun c_4 => ?_)
    · exact absurd c_4 (by decide)
    · refine lv_aload_n hx hb dX2_lead_7 rfl (lv_at hl 0 rfl) ?_
      refine lv_iload_n hx hb dX2_lead_8 rfl (lv_at hl 2 rfl) ?_
      refine k_cq (k_runV (As := [.int (y)]) (rest := []) X hK hP (wC_g G u (k := 0) (by decide)) rfl (m2_nodeAt l G u hL (hk) y) ⟨rfl, rfl⟩ tw_1_165 tw_1_167 tw_0_0 tw_1_1 tw_1_168 ⟨by decide +kernel, by decide +kernel, (by decide +kernel : (parseMethodDescriptor yX2_nodeAt.desc).map (fun d => d.parameters.length) = some 1)⟩ ⟨Nat.le_of_ble_eq_true rfl, Nat.le_of_ble_eq_true rfl⟩ hl.1 rfl (Nat.le_of_ble_eq_true rfl) ⟨Nat.zero_le _, Nat.zero_le _⟩ dX2_lead_9) hS (fun r_9 u_9 H locs hq_9 hP hS => ?_)
      have hP := k_su hq_9.1 hP
      rcases hq_9.2 with ⟨j_9, hj_9, hx_9, hr_9⟩ | ⟨hz_9, hr_9⟩
      · subst hx_9
        subst hr_9
        refine k_qs ?_
        refine lv_ifnonnull (tgt := 18) hx hb dX2_lead_12 (by decide) ?_
        refine lv_iload_n hx hb dX2_lead_18 rfl (lv_at hl 1 rfl) ?_
        refine lv_aload_n hx hb dX2_lead_19 rfl (lv_at hl 0 rfl) ?_
        refine k_get (v := .int (nI (mP u.1))) X hK inX2 rfl hP (wC_g G u (k := 0) (by decide)) 3 (by decide) tw_1_142 rfl dX2_lead_20 ?_
        refine lv_icmp_le (tgt := 37) hx hb dX2_lead_23 (by decide) (fun c_23 => ?_) (fun c_23 => ?_)
        · have c_23 : j_1 ≤ (mP u.1) := cLe c_23 (by omega) (by omega)
          refine lv_bipush (v := -3) hx hb dX2_lead_37 (by decide) ?_
          exact k_reti X hr hlocks hP hS dX2_lead_39 (by simp only [pLead, ixE_some hj_1, ix_some hj_9 (show gn G < 2 ^ 31 by omega)]; rw [if_pos (by first | (simp [c_34]; done) | (simp [c_23]; done))])
        · have c_23 : (mP u.1) < j_1 := cNle c_23 (by omega) (by omega)
          refine lv_aload_n hx hb dX2_lead_26 rfl (lv_at hl 0 rfl) ?_
          refine k_get (v := .ref (gL G 3)) X hK inX2 rfl hP (wC_g G u (k := 0) (by decide)) 0 (by decide) tw_1_139 rfl dX2_lead_27 ?_
          refine lv_iload_n hx hb dX2_lead_30 rfl (lv_at hl 1 rfl) ?_
          refine k_ci (k_runN (As := [.int (nI j_1)]) (rest := []) X hK hP (wC_g G u (k := 3) (by decide)) rfl (m0_hasOneOf l G u hL (hk) (e0 := j_1) (by omega)) ⟨rfl, rfl⟩ ntw_1_169 tw_1_171 tw_0_1 tw_1_3 tw_1_172 ⟨by decide +kernel, by decide +kernel, (by decide +kernel : (parseMethodDescriptor yX0_hasOneOf.desc).map (fun d => d.parameters.length) = some 1)⟩ ⟨Nat.le_of_ble_eq_true rfl, Nat.le_of_ble_eq_true rfl⟩ hl.1 rfl (Nat.le_of_ble_eq_true rfl) ⟨Nat.zero_le _, Nat.zero_le _⟩ dX2_lead_31) hS (fun r_31 u_31 H locs hq_31 hP hS => ?_)
          have hP := k_su hq_31.2 hP
          refine k_ti hq_31.1 ?_
          refine lv_if_eq (tgt := 40) hx hb dX2_lead_34 (by decide) (fun c_34 => ?_) (fun c_34 => ?_)
          · have c_34 : (hasEp u.1 j_1) = false := (bI_eq0 _).mp c_34
            refine lv_aload_n hx hb dX2_lead_40 rfl (lv_at hl 0 rfl) ?_
            refine k_get (v := .ref (gL G 2)) X hK inX2 rfl hP (wC_g G u (k := 0) (by decide)) 2 (by decide) tw_1_141 rfl dX2_lead_41 ?_
            refine lv_iload_n hx hb dX2_lead_44 rfl (lv_at hl 1 rfl) ?_
            refine k_ild (v := nI (mLd u.1 j_1)) X hK hP (wC_g G u (k := 2) (by decide)) (by omega) (by decide) rfl dX2_lead_45 ?_
            refine lv_istore_n (lv' := [(3, .int (nI (mLd u.1 j_1))), (0, .ref (gL G 0)), (1, .int (nI j_1)), (2, .int (nI j_9))]) hx hb dX2_lead_46 rfl hl (by decide) rfl (fun ls hl => ?_)
            refine lv_aload_n hx hb dX2_lead_47 rfl (lv_at hl 1 rfl) ?_
            refine k_get (v := .ref (gL G 2)) X hK inX2 rfl hP (wC_g G u (k := 0) (by decide)) 2 (by decide) tw_1_141 rfl dX2_lead_48 ?_
            refine lv_iload_n hx hb dX2_lead_51 rfl (lv_at hl 2 rfl) ?_
            refine lv_iload_n hx hb dX2_lead_52 rfl (lv_at hl 3 rfl) ?_
            refine k_ist (x := nI j_9) X hK hP (wC_D hL _) hS (wC_g G u (k := 2) (by decide)) (by omega) (by decide) ((sLd u.1 (va_up (mLd u.1) j_1 j_9), u.2)) (cs_Ld G u j_1 j_9) dX2_lead_53 (fun H locs hP hS => ?_)
            have ok_53 : okC G ((sLd u.1 (va_up (mLd u.1) j_1 j_9), u.2)) := ok_lead hk (by omega)
            refine lv_iload_n hx hb dX2_lead_54 rfl (lv_at hl 0 rfl) ?_
            exact k_reti X hr hlocks hP hS dX2_lead_55 (by simp only [pLead, ixE_some hj_1, ix_some hj_9 (show gn G < 2 ^ 31 by omega)]; rw [if_neg (by simp [c_34]; omega)])
          · have c_34 : (hasEp u.1 j_1) = true := (bI_ne0 _).mp c_34
            refine lv_bipush (v := -3) hx hb dX2_lead_37 (by decide) ?_
            exact k_reti X hr hlocks hP hS dX2_lead_39 (by simp only [pLead, ixE_some hj_1, ix_some hj_9 (show gn G < 2 ^ 31 by omega)]; rw [if_pos (by first | (simp [c_34]; done) | (simp [c_23]; done))])
      · subst hr_9
        refine k_qn ?_
        refine lv_ifnonnullN hx hb dX2_lead_12 ?_
        refine lv_bipush (v := -2) hx hb dX2_lead_15 (by decide) ?_
        exact k_reti X hr hlocks hP hS dX2_lead_17 (by simp only [pLead, ixE_some hj_1, ix_none hz_9 (show gn G < 2 ^ 31 by omega)] <;> rfl)
  · subst hr_1
    refine lv_if_eq (tgt := 15) hx hb dX2_lead_4 (by decide) (fun c_4 => ?_) (fun c_4 => ?_)
    · refine lv_bipush (v := -2) hx hb dX2_lead_15 (by decide) ?_
      exact k_reti X hr hlocks hP hS dX2_lead_17 (by simp only [pLead, ixE_none hz_1] <;> rfl)
    · exact absurd rfl c_4

set_option maxHeartbeats 4000000 in
set_option maxRecDepth 100000 in
theorem m2_fall (l : Launch) (G : kG) (u : CS) (hL : lay G) (hk : okC G u) (x : Int32) : KMi l G (AC G) (wC G) yX2_fall cX2_fall 3 (Option.some FieldType.int) ({ frames := 1, cells := 0, slots := 0, locals := 21 }) [.ref (gL G 0), .int (x)] u (fun r u' => pFall (gn G) u x = (r, u')) := by
  refine K_of (by decide) (Nat.le_of_ble_eq_true rfl) ?_
  intro p e s m below meth c X hr hlocks hnm hK hP ls hl
  have hx := X.1
  have hb := X.2.1
  have hown := X.2.2.2.1
  have hts := X.2.2.2.2
  have hS : va_S (AC G) s.heap s.heap [] := va_S.rf
  have hl : lv_has ls 3 [(0, .ref (gL G 0)), (1, .int (x))] := hl
  obtain ⟨kn4, kn10, kT1, kT61, kP40, kLd, kPar, kEp, kHt, kFc, kVf, kTp, kHf⟩ := id hk
  refine lv_aload_n hx hb dX2_fall_0 rfl (lv_at hl 0 rfl) ?_
  refine lv_iload_n hx hb dX2_fall_1 rfl (lv_at hl 1 rfl) ?_
  refine k_cq (k_runV (As := [.int (x)]) (rest := []) X hK hP (wC_g G u (k := 0) (by decide)) rfl (m2_nodeAt l G u hL (hk) x) ⟨rfl, rfl⟩ tw_1_165 tw_1_167 tw_0_0 tw_1_1 tw_1_168 ⟨by decide +kernel, by decide +kernel, (by decide +kernel : (parseMethodDescriptor yX2_nodeAt.desc).map (fun d => d.parameters.length) = some 1)⟩ ⟨Nat.le_of_ble_eq_true rfl, Nat.le_of_ble_eq_true rfl⟩ hl.1 rfl (Nat.le_of_ble_eq_true rfl) ⟨Nat.zero_le _, Nat.zero_le _⟩ dX2_fall_2) hS (fun r_2 u_2 H locs hq_2 hP hS => ?_)
  have hP := k_su hq_2.1 hP
  rcases hq_2.2 with ⟨j_2, hj_2, hx_2, hr_2⟩ | ⟨hz_2, hr_2⟩
  · subst hx_2
    subst hr_2
    refine k_qs ?_
    refine lv_astore_n (lv' := [(2, .ref (gL G (11 + 5 * j_2))), (0, .ref (gL G 0)), (1, .int (nI j_2))]) hx hb dX2_fall_5 rfl hl (by decide) rfl (fun ls hl => ?_)
    refine lv_aload_n hx hb dX2_fall_6 rfl (lv_at hl 0 rfl) ?_
    refine lv_ifnonnull (tgt := 13) hx hb dX2_fall_7 (by decide) ?_
    refine lv_aload_n hx hb dX2_fall_13 rfl (lv_at hl 0 rfl) ?_
    refine k_gn (v := .int (bI ((mFa u.1) j_2))) X hK inX1 rfl hP (wC_n0 G u hj_2) 3 (by decide) ntw_1_83 rfl dX2_fall_14 ?_
    refine lv_if_eq (tgt := 22) hx hb dX2_fall_17 (by decide) (fun c_17 => ?_) (fun c_17 => ?_)
    · have c_17 : ((mFa u.1) j_2) = false := (bI_eq0 _).mp c_17
      refine lv_aload_n hx hb dX2_fall_22 rfl (lv_at hl 0 rfl) ?_
      refine lv_iconst (v := nI 1) hx hb dX2_fall_23 (by decide) ?_
      refine k_ti (show nI 1 = bI true from rfl) ?_
      refine k_pn (v := .int (bI true)) X hK inX1 rfl tyX1_ok nmX1 hP (wC_D hL _) hS (wC_n0 G u hj_2) 3 (by decide) ntw_1_83 rfl (bI_nar _) (bI_fit _) (Nat.le_of_ble_eq_true rfl) ((sFa u.1 (va_up (mFa u.1) j_2 true), u.2)) (cn_Fa G u hj_2 true) dX2_fall_24 (fun H locs hP hS => ?_)
      have ok_24 : okC G ((sFa u.1 (va_up (mFa u.1) j_2 true), u.2)) := hk
      refine lv_iconst (v := nI 1) hx hb dX2_fall_27 (by decide) ?_
      exact k_reti X hr hlocks hP hS dX2_fall_28 (by simp only [pFall, ix_some hj_2 (show gn G < 2 ^ 31 by omega)]; rw [if_neg (by rw [c_17]; decide)]; rfl)
    · have c_17 : ((mFa u.1) j_2) = true := (bI_ne0 _).mp c_17
      refine lv_iconst (v := nI 0) hx hb dX2_fall_20 (by decide) ?_
      exact k_reti X hr hlocks hP hS dX2_fall_21 (by simp only [pFall, ix_some hj_2 (show gn G < 2 ^ 31 by omega)]; rw [if_pos c_17]; rfl)
  · subst hr_2
    refine k_qn ?_
    refine lv_astore_nN (lv' := [(2, .null), (0, .ref (gL G 0)), (1, .int (x))]) hx hb dX2_fall_5 rfl hl (by decide) rfl (fun ls hl => ?_)
    refine lv_aload_nN hx hb dX2_fall_6 rfl (lv_at hl 0 rfl) ?_
    refine lv_ifnonnullN hx hb dX2_fall_7 ?_
    refine lv_bipush (v := -2) hx hb dX2_fall_10 (by decide) ?_
    exact k_reti X hr hlocks hP hS dX2_fall_12 (by simp only [pFall, ix_none hz_2 (show gn G < 2 ^ 31 by omega)] <;> rfl)

set_option maxHeartbeats 4000000 in
set_option maxRecDepth 100000 in
theorem m2_wish (l : Launch) (G : kG) (u : CS) (hL : lay G) (hk : okC G u) (x y : Int32) : KMi l G (AC G) (wC G) yX2_wish cX2_wish 5 (Option.some FieldType.int) ({ frames := 1, cells := 0, slots := 0, locals := 21 }) [.ref (gL G 0), .int (x), .int (y)] u (fun r u' => pWish (gn G) u x y = (r, u')) := by
  refine K_of (by decide) (Nat.le_of_ble_eq_true rfl) ?_
  intro p e s m below meth c X hr hlocks hnm hK hP ls hl
  have hx := X.1
  have hb := X.2.1
  have hown := X.2.2.2.1
  have hts := X.2.2.2.2
  have hS : va_S (AC G) s.heap s.heap [] := va_S.rf
  have hl : lv_has ls 5 [(0, .ref (gL G 0)), (1, .int (x)), (2, .int (y))] := hl
  obtain ⟨kn4, kn10, kT1, kT61, kP40, kLd, kPar, kEp, kHt, kFc, kVf, kTp, kHf⟩ := id hk
  refine lv_aload_n hx hb dX2_wish_0 rfl (lv_at hl 0 rfl) ?_
  refine lv_iload_n hx hb dX2_wish_1 rfl (lv_at hl 1 rfl) ?_
  refine k_cq (k_runV (As := [.int (x)]) (rest := []) X hK hP (wC_g G u (k := 0) (by decide)) rfl (m2_nodeAt l G u hL (hk) x) ⟨rfl, rfl⟩ tw_1_165 tw_1_167 tw_0_0 tw_1_1 tw_1_168 ⟨by decide +kernel, by decide +kernel, (by decide +kernel : (parseMethodDescriptor yX2_nodeAt.desc).map (fun d => d.parameters.length) = some 1)⟩ ⟨Nat.le_of_ble_eq_true rfl, Nat.le_of_ble_eq_true rfl⟩ hl.1 rfl (Nat.le_of_ble_eq_true rfl) ⟨Nat.zero_le _, Nat.zero_le _⟩ dX2_wish_2) hS (fun r_2 u_2 H locs hq_2 hP hS => ?_)
  have hP := k_su hq_2.1 hP
  rcases hq_2.2 with ⟨j_2, hj_2, hx_2, hr_2⟩ | ⟨hz_2, hr_2⟩
  · subst hx_2
    subst hr_2
    refine k_qs ?_
    refine lv_astore_n (lv' := [(3, .ref (gL G (11 + 5 * j_2))), (0, .ref (gL G 0)), (1, .int (nI j_2)), (2, .int (y))]) hx hb dX2_wish_5 rfl hl (by decide) rfl (fun ls hl => ?_)
    refine lv_aload_n hx hb dX2_wish_6 rfl (lv_at hl 0 rfl) ?_
    refine lv_ifnull hx hb dX2_wish_7 ?_
    refine lv_iload_n hx hb dX2_wish_10 rfl (lv_at hl 3 rfl) ?_
    refine lv_if_lt (tgt := 20) hx hb dX2_wish_11 (by decide) (fun c_11 => ?_) (fun c_11 => ?_)
    · have hz32 : ∀ j : Nat, j < 32 → y ≠ nI j := fun j hj => ix_lo c_11 hj (by decide)
      refine lv_bipush (v := -2) hx hb dX2_wish_20 (by decide) ?_
      exact k_reti X hr hlocks hP hS dX2_wish_22 (by simp only [pWish, ix_some hj_2 (show gn G < 2 ^ 31 by omega), ix_none hz32 (show 32 < 2 ^ 31 by decide)] <;> rfl)
    · refine lv_iload_n hx hb dX2_wish_14 rfl (lv_at hl 3 rfl) ?_
      refine lv_bipush (v := nI 32) hx hb dX2_wish_15 (by decide) ?_
      refine lv_icmp_lt (tgt := 23) hx hb dX2_wish_17 (by decide) (fun c_17 => ?_) (fun c_17 => ?_)
      · obtain ⟨k, hk32, rfl⟩ := ix_in c_11 c_17 (by decide)
        refine lv_aload_n hx hb dX2_wish_23 rfl (lv_at hl 0 rfl) ?_
        refine k_gn (v := .int ((mWi u.1) j_2)) X hK inX1 rfl hP (wC_n0 G u hj_2) 4 (by decide) ntw_1_84 rfl dX2_wish_24 ?_
        refine lv_istore (lv' := [(4, .int ((mWi u.1) j_2)), (3, .ref (gL G (11 + 5 * j_2))), (0, .ref (gL G 0)), (1, .int (nI j_2)), (2, .int (nI k))]) hx hb dX2_wish_27 hl (by decide) rfl (fun ls hl => ?_)
        refine lv_aload_n hx hb dX2_wish_29 rfl (lv_at hl 1 rfl) ?_
        refine lv_iload hx hb dX2_wish_30 (lv_at hl 0 rfl) ?_
        refine lv_iconst (v := nI 1) hx hb dX2_wish_32 (by decide) ?_
        refine lv_iload_n hx hb dX2_wish_33 rfl (lv_at hl 4 rfl) ?_
        refine lv_ishl hx hb dX2_wish_34 ?_
        refine k_ti (show nI 1 <<< (nI k &&& 31) = (1 : Int32) <<< (nI k &&& 31) from rfl) ?_
        refine lv_ior hx hb dX2_wish_35 ?_
        refine k_ti (show _ = wsh (mWi u.1 j_2) k from rfl) ?_
        refine k_pn (v := .int (wsh (mWi u.1 j_2) k)) X hK inX1 rfl tyX1_ok nmX1 hP (wC_D hL _) hS (wC_n0 G u hj_2) 4 (by decide) ntw_1_84 rfl rfl rfl (Nat.le_of_ble_eq_true rfl) ((sWi u.1 (va_up (mWi u.1) j_2 (wsh (mWi u.1 j_2) k)), u.2)) (cn_Wi G u hj_2 (wsh (mWi u.1 j_2) k)) dX2_wish_36 (fun H locs hP hS => ?_)
        have ok_36 : okC G ((sWi u.1 (va_up (mWi u.1) j_2 (wsh (mWi u.1 j_2) k)), u.2)) := hk
        refine lv_aload_n hx hb dX2_wish_39 rfl (lv_at hl 1 rfl) ?_
        refine k_gn (v := .int ((va_up (mWi u.1) j_2 (wsh (mWi u.1 j_2) k)) j_2)) X hK inX1 rfl hP (wC_n0 G ((sWi u.1 (va_up (mWi u.1) j_2 (wsh (mWi u.1 j_2) k)), u.2)) hj_2) 4 (by decide) ntw_1_84 rfl dX2_wish_40 ?_
        refine k_ti (va_up_self (mWi u.1) j_2 _) ?_
        refine lv_iload hx hb dX2_wish_43 (lv_at hl 0 rfl) ?_
        refine lv_icmp_ne (tgt := 52) hx hb dX2_wish_45 (by decide) (fun c_45 => ?_) (fun c_45 => ?_)
        · have htI : tI (mWi u.1 j_2) k = false := by
            cases h : tI (mWi u.1 j_2) k
            · rfl
            · exact absurd ((wsh_eq _ hk32).mpr h) c_45
          refine lv_iconst (v := nI 1) hx hb dX2_wish_52 (by decide) ?_
          exact k_reti X hr hlocks hP hS dX2_wish_53 (by simp only [pWish, ix_some hj_2 (show gn G < 2 ^ 31 by omega), ix_some hk32 (show 32 < 2 ^ 31 by decide)]; rw [htI]; rfl)
        · have htI : tI (mWi u.1 j_2) k = true := (wsh_eq _ hk32).mp c_45
          refine lv_iconst (v := nI 0) hx hb dX2_wish_48 (by decide) ?_
          refine lv_goto (tgt := 53) hx hb dX2_wish_49 (by decide) ?_
          exact k_reti X hr hlocks hP hS dX2_wish_53 (by simp only [pWish, ix_some hj_2 (show gn G < 2 ^ 31 by omega), ix_some hk32 (show 32 < 2 ^ 31 by decide)]; rw [htI]; rfl)
      · have hz32 : ∀ j : Nat, j < 32 → y ≠ nI j := fun j hj e => c_17 (by rw [e]; exact nI_lt hj (by decide))
        refine lv_bipush (v := -2) hx hb dX2_wish_20 (by decide) ?_
        exact k_reti X hr hlocks hP hS dX2_wish_22 (by simp only [pWish, ix_some hj_2 (show gn G < 2 ^ 31 by omega), ix_none hz32 (show 32 < 2 ^ 31 by decide)] <;> rfl)
  · subst hr_2
    refine k_qn ?_
    refine lv_astore_nN (lv' := [(3, .null), (0, .ref (gL G 0)), (1, .int (x)), (2, .int (y))]) hx hb dX2_wish_5 rfl hl (by decide) rfl (fun ls hl => ?_)
    refine lv_aload_nN hx hb dX2_wish_6 rfl (lv_at hl 0 rfl) ?_
    refine lv_ifnullN (tgt := 20) hx hb dX2_wish_7 (by decide) ?_
    refine lv_bipush (v := -2) hx hb dX2_wish_20 (by decide) ?_
    exact k_reti X hr hlocks hP hS dX2_wish_22 (by simp only [pWish, ix_none hz_2 (show gn G < 2 ^ 31 by omega)] <;> rfl)

set_option maxHeartbeats 4000000 in
set_option maxRecDepth 100000 in
theorem m2_epoch (l : Launch) (G : kG) (u : CS) (hL : lay G) (hk : okC G u) : KMi l G (AC G) (wC G) yX2_epoch cX2_epoch 6 (Option.some FieldType.int) ({ frames := 5, cells := 0, slots := 0, locals := 116 }) [.ref (gL G 0)] u (fun r u' => pEpoch (gn G) u = (r, u')) := by
  refine K_of (by decide) (Nat.le_of_ble_eq_true rfl) ?_
  intro p e s m below meth c X hr hlocks hnm hK hP ls hl
  have hx := X.1
  have hb := X.2.1
  have hown := X.2.2.2.1
  have hts := X.2.2.2.2
  have hS : va_S (AC G) s.heap s.heap [] := va_S.rf
  have hl : lv_has ls 6 [(0, .ref (gL G 0))] := hl
  obtain ⟨kn4, kn10, kT1, kT61, kP40, kLd, kPar, kEp, kHt, kFc, kVf, kTp, kHf⟩ := id hk
  have join_71 : ∀ (v : Nat) (w : CS) (hP40 : mP u.1 < 40) (hv : mLd u.1 (mP u.1 + 1) = v) (hroom : mFa u.1 v = true ∨ mT u.1 ≤ 60) (hw : w = cBegin (gn G) u v) (H : Heap) (locs : List Loc) (ls : Array Slot), va_P (gD G) vwCl ((wC G) w) H → va_S (AC G) s.heap H locs → lv_has ls 6 [(0, .ref (gL G 0))] → W p l e ({ frames := 5, cells := 0, slots := 0, locals := 116 } : Room) s m ([.ref (gL G 0)] : List Value).toArray below meth c H locs 0 0 (MQ below (va_Qi (fun r u' => pEpoch (gn G) u = (r, u')) (KB G (wC G)) (AC G)) ([.ref (gL G 0)] : List Value).toArray s 0 0 (AC G)) (F0 m 71 ls []) := by
    intro v w hP40 hv hroom hw H locs ls hP hS hl
    have hok : okC G w := by rw [hw]; exact ok_begin hk hP40 hroom
    refine lv_aload_n hx hb dX2_epoch_71 rfl (lv_at hl 0 rfl) ?_
    refine k_get (v := .ref (gL G 1)) X hK inX2 rfl hP (wC_g G w (k := 0) (by decide)) 1 (by decide) tw_1_140 rfl dX2_epoch_72 ?_
    refine lv_astore_n (lv' := [(2, .ref (gL G 1)), (0, .ref (gL G 0))]) hx hb dX2_epoch_75 rfl hl (by decide) rfl (fun ls hl => ?_)
    refine lv_aload_n hx hb dX2_epoch_76 rfl (lv_at hl 0 rfl) ?_
    refine k_len X hK hP (wC_g G w (k := 1) (by decide)) dX2_epoch_77 ?_
    refine lv_istore_n (lv' := [(3, .int (nI (gn G))), (2, .ref (gL G 1)), (0, .ref (gL G 0))]) hx hb dX2_epoch_78 rfl hl (by decide) rfl (fun ls hl => ?_)
    refine lv_iconst (v := nI 0) hx hb dX2_epoch_79 (by decide) ?_
    refine lv_istore (lv' := [(4, .int (nI 0)), (3, .int (nI (gn G))), (2, .ref (gL G 1)), (0, .ref (gL G 0))]) hx hb dX2_epoch_80 hl (by decide) rfl (fun ls hl => ?_)
    have loop_82 : ∀ (d_82 : Nat) (i : Nat) (w1 : CS), gn G - i = d_82 → (i ≤ gn G) → (w1 = lkAll (gn G) w i) → ∀ (H : Heap) (locs : List Loc) (ls : Array Slot), va_P (gD G) vwCl ((wC G) w1) H → va_S (AC G) s.heap H locs → lv_has ls 6 [(0, .ref (gL G 0)), (2, .ref (gL G 1)), (3, .int (nI (gn G))), (4, .int (nI i))] → W p l e ({ frames := 5, cells := 0, slots := 0, locals := 116 } : Room) s m ([.ref (gL G 0)] : List Value).toArray below meth c H locs 0 0 (MQ below (va_Qi (fun r u' => pEpoch (gn G) u = (r, u')) (KB G (wC G)) (AC G)) ([.ref (gL G 0)] : List Value).toArray s 0 0 (AC G)) (F0 m 82 ls []) := by
      intro d_82
      induction d_82 using Nat.strongRecOn with
      | ind d_82 ih_82 =>
        intro i w1 hd_82 hi hw1 H locs ls hP hS hl
        have hok1 : okC G w1 := by rw [hw1]; exact ok_lkAll hok _
        refine lv_iload hx hb dX2_epoch_82 (lv_at hl 3 rfl) ?_
        refine lv_iload_n hx hb dX2_epoch_84 rfl (lv_at hl 2 rfl) ?_
        refine lv_icmp_ge (tgt := 106) hx hb dX2_epoch_85 (by decide) (fun c_85 => ?_) (fun c_85 => ?_)
        · have c_85 : (gn G) ≤ i := cLe c_85 (by omega) (by omega)
          refine lv_aload_n hx hb dX2_epoch_106 rfl (lv_at hl 0 rfl) ?_
          refine k_get (v := .int (nI (mP w1.1))) X hK inX2 rfl hP (wC_g G w1 (k := 0) (by decide)) 3 (by decide) tw_1_142 rfl dX2_epoch_107 ?_
          refine k_ti (congrArg nI (show mP w1.1 = mP u.1 + 1 by rw [hw1, stat_P (st_lkAll _ _ _), hw, P_begin])) ?_
          exact k_reti X hr hlocks hP hS dX2_epoch_110 (by rw [pEpoch, if_neg (by omega), hv, if_neg (by rcases hroom with h | h <;> simp [h]), hw1, show i = gn G by omega, hw])
        · have c_85 : i < (gn G) := cNle c_85 (by omega) (by omega)
          refine lv_aload_n hx hb dX2_epoch_88 rfl (lv_at hl 1 rfl) ?_
          refine lv_iload hx hb dX2_epoch_89 (lv_at hl 3 rfl) ?_
          refine k_ald (v := gL G (11 + 5 * i)) X hK hP (wC_g G w1 (k := 1) (by decide)) (by omega) (by omega) rfl dX2_epoch_91 ?_
          refine lv_astore (lv' := [(5, .ref (gL G (11 + 5 * i))), (0, .ref (gL G 0)), (2, .ref (gL G 1)), (3, .int (nI (gn G))), (4, .int (nI i))]) hx hb dX2_epoch_92 hl (by decide) rfl (fun ls hl => ?_)
          refine lv_aload_n hx hb dX2_epoch_94 rfl (lv_at hl 1 rfl) ?_
          refine lv_aload hx hb dX2_epoch_95 (lv_at hl 0 rfl) ?_
          refine k_cv (k_runV (As := [.ref (gL G (11 + 5 * i))]) (rest := []) X hK hP (wC_g G w1 (k := 0) (by decide)) rfl (m2_look l G w1 hL (hok1) (v := i) (by omega)) ⟨rfl, rfl⟩ tw_2_0 tw_2_2 tw_0_13 tw_1_1 tw_2_3 ⟨by decide +kernel, by decide +kernel, (by decide +kernel : (parseMethodDescriptor yX2_look.desc).map (fun d => d.parameters.length) = some 1)⟩ ⟨Nat.le_of_ble_eq_true rfl, Nat.le_of_ble_eq_true rfl⟩ hl.1 rfl (Nat.le_of_ble_eq_true rfl) ⟨Nat.zero_le _, Nat.zero_le _⟩ dX2_epoch_97) hS (fun u_97 H locs hq_97 hP hS => ?_)
          have hP := k_su hq_97 hP
          have ok_97 : okC G ((cLook (gn G) w1 i)) := ok_look (hok1) _
          refine lv_iinc (v := nI (i + 1)) (lv' := [(4, .int (nI (i + 1))), (5, .ref (gL G (11 + 5 * i))), (0, .ref (gL G 0)), (2, .ref (gL G 1)), (3, .int (nI (gn G)))]) hx hb dX2_epoch_100 hl (k := 4) rfl (nI_add i 1) (by decide) rfl (fun ls hl => ?_)
          refine lv_goto (tgt := 82) hx hb dX2_epoch_103 (by decide) ?_
          exact ih_82 (gn G - (i + 1)) (by omega) (i + 1) ((cLook (gn G) w1 i)) rfl (by omega) (by rw [lkAll, ← hw1]) _ _ _ hP hS (lv_sub hl [2, 3, 4, 0] rfl)
    exact loop_82 _ 0 w rfl (Nat.zero_le _) (rfl) _ _ _ hP hS (lv_sub hl [3, 2, 1, 0] rfl)
  refine lv_aload_n hx hb dX2_epoch_0 rfl (lv_at hl 0 rfl) ?_
  refine k_get (v := .int (nI (mP u.1))) X hK inX2 rfl hP (wC_g G u (k := 0) (by decide)) 3 (by decide) tw_1_142 rfl dX2_epoch_1 ?_
  refine lv_bipush (v := nI 40) hx hb dX2_epoch_4 (by decide) ?_
  refine lv_icmp_lt (tgt := 12) hx hb dX2_epoch_6 (by decide) (fun c_6 => ?_) (fun c_6 => ?_)
  · have c_6 : (mP u.1) < 40 := cLt c_6 (by omega) (by omega)
    refine lv_aload_n hx hb dX2_epoch_12 rfl (lv_at hl 0 rfl) ?_
    refine k_get (v := .ref (gL G 1)) X hK inX2 rfl hP (wC_g G u (k := 0) (by decide)) 1 (by decide) tw_1_140 rfl dX2_epoch_13 ?_
    refine lv_aload_n hx hb dX2_epoch_16 rfl (lv_at hl 0 rfl) ?_
    refine k_get (v := .ref (gL G 2)) X hK inX2 rfl hP (wC_g G u (k := 0) (by decide)) 2 (by decide) tw_1_141 rfl dX2_epoch_17 ?_
    refine lv_aload_n hx hb dX2_epoch_20 rfl (lv_at hl 0 rfl) ?_
    refine k_get (v := .int (nI (mP u.1))) X hK inX2 rfl hP (wC_g G u (k := 0) (by decide)) 3 (by decide) tw_1_142 rfl dX2_epoch_21 ?_
    refine lv_iconst (v := nI 1) hx hb dX2_epoch_24 (by decide) ?_
    refine lv_iadd hx hb dX2_epoch_25 ?_
    refine k_ti (nI_add (mP u.1) 1) ?_
    refine k_ild (v := nI (mLd u.1 ((mP u.1) + 1))) X hK hP (wC_g G u (k := 2) (by decide)) (by omega) (by decide) rfl dX2_epoch_26 ?_
    obtain ⟨v, hv⟩ : ∃ v, mLd u.1 (mP u.1 + 1) = v := ⟨_, rfl⟩
    refine k_ti (congrArg nI hv) ?_
    have hvn : v < gn G := hv ▸ kLd _
    refine k_ald (v := gL G (11 + 5 * v)) X hK hP (wC_g G u (k := 1) (by decide)) (by omega) (by omega) rfl dX2_epoch_27 ?_
    refine lv_astore_n (lv' := [(1, .ref (gL G (11 + 5 * v))), (0, .ref (gL G 0))]) hx hb dX2_epoch_28 rfl hl (by decide) rfl (fun ls hl => ?_)
    refine lv_aload_n hx hb dX2_epoch_29 rfl (lv_at hl 0 rfl) ?_
    refine k_gn (v := .int (bI ((mFa u.1) v))) X hK inX1 rfl hP (wC_n0 G u (by omega)) 3 (by decide) ntw_1_83 rfl dX2_epoch_30 ?_
    refine lv_if_ne (tgt := 49) hx hb dX2_epoch_33 (by decide) (fun c_33 => ?_) (fun c_33 => ?_)
    · have c_33 : ((mFa u.1) v) = true := (bI_ne0 _).mp c_33
      have hroom : mFa u.1 v = true ∨ mT u.1 ≤ 60 := Or.inl c_33
      refine lv_aload_n hx hb dX2_epoch_49 rfl (lv_at hl 1 rfl) ?_
      refine lv_dup hx hb dX2_epoch_50 rfl ?_
      refine k_get (v := .int (nI (mP u.1))) X hK inX2 rfl hP (wC_g G u (k := 0) (by decide)) 3 (by decide) tw_1_142 rfl dX2_epoch_51 ?_
      refine lv_iconst (v := nI 1) hx hb dX2_epoch_54 (by decide) ?_
      refine lv_iadd hx hb dX2_epoch_55 ?_
      refine k_ti (nI_add (mP u.1) 1) ?_
      refine k_put (v := .int (nI ((mP u.1) + 1))) X hK inX2 rfl tyX2_ok nmX2 hP (wC_D hL _) hS (wC_g G u (k := 0) (by decide)) 3 (by decide) tw_1_142 rfl rfl rfl (Nat.le_of_ble_eq_true rfl) ((sP u.1 ((mP u.1) + 1), u.2)) (cs_P G u ((mP u.1) + 1)) dX2_epoch_56 (fun H locs hP hS => ?_)
      have ok_56 : okC G ((sP u.1 ((mP u.1) + 1), u.2)) := ok_next hk c_6
      refine lv_aload_n hx hb dX2_epoch_59 rfl (lv_at hl 0 rfl) ?_
      refine k_gn (v := .int (bI ((mFa u.1) v))) X hK inX1 rfl hP (wC_n0 G ((sP u.1 ((mP u.1) + 1), u.2)) (by omega)) 3 (by decide) ntw_1_83 rfl dX2_epoch_60 ?_
      refine lv_if_ne (tgt := 71) hx hb dX2_epoch_63 (by decide) (fun c_63 => ?_) (fun c_63 => ?_)
      · have c_63 : ((mFa u.1) v) = true := (bI_ne0 _).mp c_63
        exact join_71 v ((sP u.1 ((mP u.1) + 1), u.2)) (c_6) (hv) (hroom) (by rw [cBegin, if_pos c_33]; rfl) _ _ _ hP hS (lv_sub hl [1] rfl)
      · have c_63 : ((mFa u.1) v) = false := (bI_eq0 _).mp c_63
        exact absurd (c_63.symm.trans c_33) (by decide)
    · have c_33 : ((mFa u.1) v) = false := (bI_eq0 _).mp c_33
      refine lv_aload_n hx hb dX2_epoch_36 rfl (lv_at hl 1 rfl) ?_
      refine k_get (v := .ref (gL G 3)) X hK inX2 rfl hP (wC_g G u (k := 0) (by decide)) 0 (by decide) tw_1_139 rfl dX2_epoch_37 ?_
      refine k_ci (k_runN (As := []) (rest := []) X hK hP (wC_g G u (k := 3) (by decide)) rfl (m0_haveRoom l G u hL (hk)) ⟨rfl, rfl⟩ ntw_1_185 tw_1_187 tw_0_2 tw_1_3 tw_1_188 ⟨by decide +kernel, by decide +kernel, (by decide +kernel : (parseMethodDescriptor yX0_haveRoom.desc).map (fun d => d.parameters.length) = some 0)⟩ ⟨Nat.le_of_ble_eq_true rfl, Nat.le_of_ble_eq_true rfl⟩ hl.1 rfl (Nat.le_of_ble_eq_true rfl) ⟨Nat.zero_le _, Nat.zero_le _⟩ dX2_epoch_40) hS (fun r_40 u_40 H locs hq_40 hP hS => ?_)
      have hP := k_su hq_40.2 hP
      refine k_ti hq_40.1 ?_
      refine lv_if_ne (tgt := 49) hx hb dX2_epoch_43 (by decide) (fun c_43 => ?_) (fun c_43 => ?_)
      · have c_43 : (decide (mT u.1 ≤ 60)) = true := (bI_ne0 _).mp c_43
        have hroom : mFa u.1 v = true ∨ mT u.1 ≤ 60 := Or.inr (of_decide_eq_true c_43)
        have hT60 : mT u.1 ≤ 60 := of_decide_eq_true c_43
        refine lv_aload_n hx hb dX2_epoch_49 rfl (lv_at hl 1 rfl) ?_
        refine lv_dup hx hb dX2_epoch_50 rfl ?_
        refine k_get (v := .int (nI (mP u.1))) X hK inX2 rfl hP (wC_g G u (k := 0) (by decide)) 3 (by decide) tw_1_142 rfl dX2_epoch_51 ?_
        refine lv_iconst (v := nI 1) hx hb dX2_epoch_54 (by decide) ?_
        refine lv_iadd hx hb dX2_epoch_55 ?_
        refine k_ti (nI_add (mP u.1) 1) ?_
        refine k_put (v := .int (nI ((mP u.1) + 1))) X hK inX2 rfl tyX2_ok nmX2 hP (wC_D hL _) hS (wC_g G u (k := 0) (by decide)) 3 (by decide) tw_1_142 rfl rfl rfl (Nat.le_of_ble_eq_true rfl) ((sP u.1 ((mP u.1) + 1), u.2)) (cs_P G u ((mP u.1) + 1)) dX2_epoch_56 (fun H locs hP hS => ?_)
        have ok_56 : okC G ((sP u.1 ((mP u.1) + 1), u.2)) := ok_next hk c_6
        refine lv_aload_n hx hb dX2_epoch_59 rfl (lv_at hl 0 rfl) ?_
        refine k_gn (v := .int (bI ((mFa u.1) v))) X hK inX1 rfl hP (wC_n0 G ((sP u.1 ((mP u.1) + 1), u.2)) (by omega)) 3 (by decide) ntw_1_83 rfl dX2_epoch_60 ?_
        refine lv_if_ne (tgt := 71) hx hb dX2_epoch_63 (by decide) (fun c_63 => ?_) (fun c_63 => ?_)
        · have c_63 : ((mFa u.1) v) = true := (bI_ne0 _).mp c_63
          exact absurd (c_63.symm.trans c_33) (by decide)
        · have c_63 : ((mFa u.1) v) = false := (bI_eq0 _).mp c_63
          refine lv_aload_n hx hb dX2_epoch_66 rfl (lv_at hl 1 rfl) ?_
          refine lv_aload_n hx hb dX2_epoch_67 rfl (lv_at hl 0 rfl) ?_
          refine k_cv (k_runV (As := [.ref (gL G (11 + 5 * v))]) (rest := []) X hK hP (wC_g G ((sP u.1 ((mP u.1) + 1), u.2)) (k := 0) (by decide)) rfl (m2_makeOnTip l G ((sP u.1 ((mP u.1) + 1), u.2)) hL (ok_56) (v := v) (by omega) (by omega)) ⟨rfl, rfl⟩ tw_1_189 tw_1_191 tw_0_3 tw_1_1 tw_1_192 ⟨by decide +kernel, by decide +kernel, (by decide +kernel : (parseMethodDescriptor yX2_makeOnTip.desc).map (fun d => d.parameters.length) = some 1)⟩ ⟨Nat.le_of_ble_eq_true rfl, Nat.le_of_ble_eq_true rfl⟩ hl.1 rfl (Nat.le_of_ble_eq_true rfl) ⟨Nat.zero_le _, Nat.zero_le _⟩ dX2_epoch_68) hS (fun u_68 H locs hq_68 hP hS => ?_)
          have hP := k_su hq_68 hP
          have ok_68 : okC G ((cMakeOnTip (gn G) ((sP u.1 ((mP u.1) + 1), u.2)) v)) := ok_makeOnTip (ok_56) (by omega)
          exact join_71 v ((cMakeOnTip (gn G) ((sP u.1 ((mP u.1) + 1), u.2)) v)) (c_6) (hv) (hroom) (by rw [cBegin, if_neg (by rw [c_33]; decide)]; rfl) _ _ _ hP hS (lv_sub hl [1] rfl)
      · have c_43 : (decide (mT u.1 ≤ 60)) = false := (bI_eq0 _).mp c_43
        refine lv_bipush (v := -4) hx hb dX2_epoch_46 (by decide) ?_
        exact k_reti X hr hlocks hP hS dX2_epoch_48 (by rw [pEpoch, if_neg (by omega), hv, if_pos (by rw [c_33, c_43]; rfl)])
  · have c_6 : 40 ≤ (mP u.1) := cNlt c_6 (by omega) (by omega)
    refine lv_bipush (v := -3) hx hb dX2_epoch_9 (by decide) ?_
    exact k_reti X hr hlocks hP hS dX2_epoch_11 (by rw [pEpoch, if_pos c_6])

set_option maxHeartbeats 4000000 in
set_option maxRecDepth 100000 in
theorem m2_bring (l : Launch) (G : kG) (u : CS) (hL : lay G) (hk : okC G u) (hw0 : ∀ l v, l < 11 → mWy u.1 l v = false) (x y : Int32) : KMi l G (AC G) (wC G) yX2_bring cX2_bring 4 (Option.some FieldType.int) ({ frames := 5, cells := 0, slots := 0, locals := 117 }) [.ref (gL G 0), .int (x), .int (y)] u (fun r u' => pBring (gn G) u x y = (r, u')) := by
  refine K_of (by decide) (Nat.le_of_ble_eq_true rfl) ?_
  intro p e s m below meth c X hr hlocks hnm hK hP ls hl
  have hx := X.1
  have hb := X.2.1
  have hown := X.2.2.2.1
  have hts := X.2.2.2.2
  have hS : va_S (AC G) s.heap s.heap [] := va_S.rf
  have hl : lv_has ls 4 [(0, .ref (gL G 0)), (1, .int (x)), (2, .int (y))] := hl
  obtain ⟨kn4, kn10, kT1, kT61, kP40, kLd, kPar, kEp, kHt, kFc, kVf, kTp, kHf⟩ := id hk
  refine lv_aload_n hx hb dX2_bring_0 rfl (lv_at hl 0 rfl) ?_
  refine lv_iload_n hx hb dX2_bring_1 rfl (lv_at hl 2 rfl) ?_
  refine k_cq (k_runV (As := [.int (y)]) (rest := []) X hK hP (wC_g G u (k := 0) (by decide)) rfl (m2_nodeAt l G u hL (hk) y) ⟨rfl, rfl⟩ tw_1_165 tw_1_167 tw_0_0 tw_1_1 tw_1_168 ⟨by decide +kernel, by decide +kernel, (by decide +kernel : (parseMethodDescriptor yX2_nodeAt.desc).map (fun d => d.parameters.length) = some 1)⟩ ⟨Nat.le_of_ble_eq_true rfl, Nat.le_of_ble_eq_true rfl⟩ hl.1 rfl (Nat.le_of_ble_eq_true rfl) ⟨Nat.zero_le _, Nat.zero_le _⟩ dX2_bring_2) hS (fun r_2 u_2 H locs hq_2 hP hS => ?_)
  have hP := k_su hq_2.1 hP
  rcases hq_2.2 with ⟨j_2, hj_2, hx_2, hr_2⟩ | ⟨hz_2, hr_2⟩
  · subst hx_2
    subst hr_2
    refine k_qs ?_
    refine lv_astore_n (lv' := [(3, .ref (gL G (11 + 5 * j_2))), (0, .ref (gL G 0)), (1, .int (x)), (2, .int (nI j_2))]) hx hb dX2_bring_5 rfl hl (by decide) rfl (fun ls hl => ?_)
    refine lv_aload_n hx hb dX2_bring_6 rfl (lv_at hl 0 rfl) ?_
    refine lv_ifnull hx hb dX2_bring_7 ?_
    refine lv_aload_n hx hb dX2_bring_10 rfl (lv_at hl 1 rfl) ?_
    refine k_get (v := .ref (gL G 3)) X hK inX2 rfl hP (wC_g G u (k := 0) (by decide)) 0 (by decide) tw_1_139 rfl dX2_bring_11 ?_
    refine lv_iload_n hx hb dX2_bring_14 rfl (lv_at hl 2 rfl) ?_
    refine k_ci (k_runN (As := [.int (x)]) (rest := []) X hK hP (wC_g G u (k := 3) (by decide)) rfl (m0_exist l G u hL (hk) x) ⟨rfl, rfl⟩ ntw_2_24 tw_2_26 tw_0_18 tw_1_3 tw_2_27 ⟨by decide +kernel, by decide +kernel, (by decide +kernel : (parseMethodDescriptor yX0_exist.desc).map (fun d => d.parameters.length) = some 1)⟩ ⟨Nat.le_of_ble_eq_true rfl, Nat.le_of_ble_eq_true rfl⟩ hl.1 rfl (Nat.le_of_ble_eq_true rfl) ⟨Nat.zero_le _, Nat.zero_le _⟩ dX2_bring_15) hS (fun r_15 u_15 H locs hq_15 hP hS => ?_)
    have hP := k_su hq_15.1 hP
    rcases hq_15.2 with ⟨j_15, hj_15, hx_15, hr_15⟩ | ⟨hz_15, hr_15⟩
    · subst hx_15
      subst hr_15
      refine lv_if_ne (tgt := 24) hx hb dX2_bring_18 (by decide) (fun c_18 => ?_) (fun c_18 => ?_)
      · refine lv_aload_n hx hb dX2_bring_24 rfl (lv_at hl 0 rfl) ?_
        refine k_gn (v := .long (eL (pB (mWy u.1) j_2))) X hK inX1 rfl hP (wC_n0 G u hj_2) 6 (by decide) ntw_1_88 rfl dX2_bring_25 ?_
        refine lv_iload_n hx hb dX2_bring_28 rfl (lv_at hl 2 rfl) ?_
        refine k_ci (k_runS (As := [.long (eL (pB (mWy u.1) j_2)), .int (nI j_15)]) (rest := []) X hK hP (m2_holds l G (AC G) (wC G) u (eL (pB (mWy u.1) j_2)) (k := j_15) (by omega)) ⟨rfl, rfl⟩ tw_1_235 tw_1_211 tw_1_1 tw_1_212 ⟨by decide +kernel, by decide +kernel, (by decide +kernel : (parseMethodDescriptor yX2_holds.desc).map (fun d => d.parameters.length) = some 2)⟩ ⟨Nat.le_of_ble_eq_true rfl, Nat.le_of_ble_eq_true rfl⟩ hl.1 rfl (Nat.le_of_ble_eq_true rfl) ⟨Nat.zero_le _, Nat.zero_le _⟩ dX2_bring_29) hS (fun r_29 u_29 H locs hq_29 hP hS => ?_)
        have hP := k_su hq_29.2 hP
        refine k_ti (y := bI (mWy u.1 (11 * j_15) j_2)) (hq_29.1.trans (congrArg bI (tL_eL _ (by omega)))) ?_
        refine lv_if_ne (tgt := 38) hx hb dX2_bring_32 (by decide) (fun c_32 => ?_) (fun c_32 => ?_)
        · have c_32 : (mWy u.1 (11 * j_15) j_2) = true := (bI_ne0 _).mp c_32
          have hb0 : 0 < j_15 := Nat.pos_of_ne_zero fun h => by
            rw [hw0 _ _ (by omega)] at c_32
            exact absurd c_32 (by decide)
          refine lv_aload_n hx hb dX2_bring_38 rfl (lv_at hl 1 rfl) ?_
          refine lv_aload_n hx hb dX2_bring_39 rfl (lv_at hl 0 rfl) ?_
          refine lv_iload_n hx hb dX2_bring_40 rfl (lv_at hl 2 rfl) ?_
          refine k_cv (k_runV (As := [.ref (gL G (11 + 5 * j_2)), .int (nI j_15)]) (rest := []) X hK hP (wC_g G u (k := 0) (by decide)) rfl (m2_letProposalCome l G u hL (hk) (v := j_2) hj_2 (b := j_15) (by omega) (show j_15 < mT u.1 by omega)) ⟨rfl, rfl⟩ tw_2_28 tw_2_30 tw_0_19 tw_1_1 tw_2_31 ⟨by decide +kernel, by decide +kernel, (by decide +kernel : (parseMethodDescriptor yX2_letProposalCome.desc).map (fun d => d.parameters.length) = some 2)⟩ ⟨Nat.le_of_ble_eq_true rfl, Nat.le_of_ble_eq_true rfl⟩ hl.1 rfl (Nat.le_of_ble_eq_true rfl) ⟨Nat.zero_le _, Nat.zero_le _⟩ dX2_bring_41) hS (fun u_41 H locs hq_41 hP hS => ?_)
          have hP := k_su hq_41 hP
          have ok_41 : okC G ((cLetP (gn G) u j_2 j_15)) := ok_letP (hk) (show j_15 < mT u.1 by omega)
          refine lv_iconst (v := nI 1) hx hb dX2_bring_44 (by decide) ?_
          exact k_reti X hr hlocks hP hS dX2_bring_45 (by simp only [pBring, ix_some hj_2 (show gn G < 2 ^ 31 by omega), ix_some hj_15 (show mT u.1 < 2 ^ 31 by omega)]; rw [if_pos c_32]; rfl)
        · have c_32 : (mWy u.1 (11 * j_15) j_2) = false := (bI_eq0 _).mp c_32
          refine lv_bipush (v := -3) hx hb dX2_bring_35 (by decide) ?_
          exact k_reti X hr hlocks hP hS dX2_bring_37 (by simp only [pBring, ix_some hj_2 (show gn G < 2 ^ 31 by omega), ix_some hj_15 (show mT u.1 < 2 ^ 31 by omega)]; rw [if_neg (by rw [c_32]; decide)])
      · exact absurd c_18 (by decide)
    · subst hr_15
      refine lv_if_ne (tgt := 24) hx hb dX2_bring_18 (by decide) (fun c_18 => ?_) (fun c_18 => ?_)
      · exact absurd rfl c_18
      · refine lv_bipush (v := -2) hx hb dX2_bring_21 (by decide) ?_
        exact k_reti X hr hlocks hP hS dX2_bring_23 (by simp only [pBring, ix_some hj_2 (show gn G < 2 ^ 31 by omega), ix_none hz_15 (show mT u.1 < 2 ^ 31 by omega)] <;> rfl)
  · subst hr_2
    refine k_qn ?_
    refine lv_astore_nN (lv' := [(3, .null), (0, .ref (gL G 0)), (1, .int (x)), (2, .int (y))]) hx hb dX2_bring_5 rfl hl (by decide) rfl (fun ls hl => ?_)
    refine lv_aload_nN hx hb dX2_bring_6 rfl (lv_at hl 0 rfl) ?_
    refine lv_ifnullN (tgt := 21) hx hb dX2_bring_7 (by decide) ?_
    refine lv_bipush (v := -2) hx hb dX2_bring_21 (by decide) ?_
    exact k_reti X hr hlocks hP hS dX2_bring_23 (by simp only [pBring, ix_none hz_2 (show gn G < 2 ^ 31 by omega)] <;> rfl)

set_option maxHeartbeats 4000000 in
set_option maxRecDepth 100000 in
theorem m2_bringVote (l : Launch) (G : kG) (u : CS) (hL : lay G) (hk : okC G u) (hw0 : ∀ l v, l < 11 → mWy u.1 l v = false) (x y z : Int32) : KMi l G (AC G) (wC G) yX2_bringVote cX2_bringVote 5 (Option.some FieldType.int) ({ frames := 5, cells := 0, slots := 0, locals := 119 }) [.ref (gL G 0), .int (x), .int (y), .int (z)] u (fun r u' => pBringVote (gn G) u x y z = (r, u')) := by
  refine K_of (by decide) (Nat.le_of_ble_eq_true rfl) ?_
  intro p e s m below meth c X hr hlocks hnm hK hP ls hl
  have hx := X.1
  have hb := X.2.1
  have hown := X.2.2.2.1
  have hts := X.2.2.2.2
  have hS : va_S (AC G) s.heap s.heap [] := va_S.rf
  have hl : lv_has ls 5 [(0, .ref (gL G 0)), (1, .int (x)), (2, .int (y)), (3, .int (z))] := hl
  obtain ⟨kn4, kn10, kT1, kT61, kP40, kLd, kPar, kEp, kHt, kFc, kVf, kTp, kHf⟩ := id hk
  refine lv_aload_n hx hb dX2_bringVote_0 rfl (lv_at hl 0 rfl) ?_
  refine lv_iload_n hx hb dX2_bringVote_1 rfl (lv_at hl 3 rfl) ?_
  refine k_cq (k_runV (As := [.int (z)]) (rest := []) X hK hP (wC_g G u (k := 0) (by decide)) rfl (m2_nodeAt l G u hL (hk) z) ⟨rfl, rfl⟩ tw_1_165 tw_1_167 tw_0_0 tw_1_1 tw_1_168 ⟨by decide +kernel, by decide +kernel, (by decide +kernel : (parseMethodDescriptor yX2_nodeAt.desc).map (fun d => d.parameters.length) = some 1)⟩ ⟨Nat.le_of_ble_eq_true rfl, Nat.le_of_ble_eq_true rfl⟩ hl.1 rfl (Nat.le_of_ble_eq_true rfl) ⟨Nat.zero_le _, Nat.zero_le _⟩ dX2_bringVote_2) hS (fun r_2 u_2 H locs hq_2 hP hS => ?_)
  have hP := k_su hq_2.1 hP
  rcases hq_2.2 with ⟨j_2, hj_2, hx_2, hr_2⟩ | ⟨hz_2, hr_2⟩
  · subst hx_2
    subst hr_2
    refine k_qs ?_
    refine lv_astore (lv' := [(4, .ref (gL G (11 + 5 * j_2))), (0, .ref (gL G 0)), (1, .int (x)), (2, .int (y)), (3, .int (nI j_2))]) hx hb dX2_bringVote_5 hl (by decide) rfl (fun ls hl => ?_)
    refine lv_aload hx hb dX2_bringVote_7 (lv_at hl 0 rfl) ?_
    refine lv_ifnull hx hb dX2_bringVote_9 ?_
    refine lv_aload_n hx hb dX2_bringVote_12 rfl (lv_at hl 1 rfl) ?_
    refine lv_iload_n hx hb dX2_bringVote_13 rfl (lv_at hl 2 rfl) ?_
    refine k_cq (k_runV (As := [.int (x)]) (rest := []) X hK hP (wC_g G u (k := 0) (by decide)) rfl (m2_nodeAt l G u hL (hk) x) ⟨rfl, rfl⟩ tw_1_165 tw_1_167 tw_0_0 tw_1_1 tw_1_168 ⟨by decide +kernel, by decide +kernel, (by decide +kernel : (parseMethodDescriptor yX2_nodeAt.desc).map (fun d => d.parameters.length) = some 1)⟩ ⟨Nat.le_of_ble_eq_true rfl, Nat.le_of_ble_eq_true rfl⟩ hl.1 rfl (Nat.le_of_ble_eq_true rfl) ⟨Nat.zero_le _, Nat.zero_le _⟩ dX2_bringVote_14) hS (fun r_14 u_14 H locs hq_14 hP hS => ?_)
    have hP := k_su hq_14.1 hP
    rcases hq_14.2 with ⟨j_14, hj_14, hx_14, hr_14⟩ | ⟨hz_14, hr_14⟩
    · subst hx_14
      subst hr_14
      refine k_qs ?_
      refine lv_ifnull hx hb dX2_bringVote_17 ?_
      refine lv_aload_n hx hb dX2_bringVote_20 rfl (lv_at hl 1 rfl) ?_
      refine k_get (v := .ref (gL G 3)) X hK inX2 rfl hP (wC_g G u (k := 0) (by decide)) 0 (by decide) tw_1_139 rfl dX2_bringVote_21 ?_
      refine lv_iload_n hx hb dX2_bringVote_24 rfl (lv_at hl 3 rfl) ?_
      refine k_ci (k_runN (As := [.int (y)]) (rest := []) X hK hP (wC_g G u (k := 3) (by decide)) rfl (m0_exist l G u hL (hk) y) ⟨rfl, rfl⟩ ntw_2_24 tw_2_26 tw_0_18 tw_1_3 tw_2_27 ⟨by decide +kernel, by decide +kernel, (by decide +kernel : (parseMethodDescriptor yX0_exist.desc).map (fun d => d.parameters.length) = some 1)⟩ ⟨Nat.le_of_ble_eq_true rfl, Nat.le_of_ble_eq_true rfl⟩ hl.1 rfl (Nat.le_of_ble_eq_true rfl) ⟨Nat.zero_le _, Nat.zero_le _⟩ dX2_bringVote_25) hS (fun r_25 u_25 H locs hq_25 hP hS => ?_)
      have hP := k_su hq_25.1 hP
      rcases hq_25.2 with ⟨j_25, hj_25, hx_25, hr_25⟩ | ⟨hz_25, hr_25⟩
      · subst hx_25
        subst hr_25
        refine lv_if_ne (tgt := 34) hx hb dX2_bringVote_28 (by decide) (fun c_28 => ?_) (fun c_28 => ?_)
        · refine lv_aload hx hb dX2_bringVote_34 (lv_at hl 0 rfl) ?_
          refine k_gn (v := .ref (gL G (13 + 5 * j_2))) X hK inX1 rfl hP (wC_n0 G u hj_2) 8 (by decide) ntw_1_92 rfl dX2_bringVote_36 ?_
          refine lv_iload_n hx hb dX2_bringVote_39 rfl (lv_at hl 3 rfl) ?_
          refine k_ild (v := eI (vB (mWy u.1) j_25 j_2)) X hK hP (wC_n2 G u hj_2) (by omega) (by decide) rfl dX2_bringVote_40 ?_
          refine lv_i2l (v := (eI (vB (mWy u.1) j_25 j_2)).toInt64) hx hb dX2_bringVote_41 rfl ?_
          refine lv_iload_n hx hb dX2_bringVote_42 rfl (lv_at hl 2 rfl) ?_
          refine k_ci (k_runS (As := [.long ((eI (vB (mWy u.1) j_25 j_2)).toInt64), .int (nI j_14)]) (rest := []) X hK hP (m2_holds l G (AC G) (wC G) u ((eI (vB (mWy u.1) j_25 j_2)).toInt64) (k := j_14) (by omega)) ⟨rfl, rfl⟩ tw_1_235 tw_1_211 tw_1_1 tw_1_212 ⟨by decide +kernel, by decide +kernel, (by decide +kernel : (parseMethodDescriptor yX2_holds.desc).map (fun d => d.parameters.length) = some 2)⟩ ⟨Nat.le_of_ble_eq_true rfl, Nat.le_of_ble_eq_true rfl⟩ hl.1 rfl (Nat.le_of_ble_eq_true rfl) ⟨Nat.zero_le _, Nat.zero_le _⟩ dX2_bringVote_43) hS (fun r_43 u_43 H locs hq_43 hP hS => ?_)
          have hP := k_su hq_43.2 hP
          refine k_ti (y := bI (mWy u.1 (11 * j_25 + 1 + j_14) j_2)) (hq_43.1.trans (congrArg bI ((tL_wide _ (by omega)).trans ((tI_eI _ (by omega)).trans (by simp only [vB, decide_eq_true (show j_14 < 10 by omega), Bool.true_and]))))) ?_
          refine lv_if_ne (tgt := 52) hx hb dX2_bringVote_46 (by decide) (fun c_46 => ?_) (fun c_46 => ?_)
          · have c_46 : (mWy u.1 (11 * j_25 + 1 + j_14) j_2) = true := (bI_ne0 _).mp c_46
            have hb0 : 0 < j_25 := Nat.pos_of_ne_zero fun h => by
              rw [hw0 _ _ (by omega)] at c_46
              exact absurd c_46 (by decide)
            refine lv_aload_n hx hb dX2_bringVote_52 rfl (lv_at hl 1 rfl) ?_
            refine lv_aload hx hb dX2_bringVote_53 (lv_at hl 0 rfl) ?_
            refine lv_iload_n hx hb dX2_bringVote_55 rfl (lv_at hl 2 rfl) ?_
            refine lv_iload_n hx hb dX2_bringVote_56 rfl (lv_at hl 3 rfl) ?_
            refine k_cv (k_runV (As := [.ref (gL G (11 + 5 * j_2)), .int (nI j_14), .int (nI j_25)]) (rest := []) X hK hP (wC_g G u (k := 0) (by decide)) rfl (m2_letVoteCome l G u hL (hk) (v := j_2) hj_2 (b := j_25) (x := j_14) (by omega) (show j_25 < mT u.1 by omega) (by omega)) ⟨rfl, rfl⟩ tw_2_36 tw_2_38 tw_0_20 tw_1_1 tw_2_39 ⟨by decide +kernel, by decide +kernel, (by decide +kernel : (parseMethodDescriptor yX2_letVoteCome.desc).map (fun d => d.parameters.length) = some 3)⟩ ⟨Nat.le_of_ble_eq_true rfl, Nat.le_of_ble_eq_true rfl⟩ hl.1 rfl (Nat.le_of_ble_eq_true rfl) ⟨Nat.zero_le _, Nat.zero_le _⟩ dX2_bringVote_57) hS (fun u_57 H locs hq_57 hP hS => ?_)
            have hP := k_su hq_57 hP
            have ok_57 : okC G ((cLetV (gn G) u j_2 j_14 j_25)) := ok_letV (hk) (show j_25 < mT u.1 by omega)
            refine lv_iconst (v := nI 1) hx hb dX2_bringVote_60 (by decide) ?_
            exact k_reti X hr hlocks hP hS dX2_bringVote_61 (by simp only [pBringVote, ix_some hj_2 (show gn G < 2 ^ 31 by omega), ix_some hj_14 (show gn G < 2 ^ 31 by omega), ix_some hj_25 (show mT u.1 < 2 ^ 31 by omega)]; rw [if_pos c_46]; rfl)
          · have c_46 : (mWy u.1 (11 * j_25 + 1 + j_14) j_2) = false := (bI_eq0 _).mp c_46
            refine lv_bipush (v := -3) hx hb dX2_bringVote_49 (by decide) ?_
            exact k_reti X hr hlocks hP hS dX2_bringVote_51 (by simp only [pBringVote, ix_some hj_2 (show gn G < 2 ^ 31 by omega), ix_some hj_14 (show gn G < 2 ^ 31 by omega), ix_some hj_25 (show mT u.1 < 2 ^ 31 by omega)]; rw [if_neg (by rw [c_46]; decide)])
        · exact absurd c_28 (by decide)
      · subst hr_25
        refine lv_if_ne (tgt := 34) hx hb dX2_bringVote_28 (by decide) (fun c_28 => ?_) (fun c_28 => ?_)
        · exact absurd rfl c_28
        · refine lv_bipush (v := -2) hx hb dX2_bringVote_31 (by decide) ?_
          exact k_reti X hr hlocks hP hS dX2_bringVote_33 (by simp only [pBringVote, ix_some hj_2 (show gn G < 2 ^ 31 by omega), ix_some hj_14 (show gn G < 2 ^ 31 by omega), ix_none hz_25 (show mT u.1 < 2 ^ 31 by omega)] <;> rfl)
    · subst hr_14
      refine k_qn ?_
      refine lv_ifnullN (tgt := 31) hx hb dX2_bringVote_17 (by decide) ?_
      refine lv_bipush (v := -2) hx hb dX2_bringVote_31 (by decide) ?_
      exact k_reti X hr hlocks hP hS dX2_bringVote_33 (by simp only [pBringVote, ix_some hj_2 (show gn G < 2 ^ 31 by omega), ix_none hz_14 (show gn G < 2 ^ 31 by omega)] <;> rfl)
  · subst hr_2
    refine k_qn ?_
    refine lv_astoreN (lv' := [(4, .null), (0, .ref (gL G 0)), (1, .int (x)), (2, .int (y)), (3, .int (z))]) hx hb dX2_bringVote_5 hl (by decide) rfl (fun ls hl => ?_)
    refine lv_aloadN hx hb dX2_bringVote_7 (lv_at hl 0 rfl) ?_
    refine lv_ifnullN (tgt := 31) hx hb dX2_bringVote_9 (by decide) ?_
    refine lv_bipush (v := -2) hx hb dX2_bringVote_31 (by decide) ?_
    exact k_reti X hr hlocks hP hS dX2_bringVote_33 (by simp only [pBringVote, ix_none hz_2 (show gn G < 2 ^ 31 by omega)] <;> rfl)

set_option maxHeartbeats 4000000 in
set_option maxRecDepth 100000 in
theorem m2_flow (l : Launch) (G : kG) (u : CS) (hL : lay G) (hk : okC G u) (x : Int32) : KMi l G (AC G) (wC G) yX2_flow cX2_flow 3 (Option.some FieldType.int) ({ frames := 6, cells := 0, slots := 0, locals := 143 }) [.ref (gL G 0), .int (x)] u (fun r u' => pFlow (gn G) u x = (r, u')) := by
  refine K_of (by decide) (Nat.le_of_ble_eq_true rfl) ?_
  intro p e s m below meth c X hr hlocks hnm hK hP ls hl
  have hx := X.1
  have hb := X.2.1
  have hown := X.2.2.2.1
  have hts := X.2.2.2.2
  have hS : va_S (AC G) s.heap s.heap [] := va_S.rf
  have hl : lv_has ls 3 [(0, .ref (gL G 0)), (1, .int (x))] := hl
  obtain ⟨kn4, kn10, kT1, kT61, kP40, kLd, kPar, kEp, kHt, kFc, kVf, kTp, kHf⟩ := id hk
  refine lv_aload_n hx hb dX2_flow_0 rfl (lv_at hl 0 rfl) ?_
  refine lv_iload_n hx hb dX2_flow_1 rfl (lv_at hl 1 rfl) ?_
  refine k_cq (k_runV (As := [.int (x)]) (rest := []) X hK hP (wC_g G u (k := 0) (by decide)) rfl (m2_nodeAt l G u hL (hk) x) ⟨rfl, rfl⟩ tw_1_165 tw_1_167 tw_0_0 tw_1_1 tw_1_168 ⟨by decide +kernel, by decide +kernel, (by decide +kernel : (parseMethodDescriptor yX2_nodeAt.desc).map (fun d => d.parameters.length) = some 1)⟩ ⟨Nat.le_of_ble_eq_true rfl, Nat.le_of_ble_eq_true rfl⟩ hl.1 rfl (Nat.le_of_ble_eq_true rfl) ⟨Nat.zero_le _, Nat.zero_le _⟩ dX2_flow_2) hS (fun r_2 u_2 H locs hq_2 hP hS => ?_)
  have hP := k_su hq_2.1 hP
  rcases hq_2.2 with ⟨j_2, hj_2, hx_2, hr_2⟩ | ⟨hz_2, hr_2⟩
  · subst hx_2
    subst hr_2
    refine k_qs ?_
    refine lv_astore_n (lv' := [(2, .ref (gL G (11 + 5 * j_2))), (0, .ref (gL G 0)), (1, .int (nI j_2))]) hx hb dX2_flow_5 rfl hl (by decide) rfl (fun ls hl => ?_)
    refine lv_aload_n hx hb dX2_flow_6 rfl (lv_at hl 0 rfl) ?_
    refine lv_ifnonnull (tgt := 15) hx hb dX2_flow_7 (by decide) ?_
    refine lv_aload_n hx hb dX2_flow_15 rfl (lv_at hl 1 rfl) ?_
    refine lv_aload_n hx hb dX2_flow_16 rfl (lv_at hl 0 rfl) ?_
    refine k_ci (k_runV (As := [.ref (gL G (11 + 5 * j_2))]) (rest := []) X hK hP (wC_g G u (k := 0) (by decide)) rfl (m2_letAllCome l G u hL (hk) (v := j_2) hj_2) ⟨rfl, rfl⟩ tw_2_48 tw_2_50 tw_0_22 tw_1_1 tw_2_51 ⟨by decide +kernel, by decide +kernel, (by decide +kernel : (parseMethodDescriptor yX2_letAllCome.desc).map (fun d => d.parameters.length) = some 1)⟩ ⟨Nat.le_of_ble_eq_true rfl, Nat.le_of_ble_eq_true rfl⟩ hl.1 rfl (Nat.le_of_ble_eq_true rfl) ⟨Nat.zero_le _, Nat.zero_le _⟩ dX2_flow_17) hS (fun r_17 u_17 H locs hq_17 hP hS => ?_)
    have hP := k_su hq_17.2 hP
    refine k_ti hq_17.1 ?_
    have ok_17 : okC G ((cFlow (gn G) u j_2)) := ok_flow (hk) _
    exact k_reti X hr hlocks hP hS dX2_flow_20 (by simp only [pFlow, ix_some hj_2 (show gn G < 2 ^ 31 by omega)] <;> rfl)
  · subst hr_2
    refine k_qn ?_
    refine lv_astore_nN (lv' := [(2, .null), (0, .ref (gL G 0)), (1, .int (x))]) hx hb dX2_flow_5 rfl hl (by decide) rfl (fun ls hl => ?_)
    refine lv_aload_nN hx hb dX2_flow_6 rfl (lv_at hl 0 rfl) ?_
    refine lv_ifnonnullN hx hb dX2_flow_7 ?_
    refine lv_bipush (v := -2) hx hb dX2_flow_10 (by decide) ?_
    refine lv_goto (tgt := 20) hx hb dX2_flow_12 (by decide) ?_
    exact k_reti X hr hlocks hP hS dX2_flow_20 (by simp only [pFlow, ix_none hz_2 (show gn G < 2 ^ 31 by omega)] <;> rfl)
end
