section
-- ===== PART A: goes FIRST, ahead of the names: the tables' words, and 'selects' of the private methods out of them =====
/-- a private method of a class that the tables say can be made, by its rows of tables_1 -/
def lw_okq (q : MethodName × Nat) : Prop := (q.1.cls ≠ "java/lang/invoke/MethodHandle" ∧ q.1.cls ≠ "java/lang/invoke/VarHandle") ∧ Cond.instantiable q.1.cls q.2 ∈ tables_1 ∧ Cond.privateMethod q.1 ∈ tables_1 ∧ Cond.instanceMethod q.1 ∈ tables_1
theorem lw_p0 : lw_okq (⟨"SplitForest", "componentOf", "(I)I"⟩, 4) := ⟨⟨by decide +kernel, by decide +kernel⟩, List.mem_of_getElem? (i := 10) (by decide +kernel), List.mem_of_getElem? (i := 156) (by decide +kernel), List.mem_of_getElem? (i := 157) (by decide +kernel)⟩
theorem lw_p1 : lw_okq (⟨"SplitForest$Graph", "nearToAny", "(II)I"⟩, 2) := ⟨⟨by decide +kernel, by decide +kernel⟩, List.mem_of_getElem? (i := 18) (by decide +kernel), List.mem_of_getElem? (i := 168) (by decide +kernel), List.mem_of_getElem? (i := 169) (by decide +kernel)⟩
theorem lw_p2 : lw_okq (⟨"SplitForest", "treeOf", "(I)LSplitForest$SplitTree;"⟩, 4) := ⟨⟨by decide +kernel, by decide +kernel⟩, List.mem_of_getElem? (i := 10) (by decide +kernel), List.mem_of_getElem? (i := 176) (by decide +kernel), List.mem_of_getElem? (i := 177) (by decide +kernel)⟩
theorem lw_p3 : lw_okq (⟨"SplitForest$SplitTree", "findSplits", "()V"⟩, 10) := ⟨⟨by decide +kernel, by decide +kernel⟩, List.mem_of_getElem? (i := 32) (by decide +kernel), List.mem_of_getElem? (i := 184) (by decide +kernel), List.mem_of_getElem? (i := 185) (by decide +kernel)⟩
theorem lw_p4 : lw_okq (⟨"SplitForest$SplitTree", "isSplit", "(II)Z"⟩, 10) := ⟨⟨by decide +kernel, by decide +kernel⟩, List.mem_of_getElem? (i := 32) (by decide +kernel), List.mem_of_getElem? (i := 188) (by decide +kernel), List.mem_of_getElem? (i := 189) (by decide +kernel)⟩
theorem lw_p5 : lw_okq (⟨"SplitForest$SplitTree", "findNodes", "()V"⟩, 10) := ⟨⟨by decide +kernel, by decide +kernel⟩, List.mem_of_getElem? (i := 32) (by decide +kernel), List.mem_of_getElem? (i := 203) (by decide +kernel), List.mem_of_getElem? (i := 204) (by decide +kernel)⟩
theorem lw_p6 : lw_okq (⟨"SplitForest$SplitTree", "isStrong", "(I)Z"⟩, 10) := ⟨⟨by decide +kernel, by decide +kernel⟩, List.mem_of_getElem? (i := 32) (by decide +kernel), List.mem_of_getElem? (i := 207) (by decide +kernel), List.mem_of_getElem? (i := 208) (by decide +kernel)⟩
theorem lw_p7 : lw_okq (⟨"SplitForest", "hasNode", "(II)Z"⟩, 4) := ⟨⟨by decide +kernel, by decide +kernel⟩, List.mem_of_getElem? (i := 10) (by decide +kernel), List.mem_of_getElem? (i := 227) (by decide +kernel), List.mem_of_getElem? (i := 228) (by decide +kernel)⟩
theorem lw_p8 : lw_okq (⟨"SplitForest$SplitTree", "findJoins", "(I)V"⟩, 10) := ⟨⟨by decide +kernel, by decide +kernel⟩, List.mem_of_getElem? (i := 32) (by decide +kernel), List.mem_of_getElem? (i := 243) (by decide +kernel), List.mem_of_getElem? (i := 244) (by decide +kernel)⟩
theorem lw_p9 : lw_okq (⟨"SplitForest$SplitTree", "findParts", "(I)V"⟩, 10) := ⟨⟨by decide +kernel, by decide +kernel⟩, List.mem_of_getElem? (i := 32) (by decide +kernel), List.mem_of_getElem? (i := 247) (by decide +kernel), List.mem_of_getElem? (i := 248) (by decide +kernel)⟩
theorem lw_p10 : lw_okq (⟨"SplitForest$SplitTree", "partWith", "(II)I"⟩, 10) := ⟨⟨by decide +kernel, by decide +kernel⟩, List.mem_of_getElem? (i := 32) (by decide +kernel), List.mem_of_getElem? (i := 251) (by decide +kernel), List.mem_of_getElem? (i := 252) (by decide +kernel)⟩
theorem lw_p11 : lw_okq (⟨"SplitForest$SplitTree", "addPart", "(I)V"⟩, 10) := ⟨⟨by decide +kernel, by decide +kernel⟩, List.mem_of_getElem? (i := 32) (by decide +kernel), List.mem_of_getElem? (i := 255) (by decide +kernel), List.mem_of_getElem? (i := 256) (by decide +kernel)⟩
theorem lw_p12 : lw_okq (⟨"SplitForest$SplitTree", "centreIndex", "()I"⟩, 10) := ⟨⟨by decide +kernel, by decide +kernel⟩, List.mem_of_getElem? (i := 32) (by decide +kernel), List.mem_of_getElem? (i := 263) (by decide +kernel), List.mem_of_getElem? (i := 264) (by decide +kernel)⟩
theorem lw_p13 : lw_okq (⟨"SplitForest$Elimination", "run", "(I)V"⟩, 4) := ⟨⟨by decide +kernel, by decide +kernel⟩, List.mem_of_getElem? (i := 73) (by decide +kernel), List.mem_of_getElem? (i := 311) (by decide +kernel), List.mem_of_getElem? (i := 312) (by decide +kernel)⟩
theorem lw_p14 : lw_okq (⟨"SplitForest$Elimination", "nextStep", "()I"⟩, 4) := ⟨⟨by decide +kernel, by decide +kernel⟩, List.mem_of_getElem? (i := 73) (by decide +kernel), List.mem_of_getElem? (i := 315) (by decide +kernel), List.mem_of_getElem? (i := 316) (by decide +kernel)⟩
theorem lw_p15 : lw_okq (⟨"SplitForest$Elimination", "stepAt", "(I)I"⟩, 4) := ⟨⟨by decide +kernel, by decide +kernel⟩, List.mem_of_getElem? (i := 73) (by decide +kernel), List.mem_of_getElem? (i := 319) (by decide +kernel), List.mem_of_getElem? (i := 320) (by decide +kernel)⟩
def lw_privs_1 : List (MethodName × Nat) := [(⟨"SplitForest", "componentOf", "(I)I"⟩, 4), (⟨"SplitForest$Graph", "nearToAny", "(II)I"⟩, 2), (⟨"SplitForest", "treeOf", "(I)LSplitForest$SplitTree;"⟩, 4), (⟨"SplitForest$SplitTree", "findSplits", "()V"⟩, 10), (⟨"SplitForest$SplitTree", "isSplit", "(II)Z"⟩, 10), (⟨"SplitForest$SplitTree", "findNodes", "()V"⟩, 10), (⟨"SplitForest$SplitTree", "isStrong", "(I)Z"⟩, 10), (⟨"SplitForest", "hasNode", "(II)Z"⟩, 4), (⟨"SplitForest$SplitTree", "findJoins", "(I)V"⟩, 10), (⟨"SplitForest$SplitTree", "findParts", "(I)V"⟩, 10), (⟨"SplitForest$SplitTree", "partWith", "(II)I"⟩, 10), (⟨"SplitForest$SplitTree", "addPart", "(I)V"⟩, 10), (⟨"SplitForest$SplitTree", "centreIndex", "()I"⟩, 10), (⟨"SplitForest$Elimination", "run", "(I)V"⟩, 4), (⟨"SplitForest$Elimination", "nextStep", "()I"⟩, 4), (⟨"SplitForest$Elimination", "stepAt", "(I)I"⟩, 4)]
theorem lw_r1 : ∀ q ∈ lw_privs_1, lw_okq q := List.forall_mem_cons.mpr ⟨lw_p0, List.forall_mem_cons.mpr ⟨lw_p1, List.forall_mem_cons.mpr ⟨lw_p2, List.forall_mem_cons.mpr ⟨lw_p3, List.forall_mem_cons.mpr ⟨lw_p4, List.forall_mem_cons.mpr ⟨lw_p5, List.forall_mem_cons.mpr ⟨lw_p6, List.forall_mem_cons.mpr ⟨lw_p7, List.forall_mem_cons.mpr ⟨lw_p8, List.forall_mem_cons.mpr ⟨lw_p9, List.forall_mem_cons.mpr ⟨lw_p10, List.forall_mem_cons.mpr ⟨lw_p11, List.forall_mem_cons.mpr ⟨lw_p12, List.forall_mem_cons.mpr ⟨lw_p13, List.forall_mem_cons.mpr ⟨lw_p14, List.forall_mem_cons.mpr ⟨lw_p15, fun _ h => absurd h List.not_mem_nil⟩⟩⟩⟩⟩⟩⟩⟩⟩⟩⟩⟩⟩⟩⟩⟩
theorem lw_p16 : lw_okq (⟨"SplitForest$Choice", "coverWith", "(II)V"⟩, 2) := ⟨⟨by decide +kernel, by decide +kernel⟩, List.mem_of_getElem? (i := 93) (by decide +kernel), List.mem_of_getElem? (i := 383) (by decide +kernel), List.mem_of_getElem? (i := 384) (by decide +kernel)⟩
theorem lw_p17 : lw_okq (⟨"SplitForest$Choice", "fewestWith", "(II)I"⟩, 2) := ⟨⟨by decide +kernel, by decide +kernel⟩, List.mem_of_getElem? (i := 93) (by decide +kernel), List.mem_of_getElem? (i := 387) (by decide +kernel), List.mem_of_getElem? (i := 388) (by decide +kernel)⟩
theorem lw_p18 : lw_okq (⟨"SplitForestModel", "is", "(I)Z"⟩, 12) := ⟨⟨by decide +kernel, by decide +kernel⟩, List.mem_of_getElem? (i := 398) (by decide +kernel), List.mem_of_getElem? (i := 449) (by decide +kernel), List.mem_of_getElem? (i := 450) (by decide +kernel)⟩
theorem lw_p19 : lw_okq (⟨"SplitForestModel", "within", "(II)I"⟩, 12) := ⟨⟨by decide +kernel, by decide +kernel⟩, List.mem_of_getElem? (i := 398) (by decide +kernel), List.mem_of_getElem? (i := 461) (by decide +kernel), List.mem_of_getElem? (i := 462) (by decide +kernel)⟩
theorem lw_p20 : lw_okq (⟨"SplitForestModel", "find", "(I)V"⟩, 12) := ⟨⟨by decide +kernel, by decide +kernel⟩, List.mem_of_getElem? (i := 398) (by decide +kernel), List.mem_of_getElem? (i := 470) (by decide +kernel), List.mem_of_getElem? (i := 471) (by decide +kernel)⟩
theorem lw_p21 : lw_okq (⟨"SplitForestModel", "complete", "(II)Z"⟩, 12) := ⟨⟨by decide +kernel, by decide +kernel⟩, List.mem_of_getElem? (i := 398) (by decide +kernel), List.mem_of_getElem? (i := 480) (by decide +kernel), List.mem_of_getElem? (i := 481) (by decide +kernel)⟩
theorem lw_p22 : lw_okq (⟨"SplitForestModel", "nodeSet", "(II)I"⟩, 12) := ⟨⟨by decide +kernel, by decide +kernel⟩, List.mem_of_getElem? (i := 398) (by decide +kernel), List.mem_of_getElem? (i := 495) (by decide +kernel), List.mem_of_getElem? (i := 496) (by decide +kernel)⟩
theorem lw_p23 : lw_okq (⟨"SplitForestModel", "open", "(II)Z"⟩, 12) := ⟨⟨by decide +kernel, by decide +kernel⟩, List.mem_of_getElem? (i := 398) (by decide +kernel), List.mem_of_getElem? (i := 503) (by decide +kernel), List.mem_of_getElem? (i := 504) (by decide +kernel)⟩
theorem lw_p24 : lw_okq (⟨"SplitForestModel", "isPart", "(IIIZ)Z"⟩, 12) := ⟨⟨by decide +kernel, by decide +kernel⟩, List.mem_of_getElem? (i := 398) (by decide +kernel), List.mem_of_getElem? (i := 507) (by decide +kernel), List.mem_of_getElem? (i := 508) (by decide +kernel)⟩
theorem lw_p25 : lw_okq (⟨"SplitForestModel", "middle", "()I"⟩, 12) := ⟨⟨by decide +kernel, by decide +kernel⟩, List.mem_of_getElem? (i := 398) (by decide +kernel), List.mem_of_getElem? (i := 514) (by decide +kernel), List.mem_of_getElem? (i := 515) (by decide +kernel)⟩
theorem lw_p26 : lw_okq (⟨"SplitForestModel", "links", "(I)I"⟩, 12) := ⟨⟨by decide +kernel, by decide +kernel⟩, List.mem_of_getElem? (i := 398) (by decide +kernel), List.mem_of_getElem? (i := 518) (by decide +kernel), List.mem_of_getElem? (i := 519) (by decide +kernel)⟩
theorem lw_p27 : lw_okq (⟨"SplitForestModel", "joined", "(II)Z"⟩, 12) := ⟨⟨by decide +kernel, by decide +kernel⟩, List.mem_of_getElem? (i := 398) (by decide +kernel), List.mem_of_getElem? (i := 522) (by decide +kernel), List.mem_of_getElem? (i := 523) (by decide +kernel)⟩
theorem lw_p28 : lw_okq (⟨"SplitForestModel", "partOf", "(I)I"⟩, 12) := ⟨⟨by decide +kernel, by decide +kernel⟩, List.mem_of_getElem? (i := 398) (by decide +kernel), List.mem_of_getElem? (i := 542) (by decide +kernel), List.mem_of_getElem? (i := 543) (by decide +kernel)⟩
theorem lw_p29 : lw_okq (⟨"SplitForestModel", "fine", "(I)Z"⟩, 12) := ⟨⟨by decide +kernel, by decide +kernel⟩, List.mem_of_getElem? (i := 398) (by decide +kernel), List.mem_of_getElem? (i := 550) (by decide +kernel), List.mem_of_getElem? (i := 551) (by decide +kernel)⟩
theorem lw_p30 : lw_okq (⟨"SplitForestModel", "eliminate", "(I)V"⟩, 12) := ⟨⟨by decide +kernel, by decide +kernel⟩, List.mem_of_getElem? (i := 398) (by decide +kernel), List.mem_of_getElem? (i := 554) (by decide +kernel), List.mem_of_getElem? (i := 555) (by decide +kernel)⟩
theorem lw_p31 : lw_okq (⟨"SplitForestModel", "way", "(II)I"⟩, 12) := ⟨⟨by decide +kernel, by decide +kernel⟩, List.mem_of_getElem? (i := 398) (by decide +kernel), List.mem_of_getElem? (i := 558) (by decide +kernel), List.mem_of_getElem? (i := 559) (by decide +kernel)⟩
def lw_privs_2 : List (MethodName × Nat) := [(⟨"SplitForest$Choice", "coverWith", "(II)V"⟩, 2), (⟨"SplitForest$Choice", "fewestWith", "(II)I"⟩, 2), (⟨"SplitForestModel", "is", "(I)Z"⟩, 12), (⟨"SplitForestModel", "within", "(II)I"⟩, 12), (⟨"SplitForestModel", "find", "(I)V"⟩, 12), (⟨"SplitForestModel", "complete", "(II)Z"⟩, 12), (⟨"SplitForestModel", "nodeSet", "(II)I"⟩, 12), (⟨"SplitForestModel", "open", "(II)Z"⟩, 12), (⟨"SplitForestModel", "isPart", "(IIIZ)Z"⟩, 12), (⟨"SplitForestModel", "middle", "()I"⟩, 12), (⟨"SplitForestModel", "links", "(I)I"⟩, 12), (⟨"SplitForestModel", "joined", "(II)Z"⟩, 12), (⟨"SplitForestModel", "partOf", "(I)I"⟩, 12), (⟨"SplitForestModel", "fine", "(I)Z"⟩, 12), (⟨"SplitForestModel", "eliminate", "(I)V"⟩, 12), (⟨"SplitForestModel", "way", "(II)I"⟩, 12)]
theorem lw_r2 : ∀ q ∈ lw_privs_2, lw_okq q := List.forall_mem_cons.mpr ⟨lw_p16, List.forall_mem_cons.mpr ⟨lw_p17, List.forall_mem_cons.mpr ⟨lw_p18, List.forall_mem_cons.mpr ⟨lw_p19, List.forall_mem_cons.mpr ⟨lw_p20, List.forall_mem_cons.mpr ⟨lw_p21, List.forall_mem_cons.mpr ⟨lw_p22, List.forall_mem_cons.mpr ⟨lw_p23, List.forall_mem_cons.mpr ⟨lw_p24, List.forall_mem_cons.mpr ⟨lw_p25, List.forall_mem_cons.mpr ⟨lw_p26, List.forall_mem_cons.mpr ⟨lw_p27, List.forall_mem_cons.mpr ⟨lw_p28, List.forall_mem_cons.mpr ⟨lw_p29, List.forall_mem_cons.mpr ⟨lw_p30, List.forall_mem_cons.mpr ⟨lw_p31, fun _ h => absurd h List.not_mem_nil⟩⟩⟩⟩⟩⟩⟩⟩⟩⟩⟩⟩⟩⟩⟩⟩
theorem lw_p32 : lw_okq (⟨"SplitForestModel", "edges", "(I)I"⟩, 12) := ⟨⟨by decide +kernel, by decide +kernel⟩, List.mem_of_getElem? (i := 398) (by decide +kernel), List.mem_of_getElem? (i := 575) (by decide +kernel), List.mem_of_getElem? (i := 576) (by decide +kernel)⟩
theorem lw_p33 : lw_okq (⟨"SplitForestModel", "best", "(IZ)I"⟩, 12) := ⟨⟨by decide +kernel, by decide +kernel⟩, List.mem_of_getElem? (i := 398) (by decide +kernel), List.mem_of_getElem? (i := 584) (by decide +kernel), List.mem_of_getElem? (i := 585) (by decide +kernel)⟩
theorem lw_p34 : lw_okq (⟨"SplitForestModel", "clique", "(I)Z"⟩, 12) := ⟨⟨by decide +kernel, by decide +kernel⟩, List.mem_of_getElem? (i := 398) (by decide +kernel), List.mem_of_getElem? (i := 596) (by decide +kernel), List.mem_of_getElem? (i := 597) (by decide +kernel)⟩
def lw_privs_3 : List (MethodName × Nat) := [(⟨"SplitForestModel", "edges", "(I)I"⟩, 12), (⟨"SplitForestModel", "best", "(IZ)I"⟩, 12), (⟨"SplitForestModel", "clique", "(I)Z"⟩, 12)]
theorem lw_r3 : ∀ q ∈ lw_privs_3, lw_okq q := List.forall_mem_cons.mpr ⟨lw_p32, List.forall_mem_cons.mpr ⟨lw_p33, List.forall_mem_cons.mpr ⟨lw_p34, fun _ h => absurd h List.not_mem_nil⟩⟩⟩
def lw_privs : List (MethodName × Nat) := lw_privs_1 ++ (lw_privs_2 ++ (lw_privs_3))
def lw_tbl : List Cond := k2_sels lw_privs ++ tables_1
theorem lw_privs_ok : ∀ q ∈ lw_privs, lw_okq q := by
  show ∀ q ∈ lw_privs_1 ++ (lw_privs_2 ++ (lw_privs_3)), lw_okq q
  exact List.forall_mem_append.mpr ⟨lw_r1, List.forall_mem_append.mpr ⟨lw_r2, lw_r3⟩⟩
end
section
/-! names: classes, fields, methods (by program out of the Statement and the listing) -/
def RXC : String := "SplitForest$Choice"
def TXC : u_T := fun k => match k with
  | 0 => ("SplitForest$Choice", "graph", "LSplitForest$Graph;", true)
  | _ => ("SplitForest$Choice", "fewest", "[I", true)
def tyXC : Nat → FieldType := fun k => match k with
  | 0 => .object "SplitForest$Graph"
  | _ => .array .int
abbrev wsXC0 : List Cond := u_ws RXC TXC 2
theorem nXC : ∀ a, a < 2 → ∀ b, b < 2 → a ≠ b → (TXC a).2.1 ≠ (TXC b).2.1 := by decide +kernel
theorem tyXC_ok : ∀ k, k < 2 → parseFieldDescriptor (TXC k).2.2.1 = some (tyXC k) := by decide +kernel
def RXE : String := "SplitForest$Elimination"
def TXE : u_T := fun k => match k with
  | 0 => ("SplitForest$Elimination", "graph", "LSplitForest$Graph;", true)
  | 1 => ("SplitForest$Elimination", "steps", "[I", true)
  | 2 => ("SplitForest$Elimination", "stepCount", "I", false)
  | _ => ("SplitForest$Elimination", "left", "I", false)
def tyXE : Nat → FieldType := fun k => match k with
  | 0 => .object "SplitForest$Graph"
  | 1 => .array .int
  | 2 => .int
  | _ => .int
abbrev wsXE0 : List Cond := u_ws RXE TXE 4
theorem nXE : ∀ a, a < 4 → ∀ b, b < 4 → a ≠ b → (TXE a).2.1 ≠ (TXE b).2.1 := by decide +kernel
theorem tyXE_ok : ∀ k, k < 4 → parseFieldDescriptor (TXE k).2.2.1 = some (tyXE k) := by decide +kernel
def RXG : String := "SplitForest$Graph"
def TXG : u_T := fun k => match k with
  | 0 => ("SplitForest$Graph", "size", "I", true)
  | _ => ("SplitForest$Graph", "near", "[I", true)
def tyXG : Nat → FieldType := fun k => match k with
  | 0 => .int
  | _ => .array .int
abbrev wsXG0 : List Cond := u_ws RXG TXG 2
theorem nXG : ∀ a, a < 2 → ∀ b, b < 2 → a ≠ b → (TXG a).2.1 ≠ (TXG b).2.1 := by decide +kernel
theorem tyXG_ok : ∀ k, k < 2 → parseFieldDescriptor (TXG k).2.2.1 = some (tyXG k) := by decide +kernel
def RXT : String := "SplitForest$SplitTree"
def TXT : u_T := fun k => match k with
  | 0 => ("SplitForest$SplitTree", "graph", "LSplitForest$Graph;", true)
  | 1 => ("SplitForest$SplitTree", "splitSets", "[I", true)
  | 2 => ("SplitForest$SplitTree", "splitCount", "I", false)
  | 3 => ("SplitForest$SplitTree", "nodeSets", "[I", true)
  | 4 => ("SplitForest$SplitTree", "nodeCount", "I", false)
  | 5 => ("SplitForest$SplitTree", "partSets", "[I", true)
  | 6 => ("SplitForest$SplitTree", "degrees", "[I", true)
  | 7 => ("SplitForest$SplitTree", "partCount", "I", false)
  | 8 => ("SplitForest$SplitTree", "pairsJoined", "I", false)
  | _ => ("SplitForest$SplitTree", "whole", "I", false)
def tyXT : Nat → FieldType := fun k => match k with
  | 0 => .object "SplitForest$Graph"
  | 1 => .array .int
  | 2 => .int
  | 3 => .array .int
  | 4 => .int
  | 5 => .array .int
  | 6 => .array .int
  | 7 => .int
  | 8 => .int
  | _ => .int
abbrev wsXT0 : List Cond := u_ws RXT TXT 10
theorem nXT : ∀ a, a < 10 → ∀ b, b < 10 → a ≠ b → (TXT a).2.1 ≠ (TXT b).2.1 := by decide +kernel
theorem tyXT_ok : ∀ k, k < 10 → parseFieldDescriptor (TXT k).2.2.1 = some (tyXT k) := by decide +kernel
def RXF : String := "SplitForest"
def TXF : u_T := fun k => match k with
  | 0 => ("SplitForest", "graph", "LSplitForest$Graph;", true)
  | 1 => ("SplitForest", "tree", "LSplitForest$SplitTree;", true)
  | 2 => ("SplitForest", "elimination", "LSplitForest$Elimination;", true)
  | _ => ("SplitForest", "choice", "LSplitForest$Choice;", true)
def tyXF : Nat → FieldType := fun k => match k with
  | 0 => .object "SplitForest$Graph"
  | 1 => .object "SplitForest$SplitTree"
  | 2 => .object "SplitForest$Elimination"
  | _ => .object "SplitForest$Choice"
abbrev wsXF0 : List Cond := u_ws RXF TXF 4
theorem nXF : ∀ a, a < 4 → ∀ b, b < 4 → a ≠ b → (TXF a).2.1 ≠ (TXF b).2.1 := by decide +kernel
theorem tyXF_ok : ∀ k, k < 4 → parseFieldDescriptor (TXF k).2.2.1 = some (tyXF k) := by decide +kernel
def RXM : String := "SplitForestModel"
def TXM : u_T := fun k => match k with
  | 0 => ("SplitForestModel", "n", "I", true)
  | 1 => ("SplitForestModel", "near", "[I", true)
  | 2 => ("SplitForestModel", "splits", "I", false)
  | 3 => ("SplitForestModel", "split", "[I", true)
  | 4 => ("SplitForestModel", "strongs", "I", false)
  | 5 => ("SplitForestModel", "strong", "[I", true)
  | 6 => ("SplitForestModel", "parts", "I", false)
  | 7 => ("SplitForestModel", "part", "[I", true)
  | 8 => ("SplitForestModel", "steps", "I", false)
  | 9 => ("SplitForestModel", "step", "[I", true)
  | 10 => ("SplitForestModel", "whole", "Z", false)
  | _ => ("SplitForestModel", "covers", "[I", true)
def tyXM : Nat → FieldType := fun k => match k with
  | 0 => .int
  | 1 => .array .int
  | 2 => .int
  | 3 => .array .int
  | 4 => .int
  | 5 => .array .int
  | 6 => .int
  | 7 => .array .int
  | 8 => .int
  | 9 => .array .int
  | 10 => .boolean
  | _ => .array .int
abbrev wsXM0 : List Cond := u_ws RXM TXM 12
theorem nXM : ∀ a, a < 12 → ∀ b, b < 12 → a ≠ b → (TXM a).2.1 ≠ (TXM b).2.1 := by decide +kernel
theorem tyXM_ok : ∀ k, k < 12 → parseFieldDescriptor (TXM k).2.2.1 = some (tyXM k) := by decide +kernel
def RXJ : String := "java/lang/Integer"
def RXL : String := "SplitForestLaw"
abbrev cXF_init : ByteArray := prog_1_method_1_code
def yXF_init : MethodName := ⟨RXF, "<init>", "(I)V"⟩
abbrev cXG_init : ByteArray := prog_4_method_1_code
def yXG_init : MethodName := ⟨RXG, "<init>", "(I)V"⟩
abbrev cXT_init : ByteArray := prog_5_method_1_code
def yXT_init : MethodName := ⟨RXT, "<init>", "(LSplitForest$Graph;)V"⟩
abbrev cXG_size : ByteArray := prog_4_method_2_code
def yXG_size : MethodName := ⟨RXG, "size", "()I"⟩
abbrev cXE_init : ByteArray := prog_3_method_1_code
def yXE_init : MethodName := ⟨RXE, "<init>", "(LSplitForest$Graph;)V"⟩
abbrev cXC_init : ByteArray := prog_2_method_1_code
def yXC_init : MethodName := ⟨RXC, "<init>", "(LSplitForest$Graph;)V"⟩
abbrev cXF_vertices : ByteArray := prog_1_method_2_code
def yXF_vertices : MethodName := ⟨RXF, "vertices", "()I"⟩
abbrev cXF_flip : ByteArray := prog_1_method_3_code
def yXF_flip : MethodName := ⟨RXF, "flip", "(II)Z"⟩
abbrev cXG_has : ByteArray := prog_4_method_4_code
def yXG_has : MethodName := ⟨RXG, "has", "(I)Z"⟩
abbrev cXG_toggle : ByteArray := prog_4_method_6_code
def yXG_toggle : MethodName := ⟨RXG, "toggle", "(II)V"⟩
abbrev cXT_forget : ByteArray := prog_5_method_2_code
def yXT_forget : MethodName := ⟨RXT, "forget", "()V"⟩
abbrev cXG_edge : ByteArray := prog_4_method_5_code
def yXG_edge : MethodName := ⟨RXG, "edge", "(II)Z"⟩
abbrev cXF_contains : ByteArray := prog_1_method_25_code
def yXF_contains : MethodName := ⟨RXF, "contains", "(II)Z"⟩
abbrev cXF_neighbours : ByteArray := prog_1_method_4_code
def yXF_neighbours : MethodName := ⟨RXF, "neighbours", "(II)Z"⟩
abbrev cXF_component : ByteArray := prog_1_method_5_code
def yXF_component : MethodName := ⟨RXF, "component", "(I)I"⟩
abbrev cXF_componentOf : ByteArray := prog_1_method_21_code
def yXF_componentOf : MethodName := ⟨RXF, "componentOf", "(I)I"⟩
abbrev cXG_all : ByteArray := prog_4_method_3_code
def yXG_all : MethodName := ⟨RXG, "all", "()I"⟩
abbrev cXG_reached : ByteArray := prog_4_method_9_code
def yXG_reached : MethodName := ⟨RXG, "reached", "(II)I"⟩
abbrev cXG_nearToAny : ByteArray := prog_4_method_12_code
def yXG_nearToAny : MethodName := ⟨RXG, "nearToAny", "(II)I"⟩
abbrev cXF_splits : ByteArray := prog_1_method_6_code
def yXF_splits : MethodName := ⟨RXF, "splits", "(I)I"⟩
abbrev cXF_treeOf : ByteArray := prog_1_method_22_code
def yXF_treeOf : MethodName := ⟨RXF, "treeOf", "(I)LSplitForest$SplitTree;"⟩
abbrev cXT_growFor : ByteArray := prog_5_method_3_code
def yXT_growFor : MethodName := ⟨RXT, "growFor", "(I)V"⟩
abbrev cXT_findSplits : ByteArray := prog_5_method_12_code
def yXT_findSplits : MethodName := ⟨RXT, "findSplits", "()V"⟩
abbrev cXT_isSplit : ByteArray := prog_5_method_13_code
def yXT_isSplit : MethodName := ⟨RXT, "isSplit", "(II)Z"⟩
abbrev cXJ_bitCount : ByteArray := prog_8_method_49_code
def yXJ_bitCount : MethodName := ⟨RXJ, "bitCount", "(I)I"⟩
abbrev cXG_nearInside : ByteArray := prog_4_method_7_code
def yXG_nearInside : MethodName := ⟨RXG, "nearInside", "(II)I"⟩
abbrev cXT_findNodes : ByteArray := prog_5_method_14_code
def yXT_findNodes : MethodName := ⟨RXT, "findNodes", "()V"⟩
abbrev cXT_isStrong : ByteArray := prog_5_method_15_code
def yXT_isStrong : MethodName := ⟨RXT, "isStrong", "(I)Z"⟩
abbrev cXT_splitCount : ByteArray := prog_5_method_4_code
def yXT_splitCount : MethodName := ⟨RXT, "splitCount", "()I"⟩
abbrev cXF_strong : ByteArray := prog_1_method_7_code
def yXF_strong : MethodName := ⟨RXF, "strong", "(I)I"⟩
abbrev cXT_nodeCount : ByteArray := prog_5_method_5_code
def yXT_nodeCount : MethodName := ⟨RXT, "nodeCount", "()I"⟩
abbrev cXF_set : ByteArray := prog_1_method_8_code
def yXF_set : MethodName := ⟨RXF, "set", "(II)I"⟩
abbrev cXF_hasNode : ByteArray := prog_1_method_23_code
def yXF_hasNode : MethodName := ⟨RXF, "hasNode", "(II)Z"⟩
abbrev cXT_nodeSet : ByteArray := prog_5_method_6_code
def yXT_nodeSet : MethodName := ⟨RXT, "nodeSet", "(I)I"⟩
abbrev cXF_kind : ByteArray := prog_1_method_9_code
def yXF_kind : MethodName := ⟨RXF, "kind", "(II)I"⟩
abbrev cXT_nodeKind : ByteArray := prog_5_method_9_code
def yXT_nodeKind : MethodName := ⟨RXT, "nodeKind", "(I)I"⟩
abbrev cXT_findJoins : ByteArray := prog_5_method_19_code
def yXT_findJoins : MethodName := ⟨RXT, "findJoins", "(I)V"⟩
abbrev cXT_findParts : ByteArray := prog_5_method_17_code
def yXT_findParts : MethodName := ⟨RXT, "findParts", "(I)V"⟩
abbrev cXT_partWith : ByteArray := prog_5_method_16_code
def yXT_partWith : MethodName := ⟨RXT, "partWith", "(II)I"⟩
abbrev cXT_addPart : ByteArray := prog_5_method_18_code
def yXT_addPart : MethodName := ⟨RXT, "addPart", "(I)V"⟩
abbrev cXG_joined : ByteArray := prog_4_method_10_code
def yXG_joined : MethodName := ⟨RXG, "joined", "(II)Z"⟩
abbrev cXT_centreIndex : ByteArray := prog_5_method_20_code
def yXT_centreIndex : MethodName := ⟨RXT, "centreIndex", "()I"⟩
abbrev cXF_parts : ByteArray := prog_1_method_10_code
def yXF_parts : MethodName := ⟨RXF, "parts", "(II)I"⟩
abbrev cXT_partCount : ByteArray := prog_5_method_7_code
def yXT_partCount : MethodName := ⟨RXT, "partCount", "(I)I"⟩
abbrev cXF_part : ByteArray := prog_1_method_11_code
def yXF_part : MethodName := ⟨RXF, "part", "(III)I"⟩
abbrev cXT_partSet : ByteArray := prog_5_method_8_code
def yXT_partSet : MethodName := ⟨RXT, "partSet", "(II)I"⟩
abbrev cXF_centre : ByteArray := prog_1_method_12_code
def yXF_centre : MethodName := ⟨RXF, "centre", "(II)I"⟩
abbrev cXT_centreSet : ByteArray := prog_5_method_10_code
def yXT_centreSet : MethodName := ⟨RXT, "centreSet", "(I)I"⟩
abbrev cXF_linked : ByteArray := prog_1_method_13_code
def yXF_linked : MethodName := ⟨RXF, "linked", "(II)Z"⟩
abbrev cXT_links : ByteArray := prog_5_method_11_code
def yXT_links : MethodName := ⟨RXT, "links", "(II)Z"⟩
abbrev cXF_hereditary : ByteArray := prog_1_method_14_code
def yXF_hereditary : MethodName := ⟨RXF, "hereditary", "(I)Z"⟩
abbrev cXE_clears : ByteArray := prog_3_method_3_code
def yXE_clears : MethodName := ⟨RXE, "clears", "(I)Z"⟩
abbrev cXE_run : ByteArray := prog_3_method_5_code
def yXE_run : MethodName := ⟨RXE, "run", "(I)V"⟩
abbrev cXE_nextStep : ByteArray := prog_3_method_6_code
def yXE_nextStep : MethodName := ⟨RXE, "nextStep", "()I"⟩
abbrev cXE_stepAt : ByteArray := prog_3_method_7_code
def yXE_stepAt : MethodName := ⟨RXE, "stepAt", "(I)I"⟩
abbrev cXG_areTwins : ByteArray := prog_4_method_8_code
def yXG_areTwins : MethodName := ⟨RXG, "areTwins", "(III)Z"⟩
abbrev cXF_step : ByteArray := prog_1_method_15_code
def yXF_step : MethodName := ⟨RXF, "step", "(II)I"⟩
abbrev cXE_stepOf : ByteArray := prog_3_method_2_code
def yXE_stepOf : MethodName := ⟨RXE, "stepOf", "(II)I"⟩
abbrev cXF_obstruction : ByteArray := prog_1_method_16_code
def yXF_obstruction : MethodName := ⟨RXF, "obstruction", "(I)I"⟩
abbrev cXE_obstructionIn : ByteArray := prog_3_method_4_code
def yXE_obstructionIn : MethodName := ⟨RXE, "obstructionIn", "(I)I"⟩
abbrev cXF_obstacle : ByteArray := prog_1_method_17_code
def yXF_obstacle : MethodName := ⟨RXF, "obstacle", "(I)I"⟩
abbrev cXG_edgesInside : ByteArray := prog_4_method_11_code
def yXG_edgesInside : MethodName := ⟨RXG, "edgesInside", "(I)I"⟩
abbrev cXF_obstacleKind : ByteArray := prog_1_method_24_code
def yXF_obstacleKind : MethodName := ⟨RXF, "obstacleKind", "(II)I"⟩
abbrev cXF_apart : ByteArray := prog_1_method_18_code
def yXF_apart : MethodName := ⟨RXF, "apart", "(I)I"⟩
abbrev cXC_largestApart : ByteArray := prog_2_method_2_code
def yXC_largestApart : MethodName := ⟨RXC, "largestApart", "(I)I"⟩
abbrev cXF_chosen : ByteArray := prog_1_method_19_code
def yXF_chosen : MethodName := ⟨RXF, "chosen", "(I)I"⟩
abbrev cXF_cover : ByteArray := prog_1_method_20_code
def yXF_cover : MethodName := ⟨RXF, "cover", "(I)I"⟩
abbrev cXC_fewestCliques : ByteArray := prog_2_method_3_code
def yXC_fewestCliques : MethodName := ⟨RXC, "fewestCliques", "(I)I"⟩
abbrev cXC_coverWith : ByteArray := prog_2_method_4_code
def yXC_coverWith : MethodName := ⟨RXC, "coverWith", "(II)V"⟩
abbrev cXC_fewestWith : ByteArray := prog_2_method_5_code
def yXC_fewestWith : MethodName := ⟨RXC, "fewestWith", "(II)I"⟩
abbrev cXL_cell : ByteArray := method_2_code
def yXL_cell : MethodName := ⟨RXL, "cell", "([II)I"⟩
abbrev cXM_init : ByteArray := prog_7_method_1_code
def yXM_init : MethodName := ⟨RXM, "<init>", "(I)V"⟩
abbrev cXM_vertices : ByteArray := prog_7_method_2_code
def yXM_vertices : MethodName := ⟨RXM, "vertices", "()I"⟩
abbrev cXM_flip : ByteArray := prog_7_method_6_code
def yXM_flip : MethodName := ⟨RXM, "flip", "(II)Z"⟩
abbrev cXM_is : ByteArray := prog_7_method_3_code
def yXM_is : MethodName := ⟨RXM, "is", "(I)Z"⟩
abbrev cXM_neighbours : ByteArray := prog_7_method_7_code
def yXM_neighbours : MethodName := ⟨RXM, "neighbours", "(II)Z"⟩
abbrev cXM_component : ByteArray := prog_7_method_9_code
def yXM_component : MethodName := ⟨RXM, "component", "(I)I"⟩
abbrev cXM_within : ByteArray := prog_7_method_8_code
def yXM_within : MethodName := ⟨RXM, "within", "(II)I"⟩
abbrev cXM_splits : ByteArray := prog_7_method_13_code
def yXM_splits : MethodName := ⟨RXM, "splits", "(I)I"⟩
abbrev cXM_find : ByteArray := prog_7_method_12_code
def yXM_find : MethodName := ⟨RXM, "find", "(I)V"⟩
abbrev cXM_least : ByteArray := prog_7_method_5_code
def yXM_least : MethodName := ⟨RXM, "least", "(I)I"⟩
abbrev cXM_size : ByteArray := prog_7_method_4_code
def yXM_size : MethodName := ⟨RXM, "size", "(I)I"⟩
abbrev cXM_complete : ByteArray := prog_7_method_10_code
def yXM_complete : MethodName := ⟨RXM, "complete", "(II)Z"⟩
abbrev cXM_cross : ByteArray := prog_7_method_11_code
def yXM_cross : MethodName := ⟨RXM, "cross", "(II)Z"⟩
abbrev cXM_strong : ByteArray := prog_7_method_14_code
def yXM_strong : MethodName := ⟨RXM, "strong", "(I)I"⟩
abbrev cXM_set : ByteArray := prog_7_method_16_code
def yXM_set : MethodName := ⟨RXM, "set", "(II)I"⟩
abbrev cXM_nodeSet : ByteArray := prog_7_method_15_code
def yXM_nodeSet : MethodName := ⟨RXM, "nodeSet", "(II)I"⟩
abbrev cXM_kind : ByteArray := prog_7_method_23_code
def yXM_kind : MethodName := ⟨RXM, "kind", "(II)I"⟩
abbrev cXM_open : ByteArray := prog_7_method_19_code
def yXM_open : MethodName := ⟨RXM, "open", "(II)Z"⟩
abbrev cXM_isPart : ByteArray := prog_7_method_18_code
def yXM_isPart : MethodName := ⟨RXM, "isPart", "(IIIZ)Z"⟩
abbrev cXM_inside : ByteArray := prog_7_method_17_code
def yXM_inside : MethodName := ⟨RXM, "inside", "(II)Z"⟩
abbrev cXM_middle : ByteArray := prog_7_method_22_code
def yXM_middle : MethodName := ⟨RXM, "middle", "()I"⟩
abbrev cXM_links : ByteArray := prog_7_method_21_code
def yXM_links : MethodName := ⟨RXM, "links", "(I)I"⟩
abbrev cXM_joined : ByteArray := prog_7_method_20_code
def yXM_joined : MethodName := ⟨RXM, "joined", "(II)Z"⟩
abbrev cXM_parts : ByteArray := prog_7_method_24_code
def yXM_parts : MethodName := ⟨RXM, "parts", "(II)I"⟩
abbrev cXM_part : ByteArray := prog_7_method_25_code
def yXM_part : MethodName := ⟨RXM, "part", "(III)I"⟩
abbrev cXM_centre : ByteArray := prog_7_method_26_code
def yXM_centre : MethodName := ⟨RXM, "centre", "(II)I"⟩
abbrev cXM_linked : ByteArray := prog_7_method_28_code
def yXM_linked : MethodName := ⟨RXM, "linked", "(II)Z"⟩
abbrev cXM_partOf : ByteArray := prog_7_method_27_code
def yXM_partOf : MethodName := ⟨RXM, "partOf", "(I)I"⟩
abbrev cXM_hereditary : ByteArray := prog_7_method_32_code
def yXM_hereditary : MethodName := ⟨RXM, "hereditary", "(I)Z"⟩
abbrev cXM_fine : ByteArray := prog_7_method_31_code
def yXM_fine : MethodName := ⟨RXM, "fine", "(I)Z"⟩
abbrev cXM_eliminate : ByteArray := prog_7_method_30_code
def yXM_eliminate : MethodName := ⟨RXM, "eliminate", "(I)V"⟩
abbrev cXM_way : ByteArray := prog_7_method_29_code
def yXM_way : MethodName := ⟨RXM, "way", "(II)I"⟩
abbrev cXM_step : ByteArray := prog_7_method_33_code
def yXM_step : MethodName := ⟨RXM, "step", "(II)I"⟩
abbrev cXM_obstruction : ByteArray := prog_7_method_34_code
def yXM_obstruction : MethodName := ⟨RXM, "obstruction", "(I)I"⟩
abbrev cXM_obstacle : ByteArray := prog_7_method_36_code
def yXM_obstacle : MethodName := ⟨RXM, "obstacle", "(I)I"⟩
abbrev cXM_edges : ByteArray := prog_7_method_35_code
def yXM_edges : MethodName := ⟨RXM, "edges", "(I)I"⟩
abbrev cXM_apart : ByteArray := prog_7_method_38_code
def yXM_apart : MethodName := ⟨RXM, "apart", "(I)I"⟩
abbrev cXM_best : ByteArray := prog_7_method_37_code
def yXM_best : MethodName := ⟨RXM, "best", "(IZ)I"⟩
abbrev cXM_chosen : ByteArray := prog_7_method_39_code
def yXM_chosen : MethodName := ⟨RXM, "chosen", "(I)I"⟩
abbrev cXM_cover : ByteArray := prog_7_method_41_code
def yXM_cover : MethodName := ⟨RXM, "cover", "(I)I"⟩
abbrev cXM_clique : ByteArray := prog_7_method_40_code
def yXM_clique : MethodName := ⟨RXM, "clique", "(I)Z"⟩
abbrev vwCl : List vw_C := [(RXC, TXC, 2), (RXE, TXE, 4), (RXG, TXG, 2), (RXT, TXT, 10), (RXF, TXF, 4), (RXM, TXM, 12)]
end
section
/-! the words of the tables that the methods use -/
def W0 : List Cond := [.selects RXF yXF_componentOf yXF_componentOf,
  .selects RXG yXG_nearToAny yXG_nearToAny,
  .selects RXF yXF_treeOf yXF_treeOf,
  .selects RXT yXT_findSplits yXT_findSplits,
  .selects RXT yXT_isSplit yXT_isSplit,
  .selects RXT yXT_findNodes yXT_findNodes,
  .selects RXT yXT_isStrong yXT_isStrong,
  .selects RXF yXF_hasNode yXF_hasNode,
  .selects RXT yXT_findJoins yXT_findJoins,
  .selects RXT yXT_findParts yXT_findParts,
  .selects RXT yXT_partWith yXT_partWith,
  .selects RXT yXT_addPart yXT_addPart,
  .selects RXT yXT_centreIndex yXT_centreIndex,
  .selects RXE yXE_run yXE_run,
  .selects RXE yXE_nextStep yXE_nextStep,
  .selects RXE yXE_stepAt yXE_stepAt,
  .selects RXC yXC_coverWith yXC_coverWith,
  .selects RXC yXC_fewestWith yXC_fewestWith,
  .selects RXM yXM_is yXM_is,
  .selects RXM yXM_within yXM_within,
  .selects RXM yXM_find yXM_find,
  .selects RXM yXM_complete yXM_complete,
  .selects RXM yXM_nodeSet yXM_nodeSet,
  .selects RXM yXM_open yXM_open,
  .selects RXM yXM_isPart yXM_isPart,
  .selects RXM yXM_middle yXM_middle,
  .selects RXM yXM_links yXM_links,
  .selects RXM yXM_joined yXM_joined,
  .selects RXM yXM_partOf yXM_partOf,
  .selects RXM yXM_fine yXM_fine,
  .selects RXM yXM_eliminate yXM_eliminate,
  .selects RXM yXM_way yXM_way,
  .selects RXM yXM_edges yXM_edges,
  .selects RXM yXM_best yXM_best,
  .selects RXM yXM_clique yXM_clique,
  .initialized RXL,
  .initialized RXF,
  .initialized RXG,
  .initialized RXT,
  .initialized RXE,
  .initialized RXC,
  .initialized RXM,
  .initialized RXJ,
  .initialized "java/lang/Math",
  .classLink RXL 7 RXF,
  .instantiable RXF 4,
  .methodLink RXL 15 yXF_init,
  .instanceMethod yXF_init,
  .code yXF_init cXF_init 2 none,
  .methodLink RXF 1 objectInit,
  .instanceMethod objectInit,
  .code objectInit ⟨#[0xb1]⟩ 1 none,
  .classLink RXF 7 RXG,
  .instantiable RXG 2,
  .methodLink RXF 11 yXG_init,
  .instanceMethod yXG_init,
  .code yXG_init cXG_init 2 none,
  .methodLink RXG 1 objectInit,
  .fieldLink RXG 7 "SplitForest$Graph" "size" "I",
  .fieldLink RXG 13 "SplitForest$Graph" "near" "[I",
  .laysFinal RXG "SplitForest$Graph" "size" "I",
  .laysFinal RXG "SplitForest$Graph" "near" "[I",
  .arrayClass .int,
  .classLink RXF 18 RXT,
  .instantiable RXT 10,
  .methodLink RXF 20 yXT_init,
  .instanceMethod yXT_init,
  .code yXT_init cXT_init 2 none,
  .methodLink RXT 3 objectInit,
  .methodLink RXT 15 yXG_size,
  .instanceMethod yXG_size,
  .selects RXG yXG_size yXG_size,
  .code yXG_size cXG_size 1 (some .int),
  .fieldLink RXT 9 "SplitForest$SplitTree" "graph" "LSplitForest$Graph;",
  .fieldLink RXT 21 "SplitForest$SplitTree" "splitSets" "[I",
  .fieldLink RXT 44 "SplitForest$SplitTree" "splitCount" "I",
  .fieldLink RXT 25 "SplitForest$SplitTree" "nodeSets" "[I",
  .fieldLink RXT 47 "SplitForest$SplitTree" "nodeCount" "I",
  .fieldLink RXT 28 "SplitForest$SplitTree" "partSets" "[I",
  .fieldLink RXT 31 "SplitForest$SplitTree" "degrees" "[I",
  .fieldLink RXT 54 "SplitForest$SplitTree" "partCount" "I",
  .fieldLink RXT 60 "SplitForest$SplitTree" "pairsJoined" "I",
  .fieldLink RXT 34 "SplitForest$SplitTree" "whole" "I",
  .laysFinal RXT "SplitForest$SplitTree" "graph" "LSplitForest$Graph;",
  .laysFinal RXT "SplitForest$SplitTree" "splitSets" "[I",
  .lays RXT "SplitForest$SplitTree" "splitCount" "I",
  .laysFinal RXT "SplitForest$SplitTree" "nodeSets" "[I",
  .lays RXT "SplitForest$SplitTree" "nodeCount" "I",
  .laysFinal RXT "SplitForest$SplitTree" "partSets" "[I",
  .laysFinal RXT "SplitForest$SplitTree" "degrees" "[I",
  .lays RXT "SplitForest$SplitTree" "partCount" "I",
  .lays RXT "SplitForest$SplitTree" "pairsJoined" "I",
  .lays RXT "SplitForest$SplitTree" "whole" "I",
  .classLink RXF 27 RXE,
  .instantiable RXE 4,
  .methodLink RXF 29 yXE_init,
  .instanceMethod yXE_init,
  .code yXE_init cXE_init 2 none,
  .methodLink RXE 3 objectInit,
  .methodLink RXE 15 yXG_size,
  .fieldLink RXE 9 "SplitForest$Elimination" "graph" "LSplitForest$Graph;",
  .fieldLink RXE 21 "SplitForest$Elimination" "steps" "[I",
  .fieldLink RXE 29 "SplitForest$Elimination" "stepCount" "I",
  .fieldLink RXE 41 "SplitForest$Elimination" "left" "I",
  .laysFinal RXE "SplitForest$Elimination" "graph" "LSplitForest$Graph;",
  .laysFinal RXE "SplitForest$Elimination" "steps" "[I",
  .lays RXE "SplitForest$Elimination" "stepCount" "I",
  .lays RXE "SplitForest$Elimination" "left" "I",
  .classLink RXF 34 RXC,
  .instantiable RXC 2,
  .methodLink RXF 36 yXC_init,
  .instanceMethod yXC_init,
  .code yXC_init cXC_init 2 none,
  .methodLink RXC 1 objectInit,
  .methodLink RXC 13 yXG_size,
  .fieldLink RXC 7 "SplitForest$Choice" "graph" "LSplitForest$Graph;",
  .fieldLink RXC 19 "SplitForest$Choice" "fewest" "[I",
  .laysFinal RXC "SplitForest$Choice" "graph" "LSplitForest$Graph;",
  .laysFinal RXC "SplitForest$Choice" "fewest" "[I",
  .fieldLink RXF 14 "SplitForest" "graph" "LSplitForest$Graph;",
  .fieldLink RXF 23 "SplitForest" "tree" "LSplitForest$SplitTree;",
  .fieldLink RXF 30 "SplitForest" "elimination" "LSplitForest$Elimination;",
  .fieldLink RXF 37 "SplitForest" "choice" "LSplitForest$Choice;",
  .laysFinal RXF "SplitForest" "graph" "LSplitForest$Graph;",
  .laysFinal RXF "SplitForest" "tree" "LSplitForest$SplitTree;",
  .laysFinal RXF "SplitForest" "elimination" "LSplitForest$Elimination;",
  .laysFinal RXF "SplitForest" "choice" "LSplitForest$Choice;",
  .methodLink RXL 21 yXF_vertices,
  .instanceMethod yXF_vertices,
  .selects RXF yXF_vertices yXF_vertices,
  .code yXF_vertices cXF_vertices 1 (some .int),
  .methodLink RXF 41 yXG_size,
  .methodLink RXL 26 yXF_flip,
  .instanceMethod yXF_flip,
  .selects RXF yXF_flip yXF_flip,
  .code yXF_flip cXF_flip 3 (some .boolean),
  .methodLink RXF 45 yXG_has,
  .instanceMethod yXG_has,
  .selects RXG yXG_has yXG_has,
  .code yXG_has cXG_has 2 (some .boolean),
  .methodLink RXF 49 yXG_toggle,
  .instanceMethod yXG_toggle,
  .selects RXG yXG_toggle yXG_toggle,
  .code yXG_toggle cXG_toggle 3 none,
  .methodLink RXF 53 yXT_forget,
  .instanceMethod yXT_forget,
  .selects RXT yXT_forget yXT_forget,
  .code yXT_forget cXT_forget 1 none,
  .methodLink RXF 56 yXG_edge,
  .instanceMethod yXG_edge,
  .selects RXG yXG_edge yXG_edge,
  .code yXG_edge cXG_edge 3 (some .boolean),
  .static yXF_contains,
  .code yXF_contains cXF_contains 2 (some .boolean),
  .methodLink RXL 31 yXF_neighbours,
  .instanceMethod yXF_neighbours,
  .selects RXF yXF_neighbours yXF_neighbours,
  .code yXF_neighbours cXF_neighbours 3 (some .boolean),
  .methodLink RXL 35 yXF_component,
  .instanceMethod yXF_component,
  .selects RXF yXF_component yXF_component,
  .code yXF_component cXF_component 2 (some .int),
  .methodLink RXF 60 yXF_componentOf,
  .instanceMethod yXF_componentOf,
  .code yXF_componentOf cXF_componentOf 2 (some .int),
  .methodLink RXF 128 yXG_all,
  .instanceMethod yXG_all,
  .selects RXG yXG_all yXG_all,
  .code yXG_all cXG_all 1 (some .int),
  .methodLink RXF 131 yXG_reached,
  .instanceMethod yXG_reached,
  .selects RXG yXG_reached yXG_reached,
  .code yXG_reached cXG_reached 6 (some .int),
  .methodLink RXG 23 yXG_nearToAny,
  .instanceMethod yXG_nearToAny,
  .code yXG_nearToAny cXG_nearToAny 5 (some .int),
  .methodLink RXL 40 yXF_splits,
  .instanceMethod yXF_splits,
  .selects RXF yXF_splits yXF_splits,
  .code yXF_splits cXF_splits 2 (some .int),
  .methodLink RXF 64 yXF_treeOf,
  .instanceMethod yXF_treeOf,
  .code yXF_treeOf cXF_treeOf 2 (some (.object "SplitForest$SplitTree")),
  .methodLink RXF 134 yXT_growFor,
  .instanceMethod yXT_growFor,
  .selects RXT yXT_growFor yXT_growFor,
  .code yXT_growFor cXT_growFor 2 none,
  .methodLink RXT 38 yXT_findSplits,
  .instanceMethod yXT_findSplits,
  .code yXT_findSplits cXT_findSplits 3 none,
  .methodLink RXT 78 yXT_isSplit,
  .instanceMethod yXT_isSplit,
  .code yXT_isSplit cXT_isSplit 6 (some .boolean),
  .methodLink RXT 81 yXJ_bitCount,
  .static yXJ_bitCount,
  .code yXJ_bitCount cXJ_bitCount 1 (some .int),
  .constant RXJ 265 1431655765,
  .constant RXJ 266 858993459,
  .constant RXJ 267 252645135,
  .methodLink RXT 89 yXG_nearInside,
  .instanceMethod yXG_nearInside,
  .selects RXG yXG_nearInside yXG_nearInside,
  .code yXG_nearInside cXG_nearInside 3 (some .int),
  .methodLink RXT 41 yXT_findNodes,
  .instanceMethod yXT_findNodes,
  .code yXT_findNodes cXT_findNodes 2 none,
  .methodLink RXT 92 yXT_isStrong,
  .instanceMethod yXT_isStrong,
  .code yXT_isStrong cXT_isStrong 4 (some .boolean),
  .methodLink RXF 68 yXT_splitCount,
  .instanceMethod yXT_splitCount,
  .selects RXT yXT_splitCount yXT_splitCount,
  .code yXT_splitCount cXT_splitCount 1 (some .int),
  .methodLink RXL 44 yXF_strong,
  .instanceMethod yXF_strong,
  .selects RXF yXF_strong yXF_strong,
  .code yXF_strong cXF_strong 2 (some .int),
  .methodLink RXF 71 yXT_nodeCount,
  .instanceMethod yXT_nodeCount,
  .selects RXT yXT_nodeCount yXT_nodeCount,
  .code yXT_nodeCount cXT_nodeCount 1 (some .int),
  .methodLink RXL 48 yXF_set,
  .instanceMethod yXF_set,
  .selects RXF yXF_set yXF_set,
  .code yXF_set cXF_set 3 (some .int),
  .methodLink RXF 74 yXF_hasNode,
  .instanceMethod yXF_hasNode,
  .code yXF_hasNode cXF_hasNode 3 (some .boolean),
  .methodLink RXF 77 yXT_nodeSet,
  .instanceMethod yXT_nodeSet,
  .selects RXT yXT_nodeSet yXT_nodeSet,
  .code yXT_nodeSet cXT_nodeSet 2 (some .int),
  .methodLink RXL 53 yXF_kind,
  .instanceMethod yXF_kind,
  .selects RXF yXF_kind yXF_kind,
  .code yXF_kind cXF_kind 3 (some .int),
  .methodLink RXF 80 yXT_nodeKind,
  .instanceMethod yXT_nodeKind,
  .selects RXT yXT_nodeKind yXT_nodeKind,
  .code yXT_nodeKind cXT_nodeKind 2 (some .int),
  .methodLink RXT 57 yXT_findJoins,
  .instanceMethod yXT_findJoins,
  .code yXT_findJoins cXT_findJoins 4 none,
  .methodLink RXT 50 yXT_findParts,
  .instanceMethod yXT_findParts,
  .code yXT_findParts cXT_findParts 5 none,
  .methodLink RXT 70 yXT_partWith,
  .instanceMethod yXT_partWith,
  .code yXT_partWith cXT_partWith 7 (some .int),
  .methodLink RXT 96 yXT_addPart,
  .instanceMethod yXT_addPart,
  .code yXT_addPart cXT_addPart 3 none,
  .methodLink RXT 74 yXG_joined,
  .instanceMethod yXG_joined,
  .selects RXG yXG_joined yXG_joined,
  .code yXG_joined cXG_joined 3 (some .boolean),
  .methodLink RXT 63 yXT_centreIndex,
  .instanceMethod yXT_centreIndex,
  .code yXT_centreIndex cXT_centreIndex 2 (some .int),
  .methodLink RXL 57 yXF_parts,
  .instanceMethod yXF_parts,
  .selects RXF yXF_parts yXF_parts,
  .code yXF_parts cXF_parts 3 (some .int),
  .methodLink RXF 83 yXT_partCount,
  .instanceMethod yXT_partCount,
  .selects RXT yXT_partCount yXT_partCount,
  .code yXT_partCount cXT_partCount 2 (some .int),
  .methodLink RXL 61 yXF_part,
  .instanceMethod yXF_part,
  .selects RXF yXF_part yXF_part,
  .code yXF_part cXF_part 4 (some .int),
  .methodLink RXF 86 yXT_partSet,
  .instanceMethod yXT_partSet,
  .selects RXT yXT_partSet yXT_partSet,
  .code yXT_partSet cXT_partSet 3 (some .int),
  .methodLink RXL 66 yXF_centre,
  .instanceMethod yXF_centre,
  .selects RXF yXF_centre yXF_centre,
  .code yXF_centre cXF_centre 3 (some .int),
  .methodLink RXF 90 yXT_centreSet,
  .instanceMethod yXT_centreSet,
  .selects RXT yXT_centreSet yXT_centreSet,
  .code yXT_centreSet cXT_centreSet 2 (some .int),
  .methodLink RXT 66 yXT_nodeKind,
  .methodLink RXL 70 yXF_linked,
  .instanceMethod yXF_linked,
  .selects RXF yXF_linked yXF_linked,
  .code yXF_linked cXF_linked 3 (some .boolean),
  .methodLink RXF 93 yXF_contains,
  .methodLink RXF 96 yXT_links,
  .instanceMethod yXT_links,
  .selects RXT yXT_links yXT_links,
  .code yXT_links cXT_links 6 (some .boolean),
  .methodLink RXL 74 yXF_hereditary,
  .instanceMethod yXF_hereditary,
  .selects RXF yXF_hereditary yXF_hereditary,
  .code yXF_hereditary cXF_hereditary 2 (some .boolean),
  .methodLink RXF 99 yXE_clears,
  .instanceMethod yXE_clears,
  .selects RXE yXE_clears yXE_clears,
  .code yXE_clears cXE_clears 5 (some .boolean),
  .methodLink RXE 37 yXG_reached,
  .methodLink RXE 25 yXE_run,
  .instanceMethod yXE_run,
  .code yXE_run cXE_run 3 none,
  .methodLink RXE 54 yXE_nextStep,
  .instanceMethod yXE_nextStep,
  .code yXE_nextStep cXE_nextStep 3 (some .int),
  .methodLink RXE 57 yXE_stepAt,
  .instanceMethod yXE_stepAt,
  .code yXE_stepAt cXE_stepAt 6 (some .int),
  .methodLink RXE 60 yXG_nearInside,
  .methodLink RXE 44 yXJ_bitCount,
  .methodLink RXE 63 yXG_areTwins,
  .instanceMethod yXG_areTwins,
  .selects RXG yXG_areTwins yXG_areTwins,
  .code yXG_areTwins cXG_areTwins 5 (some .boolean),
  .methodLink RXL 79 yXF_step,
  .instanceMethod yXF_step,
  .selects RXF yXF_step yXF_step,
  .code yXF_step cXF_step 3 (some .int),
  .methodLink RXF 102 yXE_stepOf,
  .instanceMethod yXE_stepOf,
  .selects RXE yXE_stepOf yXE_stepOf,
  .code yXE_stepOf cXE_stepOf 3 (some .int),
  .methodLink RXL 83 yXF_obstruction,
  .instanceMethod yXF_obstruction,
  .selects RXF yXF_obstruction yXF_obstruction,
  .code yXF_obstruction cXF_obstruction 2 (some .int),
  .methodLink RXF 105 yXE_obstructionIn,
  .instanceMethod yXE_obstructionIn,
  .selects RXE yXE_obstructionIn yXE_obstructionIn,
  .code yXE_obstructionIn cXE_obstructionIn 5 (some .int),
  .methodLink RXE 50 yXE_clears,
  .methodLink RXL 87 yXF_obstacle,
  .instanceMethod yXF_obstacle,
  .selects RXF yXF_obstacle yXF_obstacle,
  .code yXF_obstacle cXF_obstacle 3 (some .int),
  .methodLink RXF 108 yXJ_bitCount,
  .methodLink RXF 113 yXG_edgesInside,
  .instanceMethod yXG_edgesInside,
  .selects RXG yXG_edgesInside yXG_edgesInside,
  .code yXG_edgesInside cXG_edgesInside 4 (some .int),
  .methodLink RXG 27 yXJ_bitCount,
  .methodLink RXF 116 yXF_obstacleKind,
  .static yXF_obstacleKind,
  .code yXF_obstacleKind cXF_obstacleKind 2 (some .int),
  .methodLink RXL 91 yXF_apart,
  .instanceMethod yXF_apart,
  .selects RXF yXF_apart yXF_apart,
  .code yXF_apart cXF_apart 2 (some .int),
  .methodLink RXF 119 yXF_hereditary,
  .methodLink RXF 122 yXC_largestApart,
  .instanceMethod yXC_largestApart,
  .selects RXC yXC_largestApart yXC_largestApart,
  .code yXC_largestApart cXC_largestApart 4 (some .int),
  .methodLink RXC 23 yXJ_bitCount,
  .methodLink RXC 29 yXG_joined,
  .methodLink RXL 95 yXF_chosen,
  .instanceMethod yXF_chosen,
  .selects RXF yXF_chosen yXF_chosen,
  .code yXF_chosen cXF_chosen 2 (some .int),
  .methodLink RXL 99 yXF_cover,
  .instanceMethod yXF_cover,
  .selects RXF yXF_cover yXF_cover,
  .code yXF_cover cXF_cover 2 (some .int),
  .methodLink RXF 125 yXC_fewestCliques,
  .instanceMethod yXC_fewestCliques,
  .selects RXC yXC_fewestCliques yXC_fewestCliques,
  .code yXC_fewestCliques cXC_fewestCliques 4 (some .int),
  .methodLink RXC 38 yXC_coverWith,
  .instanceMethod yXC_coverWith,
  .code yXC_coverWith cXC_coverWith 4 none,
  .methodLink RXC 42 yXC_fewestWith,
  .instanceMethod yXC_fewestWith,
  .code yXC_fewestWith cXC_fewestWith 6 (some .int),
  .methodLink RXC 46 yXG_nearInside,
  .methodLink RXC 49 Lib.Math.min.name,
  .static Lib.Math.min.name,
  .code Lib.Math.min.name Lib.Math.min.code 2 (some .int),
  .methodLink RXL 9 yXL_cell,
  .static yXL_cell,
  .code yXL_cell cXL_cell 2 (some .int),
  .classLink RXL 18 RXM,
  .instantiable RXM 12,
  .methodLink RXL 20 yXM_init,
  .instanceMethod yXM_init,
  .code yXM_init cXM_init 2 none,
  .methodLink RXM 1 objectInit,
  .fieldLink RXM 28 "SplitForestModel" "n" "I",
  .fieldLink RXM 7 "SplitForestModel" "near" "[I",
  .fieldLink RXM 40 "SplitForestModel" "splits" "I",
  .fieldLink RXM 13 "SplitForestModel" "split" "[I",
  .fieldLink RXM 54 "SplitForestModel" "strongs" "I",
  .fieldLink RXM 16 "SplitForestModel" "strong" "[I",
  .fieldLink RXM 73 "SplitForestModel" "parts" "I",
  .fieldLink RXM 19 "SplitForestModel" "part" "[I",
  .fieldLink RXM 96 "SplitForestModel" "steps" "I",
  .fieldLink RXM 22 "SplitForestModel" "step" "[I",
  .fieldLink RXM 102 "SplitForestModel" "whole" "Z",
  .fieldLink RXM 25 "SplitForestModel" "covers" "[I",
  .laysFinal RXM "SplitForestModel" "n" "I",
  .laysFinal RXM "SplitForestModel" "near" "[I",
  .lays RXM "SplitForestModel" "splits" "I",
  .laysFinal RXM "SplitForestModel" "split" "[I",
  .lays RXM "SplitForestModel" "strongs" "I",
  .laysFinal RXM "SplitForestModel" "strong" "[I",
  .lays RXM "SplitForestModel" "parts" "I",
  .laysFinal RXM "SplitForestModel" "part" "[I",
  .lays RXM "SplitForestModel" "steps" "I",
  .laysFinal RXM "SplitForestModel" "step" "[I",
  .lays RXM "SplitForestModel" "whole" "Z",
  .laysFinal RXM "SplitForestModel" "covers" "[I",
  .methodLink RXL 25 yXM_vertices,
  .instanceMethod yXM_vertices,
  .selects RXM yXM_vertices yXM_vertices,
  .code yXM_vertices cXM_vertices 1 (some .int),
  .methodLink RXL 30 yXM_flip,
  .instanceMethod yXM_flip,
  .selects RXM yXM_flip yXM_flip,
  .code yXM_flip cXM_flip 3 (some .boolean),
  .methodLink RXM 32 yXM_is,
  .instanceMethod yXM_is,
  .code yXM_is cXM_is 2 (some .boolean),
  .methodLink RXL 34 yXM_neighbours,
  .instanceMethod yXM_neighbours,
  .selects RXM yXM_neighbours yXM_neighbours,
  .code yXM_neighbours cXM_neighbours 3 (some .boolean),
  .methodLink RXL 39 yXM_component,
  .instanceMethod yXM_component,
  .selects RXM yXM_component yXM_component,
  .code yXM_component cXM_component 2 (some .int),
  .methodLink RXM 36 yXM_within,
  .instanceMethod yXM_within,
  .code yXM_within cXM_within 6 (some .int),
  .methodLink RXL 43 yXM_splits,
  .instanceMethod yXM_splits,
  .selects RXM yXM_splits yXM_splits,
  .code yXM_splits cXM_splits 2 (some .int),
  .methodLink RXM 60 yXM_component,
  .methodLink RXM 63 yXM_find,
  .instanceMethod yXM_find,
  .code yXM_find cXM_find 6 none,
  .methodLink RXM 43 yXM_least,
  .static yXM_least,
  .code yXM_least cXM_least 2 (some .int),
  .methodLink RXM 47 yXM_size,
  .static yXM_size,
  .code yXM_size cXM_size 3 (some .int),
  .methodLink RXM 50 yXM_complete,
  .instanceMethod yXM_complete,
  .code yXM_complete cXM_complete 7 (some .boolean),
  .methodLink RXM 57 yXM_cross,
  .static yXM_cross,
  .code yXM_cross cXM_cross 2 (some .boolean),
  .methodLink RXL 47 yXM_strong,
  .instanceMethod yXM_strong,
  .selects RXM yXM_strong yXM_strong,
  .code yXM_strong cXM_strong 2 (some .int),
  .methodLink RXL 52 yXM_set,
  .instanceMethod yXM_set,
  .selects RXM yXM_set yXM_set,
  .code yXM_set cXM_set 3 (some .int),
  .methodLink RXM 67 yXM_nodeSet,
  .instanceMethod yXM_nodeSet,
  .code yXM_nodeSet cXM_nodeSet 4 (some .int),
  .methodLink RXL 56 yXM_kind,
  .instanceMethod yXM_kind,
  .selects RXM yXM_kind yXM_kind,
  .code yXM_kind cXM_kind 4 (some .int),
  .methodLink RXM 86 yXM_open,
  .instanceMethod yXM_open,
  .code yXM_open cXM_open 6 (some .boolean),
  .methodLink RXM 76 yXM_isPart,
  .instanceMethod yXM_isPart,
  .code yXM_isPart cXM_isPart 10 (some .boolean),
  .methodLink RXM 70 yXM_inside,
  .static yXM_inside,
  .code yXM_inside cXM_inside 2 (some .boolean),
  .methodLink RXM 89 yXM_middle,
  .instanceMethod yXM_middle,
  .code yXM_middle cXM_middle 4 (some .int),
  .methodLink RXM 83 yXM_links,
  .instanceMethod yXM_links,
  .code yXM_links cXM_links 4 (some .int),
  .methodLink RXM 80 yXM_joined,
  .instanceMethod yXM_joined,
  .code yXM_joined cXM_joined 5 (some .boolean),
  .methodLink RXL 60 yXM_parts,
  .instanceMethod yXM_parts,
  .selects RXM yXM_parts yXM_parts,
  .code yXM_parts cXM_parts 3 (some .int),
  .methodLink RXL 65 yXM_part,
  .instanceMethod yXM_part,
  .selects RXM yXM_part yXM_part,
  .code yXM_part cXM_part 4 (some .int),
  .methodLink RXL 69 yXM_centre,
  .instanceMethod yXM_centre,
  .selects RXM yXM_centre yXM_centre,
  .code yXM_centre cXM_centre 4 (some .int),
  .methodLink RXL 73 yXM_linked,
  .instanceMethod yXM_linked,
  .selects RXM yXM_linked yXM_linked,
  .code yXM_linked cXM_linked 9 (some .boolean),
  .methodLink RXM 93 yXM_partOf,
  .instanceMethod yXM_partOf,
  .code yXM_partOf cXM_partOf 4 (some .int),
  .methodLink RXL 78 yXM_hereditary,
  .instanceMethod yXM_hereditary,
  .selects RXM yXM_hereditary yXM_hereditary,
  .code yXM_hereditary cXM_hereditary 2 (some .boolean),
  .methodLink RXM 109 yXM_fine,
  .instanceMethod yXM_fine,
  .code yXM_fine cXM_fine 4 (some .boolean),
  .methodLink RXM 106 yXM_eliminate,
  .instanceMethod yXM_eliminate,
  .code yXM_eliminate cXM_eliminate 5 none,
  .methodLink RXM 99 yXM_way,
  .instanceMethod yXM_way,
  .code yXM_way cXM_way 7 (some .int),
  .methodLink RXL 82 yXM_step,
  .instanceMethod yXM_step,
  .selects RXM yXM_step yXM_step,
  .code yXM_step cXM_step 3 (some .int),
  .methodLink RXL 86 yXM_obstruction,
  .instanceMethod yXM_obstruction,
  .selects RXM yXM_obstruction yXM_obstruction,
  .code yXM_obstruction cXM_obstruction 5 (some .int),
  .methodLink RXL 90 yXM_obstacle,
  .instanceMethod yXM_obstacle,
  .selects RXM yXM_obstacle yXM_obstacle,
  .code yXM_obstacle cXM_obstacle 5 (some .int),
  .methodLink RXM 112 yXM_obstruction,
  .methodLink RXM 115 yXM_edges,
  .instanceMethod yXM_edges,
  .code yXM_edges cXM_edges 4 (some .int),
  .methodLink RXL 94 yXM_apart,
  .instanceMethod yXM_apart,
  .selects RXM yXM_apart yXM_apart,
  .code yXM_apart cXM_apart 2 (some .int),
  .methodLink RXM 118 yXM_hereditary,
  .methodLink RXM 121 yXM_best,
  .instanceMethod yXM_best,
  .code yXM_best cXM_best 6 (some .int),
  .methodLink RXL 98 yXM_chosen,
  .instanceMethod yXM_chosen,
  .selects RXM yXM_chosen yXM_chosen,
  .code yXM_chosen cXM_chosen 2 (some .int),
  .methodLink RXL 102 yXM_cover,
  .instanceMethod yXM_cover,
  .selects RXM yXM_cover yXM_cover,
  .code yXM_cover cXM_cover 6 (some .int),
  .methodLink RXM 125 yXM_clique,
  .instanceMethod yXM_clique,
  .code yXM_clique cXM_clique 3 (some .boolean)]
set_option maxRecDepth 100000 in
theorem W0_pl : W0 = ([0,1,2,3,4,5,6,7,8,9,10,11,12,13,14,15,16,17,18,19,20,21,22,23,24,25,26,27,28,29,30,31,32,33,34,35,36,37,38,39,40,41,42,43,44,45,46,47,48,49,50,51,52,53,54,55,56,57,58,59,60,62,65,66,67,68,69,70,71,72,73,74,75,76,77,78,79,80,81,82,83,84,85,86,88,90,92,94,96,98,100,102,104,107,108,109,110,111,112,113,114,115,116,117,118,120,122,124,127,128,129,130,131,132,133,134,135,136,138,141,142,143,144,145,147,149,151,154,155,156,157,158,159,160,161,162,163,164,165,166,167,168,169,170,171,172,173,174,175,176,177,178,180,181,182,183,184,185,186,187,188,189,190,192,193,194,195,196,197,198,199,200,201,202,204,205,206,207,208,209,210,212,213,214,215,216,217,218,220,221,222,224,225,226,227,228,229,230,231,233,234,235,236,237,239,240,241,243,244,245,246,247,248,249,250,251,252,253,254,255,256,257,258,259,260,261,263,264,265,266,267,268,269,270,271,272,273,274,275,276,277,279,280,281,283,284,285,287,288,289,291,292,293,294,295,296,297,299,300,301,302,303,304,305,306,307,308,309,310,311,312,313,314,315,316,317,318,319,320,321,322,323,324,325,326,327,328,329,330,331,332,333,334,335,336,337,338,339,340,341,342,344,345,347,348,349,351,352,353,355,356,357,358,359,360,361,362,363,364,365,366,367,368,369,370,371,372,373,374,375,376,377,378,379,380,381,382,383,384,385,386,387,388,389,390,391,392,393,394,395,396,397,398,399,400,401,402,403,404,405,406,407,408,409,410,411,412,413,414,415,417,419,420,421,423,424,425,426,427,428,429,430,431,432,433,434,435,436,437,438,439,440,441,442,443,444,445,446,447,448,449,450,452,454,456,458,460,462,464,466,468,470,472,475,476,477,478,479,480,481,482,483,485,486,487,488,489,490,491,492,493,494,495,497,498,499,500,501,502,503,504,506,507,508,509,510,511,512,513,514,516,517,518,519,520,521,522,523,524,525,526,527,528,529,531,532,533,534,535,536,537,539,540,541,543,544,545,546,547,548,550,551,552,554,555,556,558,559,560,561,562,563,564,565,566,567,568,569,570,571,572,573,574,575,576,578,579,580,581,582,583,584,586,587,588,590,591,592,594,595,596,597,598,599,600,601,602,603,604,605,606,607,608,609,611,612,613,614,615,616,617,618,620,621,622,623,624,625,626,627,628,629,630,632,633] : List Nat).filterMap (fun i => lw_tbl[i]?) := by rfl
theorem W0_in : ∀ w ∈ W0, w ∈ lw_tbl := by
  intro w hw
  rw [W0_pl] at hw
  obtain ⟨i, -, hi⟩ := List.mem_filterMap.mp hw
  exact List.mem_of_getElem? hi
set_option maxRecDepth 100000 in
theorem W0_good : W0.all goodWord = true := by decide +kernel
theorem W0g : GoodIn W0 W0 := fun w hw => ⟨hw, good_of_word (List.all_eq_true.mp W0_good w hw)⟩
set_option maxRecDepth 100000 in
theorem wd_0 : (.selects RXF yXF_componentOf yXF_componentOf : Cond) ∈ W0 := List.mem_of_getElem? (i := 0) rfl
set_option maxRecDepth 100000 in
theorem wd_1 : (.selects RXG yXG_nearToAny yXG_nearToAny : Cond) ∈ W0 := List.mem_of_getElem? (i := 1) rfl
set_option maxRecDepth 100000 in
theorem wd_2 : (.selects RXF yXF_treeOf yXF_treeOf : Cond) ∈ W0 := List.mem_of_getElem? (i := 2) rfl
set_option maxRecDepth 100000 in
theorem wd_3 : (.selects RXT yXT_findSplits yXT_findSplits : Cond) ∈ W0 := List.mem_of_getElem? (i := 3) rfl
set_option maxRecDepth 100000 in
theorem wd_4 : (.selects RXT yXT_isSplit yXT_isSplit : Cond) ∈ W0 := List.mem_of_getElem? (i := 4) rfl
set_option maxRecDepth 100000 in
theorem wd_5 : (.selects RXT yXT_findNodes yXT_findNodes : Cond) ∈ W0 := List.mem_of_getElem? (i := 5) rfl
set_option maxRecDepth 100000 in
theorem wd_6 : (.selects RXT yXT_isStrong yXT_isStrong : Cond) ∈ W0 := List.mem_of_getElem? (i := 6) rfl
set_option maxRecDepth 100000 in
theorem wd_7 : (.selects RXF yXF_hasNode yXF_hasNode : Cond) ∈ W0 := List.mem_of_getElem? (i := 7) rfl
set_option maxRecDepth 100000 in
theorem wd_8 : (.selects RXT yXT_findJoins yXT_findJoins : Cond) ∈ W0 := List.mem_of_getElem? (i := 8) rfl
set_option maxRecDepth 100000 in
theorem wd_9 : (.selects RXT yXT_findParts yXT_findParts : Cond) ∈ W0 := List.mem_of_getElem? (i := 9) rfl
set_option maxRecDepth 100000 in
theorem wd_10 : (.selects RXT yXT_partWith yXT_partWith : Cond) ∈ W0 := List.mem_of_getElem? (i := 10) rfl
set_option maxRecDepth 100000 in
theorem wd_11 : (.selects RXT yXT_addPart yXT_addPart : Cond) ∈ W0 := List.mem_of_getElem? (i := 11) rfl
set_option maxRecDepth 100000 in
theorem wd_12 : (.selects RXT yXT_centreIndex yXT_centreIndex : Cond) ∈ W0 := List.mem_of_getElem? (i := 12) rfl
set_option maxRecDepth 100000 in
theorem wd_13 : (.selects RXE yXE_run yXE_run : Cond) ∈ W0 := List.mem_of_getElem? (i := 13) rfl
set_option maxRecDepth 100000 in
theorem wd_14 : (.selects RXE yXE_nextStep yXE_nextStep : Cond) ∈ W0 := List.mem_of_getElem? (i := 14) rfl
set_option maxRecDepth 100000 in
theorem wd_15 : (.selects RXE yXE_stepAt yXE_stepAt : Cond) ∈ W0 := List.mem_of_getElem? (i := 15) rfl
set_option maxRecDepth 100000 in
theorem wd_16 : (.selects RXC yXC_coverWith yXC_coverWith : Cond) ∈ W0 := List.mem_of_getElem? (i := 16) rfl
set_option maxRecDepth 100000 in
theorem wd_17 : (.selects RXC yXC_fewestWith yXC_fewestWith : Cond) ∈ W0 := List.mem_of_getElem? (i := 17) rfl
set_option maxRecDepth 100000 in
theorem wd_18 : (.selects RXM yXM_is yXM_is : Cond) ∈ W0 := List.mem_of_getElem? (i := 18) rfl
set_option maxRecDepth 100000 in
theorem wd_19 : (.selects RXM yXM_within yXM_within : Cond) ∈ W0 := List.mem_of_getElem? (i := 19) rfl
set_option maxRecDepth 100000 in
theorem wd_20 : (.selects RXM yXM_find yXM_find : Cond) ∈ W0 := List.mem_of_getElem? (i := 20) rfl
set_option maxRecDepth 100000 in
theorem wd_21 : (.selects RXM yXM_complete yXM_complete : Cond) ∈ W0 := List.mem_of_getElem? (i := 21) rfl
set_option maxRecDepth 100000 in
theorem wd_22 : (.selects RXM yXM_nodeSet yXM_nodeSet : Cond) ∈ W0 := List.mem_of_getElem? (i := 22) rfl
set_option maxRecDepth 100000 in
theorem wd_23 : (.selects RXM yXM_open yXM_open : Cond) ∈ W0 := List.mem_of_getElem? (i := 23) rfl
set_option maxRecDepth 100000 in
theorem wd_24 : (.selects RXM yXM_isPart yXM_isPart : Cond) ∈ W0 := List.mem_of_getElem? (i := 24) rfl
set_option maxRecDepth 100000 in
theorem wd_25 : (.selects RXM yXM_middle yXM_middle : Cond) ∈ W0 := List.mem_of_getElem? (i := 25) rfl
set_option maxRecDepth 100000 in
theorem wd_26 : (.selects RXM yXM_links yXM_links : Cond) ∈ W0 := List.mem_of_getElem? (i := 26) rfl
set_option maxRecDepth 100000 in
theorem wd_27 : (.selects RXM yXM_joined yXM_joined : Cond) ∈ W0 := List.mem_of_getElem? (i := 27) rfl
set_option maxRecDepth 100000 in
theorem wd_28 : (.selects RXM yXM_partOf yXM_partOf : Cond) ∈ W0 := List.mem_of_getElem? (i := 28) rfl
set_option maxRecDepth 100000 in
theorem wd_29 : (.selects RXM yXM_fine yXM_fine : Cond) ∈ W0 := List.mem_of_getElem? (i := 29) rfl
set_option maxRecDepth 100000 in
theorem wd_30 : (.selects RXM yXM_eliminate yXM_eliminate : Cond) ∈ W0 := List.mem_of_getElem? (i := 30) rfl
set_option maxRecDepth 100000 in
theorem wd_31 : (.selects RXM yXM_way yXM_way : Cond) ∈ W0 := List.mem_of_getElem? (i := 31) rfl
set_option maxRecDepth 100000 in
theorem wd_32 : (.selects RXM yXM_edges yXM_edges : Cond) ∈ W0 := List.mem_of_getElem? (i := 32) rfl
set_option maxRecDepth 100000 in
theorem wd_33 : (.selects RXM yXM_best yXM_best : Cond) ∈ W0 := List.mem_of_getElem? (i := 33) rfl
set_option maxRecDepth 100000 in
theorem wd_34 : (.selects RXM yXM_clique yXM_clique : Cond) ∈ W0 := List.mem_of_getElem? (i := 34) rfl
set_option maxRecDepth 100000 in
theorem wd_35 : (.initialized RXL : Cond) ∈ W0 := List.mem_of_getElem? (i := 35) rfl
set_option maxRecDepth 100000 in
theorem wd_36 : (.initialized RXF : Cond) ∈ W0 := List.mem_of_getElem? (i := 36) rfl
set_option maxRecDepth 100000 in
theorem wd_37 : (.initialized RXG : Cond) ∈ W0 := List.mem_of_getElem? (i := 37) rfl
set_option maxRecDepth 100000 in
theorem wd_38 : (.initialized RXT : Cond) ∈ W0 := List.mem_of_getElem? (i := 38) rfl
set_option maxRecDepth 100000 in
theorem wd_39 : (.initialized RXE : Cond) ∈ W0 := List.mem_of_getElem? (i := 39) rfl
set_option maxRecDepth 100000 in
theorem wd_40 : (.initialized RXC : Cond) ∈ W0 := List.mem_of_getElem? (i := 40) rfl
set_option maxRecDepth 100000 in
theorem wd_41 : (.initialized RXM : Cond) ∈ W0 := List.mem_of_getElem? (i := 41) rfl
set_option maxRecDepth 100000 in
theorem wd_42 : (.initialized RXJ : Cond) ∈ W0 := List.mem_of_getElem? (i := 42) rfl
set_option maxRecDepth 100000 in
theorem wd_43 : (.initialized "java/lang/Math" : Cond) ∈ W0 := List.mem_of_getElem? (i := 43) rfl
set_option maxRecDepth 100000 in
theorem wd_44 : (.classLink RXL 7 RXF : Cond) ∈ W0 := List.mem_of_getElem? (i := 44) rfl
set_option maxRecDepth 100000 in
theorem wd_45 : (.instantiable RXF 4 : Cond) ∈ W0 := List.mem_of_getElem? (i := 45) rfl
set_option maxRecDepth 100000 in
theorem wd_46 : (.methodLink RXL 15 yXF_init : Cond) ∈ W0 := List.mem_of_getElem? (i := 46) rfl
set_option maxRecDepth 100000 in
theorem wd_47 : (.instanceMethod yXF_init : Cond) ∈ W0 := List.mem_of_getElem? (i := 47) rfl
set_option maxRecDepth 100000 in
theorem wd_48 : (.code yXF_init cXF_init 2 none : Cond) ∈ W0 := List.mem_of_getElem? (i := 48) rfl
set_option maxRecDepth 100000 in
theorem wd_49 : (.methodLink RXF 1 objectInit : Cond) ∈ W0 := List.mem_of_getElem? (i := 49) rfl
set_option maxRecDepth 100000 in
theorem wd_50 : (.instanceMethod objectInit : Cond) ∈ W0 := List.mem_of_getElem? (i := 50) rfl
set_option maxRecDepth 100000 in
theorem wd_51 : (.code objectInit ⟨#[0xb1]⟩ 1 none : Cond) ∈ W0 := List.mem_of_getElem? (i := 51) rfl
set_option maxRecDepth 100000 in
theorem wd_52 : (.classLink RXF 7 RXG : Cond) ∈ W0 := List.mem_of_getElem? (i := 52) rfl
set_option maxRecDepth 100000 in
theorem wd_53 : (.instantiable RXG 2 : Cond) ∈ W0 := List.mem_of_getElem? (i := 53) rfl
set_option maxRecDepth 100000 in
theorem wd_54 : (.methodLink RXF 11 yXG_init : Cond) ∈ W0 := List.mem_of_getElem? (i := 54) rfl
set_option maxRecDepth 100000 in
theorem wd_55 : (.instanceMethod yXG_init : Cond) ∈ W0 := List.mem_of_getElem? (i := 55) rfl
set_option maxRecDepth 100000 in
theorem wd_56 : (.code yXG_init cXG_init 2 none : Cond) ∈ W0 := List.mem_of_getElem? (i := 56) rfl
set_option maxRecDepth 100000 in
theorem wd_57 : (.methodLink RXG 1 objectInit : Cond) ∈ W0 := List.mem_of_getElem? (i := 57) rfl
set_option maxRecDepth 100000 in
theorem wd_58 : (.fieldLink RXG 7 "SplitForest$Graph" "size" "I" : Cond) ∈ W0 := List.mem_of_getElem? (i := 58) rfl
set_option maxRecDepth 100000 in
theorem wd_59 : (.fieldLink RXG 13 "SplitForest$Graph" "near" "[I" : Cond) ∈ W0 := List.mem_of_getElem? (i := 59) rfl
set_option maxRecDepth 100000 in
theorem wd_60 : (.laysFinal RXG "SplitForest$Graph" "size" "I" : Cond) ∈ W0 := List.mem_of_getElem? (i := 60) rfl
set_option maxRecDepth 100000 in
theorem wd_61 : (.laysFinal RXG "SplitForest$Graph" "near" "[I" : Cond) ∈ W0 := List.mem_of_getElem? (i := 61) rfl
set_option maxRecDepth 100000 in
theorem wd_62 : (.arrayClass .int : Cond) ∈ W0 := List.mem_of_getElem? (i := 62) rfl
set_option maxRecDepth 100000 in
theorem wd_63 : (.classLink RXF 18 RXT : Cond) ∈ W0 := List.mem_of_getElem? (i := 63) rfl
set_option maxRecDepth 100000 in
theorem wd_64 : (.instantiable RXT 10 : Cond) ∈ W0 := List.mem_of_getElem? (i := 64) rfl
set_option maxRecDepth 100000 in
theorem wd_65 : (.methodLink RXF 20 yXT_init : Cond) ∈ W0 := List.mem_of_getElem? (i := 65) rfl
set_option maxRecDepth 100000 in
theorem wd_66 : (.instanceMethod yXT_init : Cond) ∈ W0 := List.mem_of_getElem? (i := 66) rfl
set_option maxRecDepth 100000 in
theorem wd_67 : (.code yXT_init cXT_init 2 none : Cond) ∈ W0 := List.mem_of_getElem? (i := 67) rfl
set_option maxRecDepth 100000 in
theorem wd_68 : (.methodLink RXT 3 objectInit : Cond) ∈ W0 := List.mem_of_getElem? (i := 68) rfl
set_option maxRecDepth 100000 in
theorem wd_69 : (.methodLink RXT 15 yXG_size : Cond) ∈ W0 := List.mem_of_getElem? (i := 69) rfl
set_option maxRecDepth 100000 in
theorem wd_70 : (.instanceMethod yXG_size : Cond) ∈ W0 := List.mem_of_getElem? (i := 70) rfl
set_option maxRecDepth 100000 in
theorem wd_71 : (.selects RXG yXG_size yXG_size : Cond) ∈ W0 := List.mem_of_getElem? (i := 71) rfl
set_option maxRecDepth 100000 in
theorem wd_72 : (.code yXG_size cXG_size 1 (some .int) : Cond) ∈ W0 := List.mem_of_getElem? (i := 72) rfl
set_option maxRecDepth 100000 in
theorem wd_73 : (.fieldLink RXT 9 "SplitForest$SplitTree" "graph" "LSplitForest$Graph;" : Cond) ∈ W0 := List.mem_of_getElem? (i := 73) rfl
set_option maxRecDepth 100000 in
theorem wd_74 : (.fieldLink RXT 21 "SplitForest$SplitTree" "splitSets" "[I" : Cond) ∈ W0 := List.mem_of_getElem? (i := 74) rfl
set_option maxRecDepth 100000 in
theorem wd_75 : (.fieldLink RXT 44 "SplitForest$SplitTree" "splitCount" "I" : Cond) ∈ W0 := List.mem_of_getElem? (i := 75) rfl
set_option maxRecDepth 100000 in
theorem wd_76 : (.fieldLink RXT 25 "SplitForest$SplitTree" "nodeSets" "[I" : Cond) ∈ W0 := List.mem_of_getElem? (i := 76) rfl
set_option maxRecDepth 100000 in
theorem wd_77 : (.fieldLink RXT 47 "SplitForest$SplitTree" "nodeCount" "I" : Cond) ∈ W0 := List.mem_of_getElem? (i := 77) rfl
set_option maxRecDepth 100000 in
theorem wd_78 : (.fieldLink RXT 28 "SplitForest$SplitTree" "partSets" "[I" : Cond) ∈ W0 := List.mem_of_getElem? (i := 78) rfl
set_option maxRecDepth 100000 in
theorem wd_79 : (.fieldLink RXT 31 "SplitForest$SplitTree" "degrees" "[I" : Cond) ∈ W0 := List.mem_of_getElem? (i := 79) rfl
set_option maxRecDepth 100000 in
theorem wd_80 : (.fieldLink RXT 54 "SplitForest$SplitTree" "partCount" "I" : Cond) ∈ W0 := List.mem_of_getElem? (i := 80) rfl
set_option maxRecDepth 100000 in
theorem wd_81 : (.fieldLink RXT 60 "SplitForest$SplitTree" "pairsJoined" "I" : Cond) ∈ W0 := List.mem_of_getElem? (i := 81) rfl
set_option maxRecDepth 100000 in
theorem wd_82 : (.fieldLink RXT 34 "SplitForest$SplitTree" "whole" "I" : Cond) ∈ W0 := List.mem_of_getElem? (i := 82) rfl
set_option maxRecDepth 100000 in
theorem wd_83 : (.laysFinal RXT "SplitForest$SplitTree" "graph" "LSplitForest$Graph;" : Cond) ∈ W0 := List.mem_of_getElem? (i := 83) rfl
set_option maxRecDepth 100000 in
theorem wd_84 : (.laysFinal RXT "SplitForest$SplitTree" "splitSets" "[I" : Cond) ∈ W0 := List.mem_of_getElem? (i := 84) rfl
set_option maxRecDepth 100000 in
theorem wd_85 : (.lays RXT "SplitForest$SplitTree" "splitCount" "I" : Cond) ∈ W0 := List.mem_of_getElem? (i := 85) rfl
set_option maxRecDepth 100000 in
theorem wd_86 : (.laysFinal RXT "SplitForest$SplitTree" "nodeSets" "[I" : Cond) ∈ W0 := List.mem_of_getElem? (i := 86) rfl
set_option maxRecDepth 100000 in
theorem wd_87 : (.lays RXT "SplitForest$SplitTree" "nodeCount" "I" : Cond) ∈ W0 := List.mem_of_getElem? (i := 87) rfl
set_option maxRecDepth 100000 in
theorem wd_88 : (.laysFinal RXT "SplitForest$SplitTree" "partSets" "[I" : Cond) ∈ W0 := List.mem_of_getElem? (i := 88) rfl
set_option maxRecDepth 100000 in
theorem wd_89 : (.laysFinal RXT "SplitForest$SplitTree" "degrees" "[I" : Cond) ∈ W0 := List.mem_of_getElem? (i := 89) rfl
set_option maxRecDepth 100000 in
theorem wd_90 : (.lays RXT "SplitForest$SplitTree" "partCount" "I" : Cond) ∈ W0 := List.mem_of_getElem? (i := 90) rfl
set_option maxRecDepth 100000 in
theorem wd_91 : (.lays RXT "SplitForest$SplitTree" "pairsJoined" "I" : Cond) ∈ W0 := List.mem_of_getElem? (i := 91) rfl
set_option maxRecDepth 100000 in
theorem wd_92 : (.lays RXT "SplitForest$SplitTree" "whole" "I" : Cond) ∈ W0 := List.mem_of_getElem? (i := 92) rfl
set_option maxRecDepth 100000 in
theorem wd_93 : (.classLink RXF 27 RXE : Cond) ∈ W0 := List.mem_of_getElem? (i := 93) rfl
set_option maxRecDepth 100000 in
theorem wd_94 : (.instantiable RXE 4 : Cond) ∈ W0 := List.mem_of_getElem? (i := 94) rfl
set_option maxRecDepth 100000 in
theorem wd_95 : (.methodLink RXF 29 yXE_init : Cond) ∈ W0 := List.mem_of_getElem? (i := 95) rfl
set_option maxRecDepth 100000 in
theorem wd_96 : (.instanceMethod yXE_init : Cond) ∈ W0 := List.mem_of_getElem? (i := 96) rfl
set_option maxRecDepth 100000 in
theorem wd_97 : (.code yXE_init cXE_init 2 none : Cond) ∈ W0 := List.mem_of_getElem? (i := 97) rfl
set_option maxRecDepth 100000 in
theorem wd_98 : (.methodLink RXE 3 objectInit : Cond) ∈ W0 := List.mem_of_getElem? (i := 98) rfl
set_option maxRecDepth 100000 in
theorem wd_99 : (.methodLink RXE 15 yXG_size : Cond) ∈ W0 := List.mem_of_getElem? (i := 99) rfl
set_option maxRecDepth 100000 in
theorem wd_100 : (.fieldLink RXE 9 "SplitForest$Elimination" "graph" "LSplitForest$Graph;" : Cond) ∈ W0 := List.mem_of_getElem? (i := 100) rfl
set_option maxRecDepth 100000 in
theorem wd_101 : (.fieldLink RXE 21 "SplitForest$Elimination" "steps" "[I" : Cond) ∈ W0 := List.mem_of_getElem? (i := 101) rfl
set_option maxRecDepth 100000 in
theorem wd_102 : (.fieldLink RXE 29 "SplitForest$Elimination" "stepCount" "I" : Cond) ∈ W0 := List.mem_of_getElem? (i := 102) rfl
set_option maxRecDepth 100000 in
theorem wd_103 : (.fieldLink RXE 41 "SplitForest$Elimination" "left" "I" : Cond) ∈ W0 := List.mem_of_getElem? (i := 103) rfl
set_option maxRecDepth 100000 in
theorem wd_104 : (.laysFinal RXE "SplitForest$Elimination" "graph" "LSplitForest$Graph;" : Cond) ∈ W0 := List.mem_of_getElem? (i := 104) rfl
set_option maxRecDepth 100000 in
theorem wd_105 : (.laysFinal RXE "SplitForest$Elimination" "steps" "[I" : Cond) ∈ W0 := List.mem_of_getElem? (i := 105) rfl
set_option maxRecDepth 100000 in
theorem wd_106 : (.lays RXE "SplitForest$Elimination" "stepCount" "I" : Cond) ∈ W0 := List.mem_of_getElem? (i := 106) rfl
set_option maxRecDepth 100000 in
theorem wd_107 : (.lays RXE "SplitForest$Elimination" "left" "I" : Cond) ∈ W0 := List.mem_of_getElem? (i := 107) rfl
set_option maxRecDepth 100000 in
theorem wd_108 : (.classLink RXF 34 RXC : Cond) ∈ W0 := List.mem_of_getElem? (i := 108) rfl
set_option maxRecDepth 100000 in
theorem wd_109 : (.instantiable RXC 2 : Cond) ∈ W0 := List.mem_of_getElem? (i := 109) rfl
set_option maxRecDepth 100000 in
theorem wd_110 : (.methodLink RXF 36 yXC_init : Cond) ∈ W0 := List.mem_of_getElem? (i := 110) rfl
set_option maxRecDepth 100000 in
theorem wd_111 : (.instanceMethod yXC_init : Cond) ∈ W0 := List.mem_of_getElem? (i := 111) rfl
set_option maxRecDepth 100000 in
theorem wd_112 : (.code yXC_init cXC_init 2 none : Cond) ∈ W0 := List.mem_of_getElem? (i := 112) rfl
set_option maxRecDepth 100000 in
theorem wd_113 : (.methodLink RXC 1 objectInit : Cond) ∈ W0 := List.mem_of_getElem? (i := 113) rfl
set_option maxRecDepth 100000 in
theorem wd_114 : (.methodLink RXC 13 yXG_size : Cond) ∈ W0 := List.mem_of_getElem? (i := 114) rfl
set_option maxRecDepth 100000 in
theorem wd_115 : (.fieldLink RXC 7 "SplitForest$Choice" "graph" "LSplitForest$Graph;" : Cond) ∈ W0 := List.mem_of_getElem? (i := 115) rfl
set_option maxRecDepth 100000 in
theorem wd_116 : (.fieldLink RXC 19 "SplitForest$Choice" "fewest" "[I" : Cond) ∈ W0 := List.mem_of_getElem? (i := 116) rfl
set_option maxRecDepth 100000 in
theorem wd_117 : (.laysFinal RXC "SplitForest$Choice" "graph" "LSplitForest$Graph;" : Cond) ∈ W0 := List.mem_of_getElem? (i := 117) rfl
set_option maxRecDepth 100000 in
theorem wd_118 : (.laysFinal RXC "SplitForest$Choice" "fewest" "[I" : Cond) ∈ W0 := List.mem_of_getElem? (i := 118) rfl
set_option maxRecDepth 100000 in
theorem wd_119 : (.fieldLink RXF 14 "SplitForest" "graph" "LSplitForest$Graph;" : Cond) ∈ W0 := List.mem_of_getElem? (i := 119) rfl
set_option maxRecDepth 100000 in
theorem wd_120 : (.fieldLink RXF 23 "SplitForest" "tree" "LSplitForest$SplitTree;" : Cond) ∈ W0 := List.mem_of_getElem? (i := 120) rfl
set_option maxRecDepth 100000 in
theorem wd_121 : (.fieldLink RXF 30 "SplitForest" "elimination" "LSplitForest$Elimination;" : Cond) ∈ W0 := List.mem_of_getElem? (i := 121) rfl
set_option maxRecDepth 100000 in
theorem wd_122 : (.fieldLink RXF 37 "SplitForest" "choice" "LSplitForest$Choice;" : Cond) ∈ W0 := List.mem_of_getElem? (i := 122) rfl
set_option maxRecDepth 100000 in
theorem wd_123 : (.laysFinal RXF "SplitForest" "graph" "LSplitForest$Graph;" : Cond) ∈ W0 := List.mem_of_getElem? (i := 123) rfl
set_option maxRecDepth 100000 in
theorem wd_124 : (.laysFinal RXF "SplitForest" "tree" "LSplitForest$SplitTree;" : Cond) ∈ W0 := List.mem_of_getElem? (i := 124) rfl
set_option maxRecDepth 100000 in
theorem wd_125 : (.laysFinal RXF "SplitForest" "elimination" "LSplitForest$Elimination;" : Cond) ∈ W0 := List.mem_of_getElem? (i := 125) rfl
set_option maxRecDepth 100000 in
theorem wd_126 : (.laysFinal RXF "SplitForest" "choice" "LSplitForest$Choice;" : Cond) ∈ W0 := List.mem_of_getElem? (i := 126) rfl
set_option maxRecDepth 100000 in
theorem wd_127 : (.methodLink RXL 21 yXF_vertices : Cond) ∈ W0 := List.mem_of_getElem? (i := 127) rfl
set_option maxRecDepth 100000 in
theorem wd_128 : (.instanceMethod yXF_vertices : Cond) ∈ W0 := List.mem_of_getElem? (i := 128) rfl
set_option maxRecDepth 100000 in
theorem wd_129 : (.selects RXF yXF_vertices yXF_vertices : Cond) ∈ W0 := List.mem_of_getElem? (i := 129) rfl
set_option maxRecDepth 100000 in
theorem wd_130 : (.code yXF_vertices cXF_vertices 1 (some .int) : Cond) ∈ W0 := List.mem_of_getElem? (i := 130) rfl
set_option maxRecDepth 100000 in
theorem wd_131 : (.methodLink RXF 41 yXG_size : Cond) ∈ W0 := List.mem_of_getElem? (i := 131) rfl
set_option maxRecDepth 100000 in
theorem wd_132 : (.methodLink RXL 26 yXF_flip : Cond) ∈ W0 := List.mem_of_getElem? (i := 132) rfl
set_option maxRecDepth 100000 in
theorem wd_133 : (.instanceMethod yXF_flip : Cond) ∈ W0 := List.mem_of_getElem? (i := 133) rfl
set_option maxRecDepth 100000 in
theorem wd_134 : (.selects RXF yXF_flip yXF_flip : Cond) ∈ W0 := List.mem_of_getElem? (i := 134) rfl
set_option maxRecDepth 100000 in
theorem wd_135 : (.code yXF_flip cXF_flip 3 (some .boolean) : Cond) ∈ W0 := List.mem_of_getElem? (i := 135) rfl
set_option maxRecDepth 100000 in
theorem wd_136 : (.methodLink RXF 45 yXG_has : Cond) ∈ W0 := List.mem_of_getElem? (i := 136) rfl
set_option maxRecDepth 100000 in
theorem wd_137 : (.instanceMethod yXG_has : Cond) ∈ W0 := List.mem_of_getElem? (i := 137) rfl
set_option maxRecDepth 100000 in
theorem wd_138 : (.selects RXG yXG_has yXG_has : Cond) ∈ W0 := List.mem_of_getElem? (i := 138) rfl
set_option maxRecDepth 100000 in
theorem wd_139 : (.code yXG_has cXG_has 2 (some .boolean) : Cond) ∈ W0 := List.mem_of_getElem? (i := 139) rfl
set_option maxRecDepth 100000 in
theorem wd_140 : (.methodLink RXF 49 yXG_toggle : Cond) ∈ W0 := List.mem_of_getElem? (i := 140) rfl
set_option maxRecDepth 100000 in
theorem wd_141 : (.instanceMethod yXG_toggle : Cond) ∈ W0 := List.mem_of_getElem? (i := 141) rfl
set_option maxRecDepth 100000 in
theorem wd_142 : (.selects RXG yXG_toggle yXG_toggle : Cond) ∈ W0 := List.mem_of_getElem? (i := 142) rfl
set_option maxRecDepth 100000 in
theorem wd_143 : (.code yXG_toggle cXG_toggle 3 none : Cond) ∈ W0 := List.mem_of_getElem? (i := 143) rfl
set_option maxRecDepth 100000 in
theorem wd_144 : (.methodLink RXF 53 yXT_forget : Cond) ∈ W0 := List.mem_of_getElem? (i := 144) rfl
set_option maxRecDepth 100000 in
theorem wd_145 : (.instanceMethod yXT_forget : Cond) ∈ W0 := List.mem_of_getElem? (i := 145) rfl
set_option maxRecDepth 100000 in
theorem wd_146 : (.selects RXT yXT_forget yXT_forget : Cond) ∈ W0 := List.mem_of_getElem? (i := 146) rfl
set_option maxRecDepth 100000 in
theorem wd_147 : (.code yXT_forget cXT_forget 1 none : Cond) ∈ W0 := List.mem_of_getElem? (i := 147) rfl
set_option maxRecDepth 100000 in
theorem wd_148 : (.methodLink RXF 56 yXG_edge : Cond) ∈ W0 := List.mem_of_getElem? (i := 148) rfl
set_option maxRecDepth 100000 in
theorem wd_149 : (.instanceMethod yXG_edge : Cond) ∈ W0 := List.mem_of_getElem? (i := 149) rfl
set_option maxRecDepth 100000 in
theorem wd_150 : (.selects RXG yXG_edge yXG_edge : Cond) ∈ W0 := List.mem_of_getElem? (i := 150) rfl
set_option maxRecDepth 100000 in
theorem wd_151 : (.code yXG_edge cXG_edge 3 (some .boolean) : Cond) ∈ W0 := List.mem_of_getElem? (i := 151) rfl
set_option maxRecDepth 100000 in
theorem wd_152 : (.static yXF_contains : Cond) ∈ W0 := List.mem_of_getElem? (i := 152) rfl
set_option maxRecDepth 100000 in
theorem wd_153 : (.code yXF_contains cXF_contains 2 (some .boolean) : Cond) ∈ W0 := List.mem_of_getElem? (i := 153) rfl
set_option maxRecDepth 100000 in
theorem wd_154 : (.methodLink RXL 31 yXF_neighbours : Cond) ∈ W0 := List.mem_of_getElem? (i := 154) rfl
set_option maxRecDepth 100000 in
theorem wd_155 : (.instanceMethod yXF_neighbours : Cond) ∈ W0 := List.mem_of_getElem? (i := 155) rfl
set_option maxRecDepth 100000 in
theorem wd_156 : (.selects RXF yXF_neighbours yXF_neighbours : Cond) ∈ W0 := List.mem_of_getElem? (i := 156) rfl
set_option maxRecDepth 100000 in
theorem wd_157 : (.code yXF_neighbours cXF_neighbours 3 (some .boolean) : Cond) ∈ W0 := List.mem_of_getElem? (i := 157) rfl
set_option maxRecDepth 100000 in
theorem wd_158 : (.methodLink RXL 35 yXF_component : Cond) ∈ W0 := List.mem_of_getElem? (i := 158) rfl
set_option maxRecDepth 100000 in
theorem wd_159 : (.instanceMethod yXF_component : Cond) ∈ W0 := List.mem_of_getElem? (i := 159) rfl
set_option maxRecDepth 100000 in
theorem wd_160 : (.selects RXF yXF_component yXF_component : Cond) ∈ W0 := List.mem_of_getElem? (i := 160) rfl
set_option maxRecDepth 100000 in
theorem wd_161 : (.code yXF_component cXF_component 2 (some .int) : Cond) ∈ W0 := List.mem_of_getElem? (i := 161) rfl
set_option maxRecDepth 100000 in
theorem wd_162 : (.methodLink RXF 60 yXF_componentOf : Cond) ∈ W0 := List.mem_of_getElem? (i := 162) rfl
set_option maxRecDepth 100000 in
theorem wd_163 : (.instanceMethod yXF_componentOf : Cond) ∈ W0 := List.mem_of_getElem? (i := 163) rfl
set_option maxRecDepth 100000 in
theorem wd_164 : (.code yXF_componentOf cXF_componentOf 2 (some .int) : Cond) ∈ W0 := List.mem_of_getElem? (i := 164) rfl
set_option maxRecDepth 100000 in
theorem wd_165 : (.methodLink RXF 128 yXG_all : Cond) ∈ W0 := List.mem_of_getElem? (i := 165) rfl
set_option maxRecDepth 100000 in
theorem wd_166 : (.instanceMethod yXG_all : Cond) ∈ W0 := List.mem_of_getElem? (i := 166) rfl
set_option maxRecDepth 100000 in
theorem wd_167 : (.selects RXG yXG_all yXG_all : Cond) ∈ W0 := List.mem_of_getElem? (i := 167) rfl
set_option maxRecDepth 100000 in
theorem wd_168 : (.code yXG_all cXG_all 1 (some .int) : Cond) ∈ W0 := List.mem_of_getElem? (i := 168) rfl
set_option maxRecDepth 100000 in
theorem wd_169 : (.methodLink RXF 131 yXG_reached : Cond) ∈ W0 := List.mem_of_getElem? (i := 169) rfl
set_option maxRecDepth 100000 in
theorem wd_170 : (.instanceMethod yXG_reached : Cond) ∈ W0 := List.mem_of_getElem? (i := 170) rfl
set_option maxRecDepth 100000 in
theorem wd_171 : (.selects RXG yXG_reached yXG_reached : Cond) ∈ W0 := List.mem_of_getElem? (i := 171) rfl
set_option maxRecDepth 100000 in
theorem wd_172 : (.code yXG_reached cXG_reached 6 (some .int) : Cond) ∈ W0 := List.mem_of_getElem? (i := 172) rfl
set_option maxRecDepth 100000 in
theorem wd_173 : (.methodLink RXG 23 yXG_nearToAny : Cond) ∈ W0 := List.mem_of_getElem? (i := 173) rfl
set_option maxRecDepth 100000 in
theorem wd_174 : (.instanceMethod yXG_nearToAny : Cond) ∈ W0 := List.mem_of_getElem? (i := 174) rfl
set_option maxRecDepth 100000 in
theorem wd_175 : (.code yXG_nearToAny cXG_nearToAny 5 (some .int) : Cond) ∈ W0 := List.mem_of_getElem? (i := 175) rfl
set_option maxRecDepth 100000 in
theorem wd_176 : (.methodLink RXL 40 yXF_splits : Cond) ∈ W0 := List.mem_of_getElem? (i := 176) rfl
set_option maxRecDepth 100000 in
theorem wd_177 : (.instanceMethod yXF_splits : Cond) ∈ W0 := List.mem_of_getElem? (i := 177) rfl
set_option maxRecDepth 100000 in
theorem wd_178 : (.selects RXF yXF_splits yXF_splits : Cond) ∈ W0 := List.mem_of_getElem? (i := 178) rfl
set_option maxRecDepth 100000 in
theorem wd_179 : (.code yXF_splits cXF_splits 2 (some .int) : Cond) ∈ W0 := List.mem_of_getElem? (i := 179) rfl
set_option maxRecDepth 100000 in
theorem wd_180 : (.methodLink RXF 64 yXF_treeOf : Cond) ∈ W0 := List.mem_of_getElem? (i := 180) rfl
set_option maxRecDepth 100000 in
theorem wd_181 : (.instanceMethod yXF_treeOf : Cond) ∈ W0 := List.mem_of_getElem? (i := 181) rfl
set_option maxRecDepth 100000 in
theorem wd_182 : (.code yXF_treeOf cXF_treeOf 2 (some (.object "SplitForest$SplitTree")) : Cond) ∈ W0 := List.mem_of_getElem? (i := 182) rfl
set_option maxRecDepth 100000 in
theorem wd_183 : (.methodLink RXF 134 yXT_growFor : Cond) ∈ W0 := List.mem_of_getElem? (i := 183) rfl
set_option maxRecDepth 100000 in
theorem wd_184 : (.instanceMethod yXT_growFor : Cond) ∈ W0 := List.mem_of_getElem? (i := 184) rfl
set_option maxRecDepth 100000 in
theorem wd_185 : (.selects RXT yXT_growFor yXT_growFor : Cond) ∈ W0 := List.mem_of_getElem? (i := 185) rfl
set_option maxRecDepth 100000 in
theorem wd_186 : (.code yXT_growFor cXT_growFor 2 none : Cond) ∈ W0 := List.mem_of_getElem? (i := 186) rfl
set_option maxRecDepth 100000 in
theorem wd_187 : (.methodLink RXT 38 yXT_findSplits : Cond) ∈ W0 := List.mem_of_getElem? (i := 187) rfl
set_option maxRecDepth 100000 in
theorem wd_188 : (.instanceMethod yXT_findSplits : Cond) ∈ W0 := List.mem_of_getElem? (i := 188) rfl
set_option maxRecDepth 100000 in
theorem wd_189 : (.code yXT_findSplits cXT_findSplits 3 none : Cond) ∈ W0 := List.mem_of_getElem? (i := 189) rfl
set_option maxRecDepth 100000 in
theorem wd_190 : (.methodLink RXT 78 yXT_isSplit : Cond) ∈ W0 := List.mem_of_getElem? (i := 190) rfl
set_option maxRecDepth 100000 in
theorem wd_191 : (.instanceMethod yXT_isSplit : Cond) ∈ W0 := List.mem_of_getElem? (i := 191) rfl
set_option maxRecDepth 100000 in
theorem wd_192 : (.code yXT_isSplit cXT_isSplit 6 (some .boolean) : Cond) ∈ W0 := List.mem_of_getElem? (i := 192) rfl
set_option maxRecDepth 100000 in
theorem wd_193 : (.methodLink RXT 81 yXJ_bitCount : Cond) ∈ W0 := List.mem_of_getElem? (i := 193) rfl
set_option maxRecDepth 100000 in
theorem wd_194 : (.static yXJ_bitCount : Cond) ∈ W0 := List.mem_of_getElem? (i := 194) rfl
set_option maxRecDepth 100000 in
theorem wd_195 : (.code yXJ_bitCount cXJ_bitCount 1 (some .int) : Cond) ∈ W0 := List.mem_of_getElem? (i := 195) rfl
set_option maxRecDepth 100000 in
theorem wd_196 : (.constant RXJ 265 1431655765 : Cond) ∈ W0 := List.mem_of_getElem? (i := 196) rfl
set_option maxRecDepth 100000 in
theorem wd_197 : (.constant RXJ 266 858993459 : Cond) ∈ W0 := List.mem_of_getElem? (i := 197) rfl
set_option maxRecDepth 100000 in
theorem wd_198 : (.constant RXJ 267 252645135 : Cond) ∈ W0 := List.mem_of_getElem? (i := 198) rfl
set_option maxRecDepth 100000 in
theorem wd_199 : (.methodLink RXT 89 yXG_nearInside : Cond) ∈ W0 := List.mem_of_getElem? (i := 199) rfl
set_option maxRecDepth 100000 in
theorem wd_200 : (.instanceMethod yXG_nearInside : Cond) ∈ W0 := List.mem_of_getElem? (i := 200) rfl
set_option maxRecDepth 100000 in
theorem wd_201 : (.selects RXG yXG_nearInside yXG_nearInside : Cond) ∈ W0 := List.mem_of_getElem? (i := 201) rfl
set_option maxRecDepth 100000 in
theorem wd_202 : (.code yXG_nearInside cXG_nearInside 3 (some .int) : Cond) ∈ W0 := List.mem_of_getElem? (i := 202) rfl
set_option maxRecDepth 100000 in
theorem wd_203 : (.methodLink RXT 41 yXT_findNodes : Cond) ∈ W0 := List.mem_of_getElem? (i := 203) rfl
set_option maxRecDepth 100000 in
theorem wd_204 : (.instanceMethod yXT_findNodes : Cond) ∈ W0 := List.mem_of_getElem? (i := 204) rfl
set_option maxRecDepth 100000 in
theorem wd_205 : (.code yXT_findNodes cXT_findNodes 2 none : Cond) ∈ W0 := List.mem_of_getElem? (i := 205) rfl
set_option maxRecDepth 100000 in
theorem wd_206 : (.methodLink RXT 92 yXT_isStrong : Cond) ∈ W0 := List.mem_of_getElem? (i := 206) rfl
set_option maxRecDepth 100000 in
theorem wd_207 : (.instanceMethod yXT_isStrong : Cond) ∈ W0 := List.mem_of_getElem? (i := 207) rfl
set_option maxRecDepth 100000 in
theorem wd_208 : (.code yXT_isStrong cXT_isStrong 4 (some .boolean) : Cond) ∈ W0 := List.mem_of_getElem? (i := 208) rfl
set_option maxRecDepth 100000 in
theorem wd_209 : (.methodLink RXF 68 yXT_splitCount : Cond) ∈ W0 := List.mem_of_getElem? (i := 209) rfl
set_option maxRecDepth 100000 in
theorem wd_210 : (.instanceMethod yXT_splitCount : Cond) ∈ W0 := List.mem_of_getElem? (i := 210) rfl
set_option maxRecDepth 100000 in
theorem wd_211 : (.selects RXT yXT_splitCount yXT_splitCount : Cond) ∈ W0 := List.mem_of_getElem? (i := 211) rfl
set_option maxRecDepth 100000 in
theorem wd_212 : (.code yXT_splitCount cXT_splitCount 1 (some .int) : Cond) ∈ W0 := List.mem_of_getElem? (i := 212) rfl
set_option maxRecDepth 100000 in
theorem wd_213 : (.methodLink RXL 44 yXF_strong : Cond) ∈ W0 := List.mem_of_getElem? (i := 213) rfl
set_option maxRecDepth 100000 in
theorem wd_214 : (.instanceMethod yXF_strong : Cond) ∈ W0 := List.mem_of_getElem? (i := 214) rfl
set_option maxRecDepth 100000 in
theorem wd_215 : (.selects RXF yXF_strong yXF_strong : Cond) ∈ W0 := List.mem_of_getElem? (i := 215) rfl
set_option maxRecDepth 100000 in
theorem wd_216 : (.code yXF_strong cXF_strong 2 (some .int) : Cond) ∈ W0 := List.mem_of_getElem? (i := 216) rfl
set_option maxRecDepth 100000 in
theorem wd_217 : (.methodLink RXF 71 yXT_nodeCount : Cond) ∈ W0 := List.mem_of_getElem? (i := 217) rfl
set_option maxRecDepth 100000 in
theorem wd_218 : (.instanceMethod yXT_nodeCount : Cond) ∈ W0 := List.mem_of_getElem? (i := 218) rfl
set_option maxRecDepth 100000 in
theorem wd_219 : (.selects RXT yXT_nodeCount yXT_nodeCount : Cond) ∈ W0 := List.mem_of_getElem? (i := 219) rfl
set_option maxRecDepth 100000 in
theorem wd_220 : (.code yXT_nodeCount cXT_nodeCount 1 (some .int) : Cond) ∈ W0 := List.mem_of_getElem? (i := 220) rfl
set_option maxRecDepth 100000 in
theorem wd_221 : (.methodLink RXL 48 yXF_set : Cond) ∈ W0 := List.mem_of_getElem? (i := 221) rfl
set_option maxRecDepth 100000 in
theorem wd_222 : (.instanceMethod yXF_set : Cond) ∈ W0 := List.mem_of_getElem? (i := 222) rfl
set_option maxRecDepth 100000 in
theorem wd_223 : (.selects RXF yXF_set yXF_set : Cond) ∈ W0 := List.mem_of_getElem? (i := 223) rfl
set_option maxRecDepth 100000 in
theorem wd_224 : (.code yXF_set cXF_set 3 (some .int) : Cond) ∈ W0 := List.mem_of_getElem? (i := 224) rfl
set_option maxRecDepth 100000 in
theorem wd_225 : (.methodLink RXF 74 yXF_hasNode : Cond) ∈ W0 := List.mem_of_getElem? (i := 225) rfl
set_option maxRecDepth 100000 in
theorem wd_226 : (.instanceMethod yXF_hasNode : Cond) ∈ W0 := List.mem_of_getElem? (i := 226) rfl
set_option maxRecDepth 100000 in
theorem wd_227 : (.code yXF_hasNode cXF_hasNode 3 (some .boolean) : Cond) ∈ W0 := List.mem_of_getElem? (i := 227) rfl
set_option maxRecDepth 100000 in
theorem wd_228 : (.methodLink RXF 77 yXT_nodeSet : Cond) ∈ W0 := List.mem_of_getElem? (i := 228) rfl
set_option maxRecDepth 100000 in
theorem wd_229 : (.instanceMethod yXT_nodeSet : Cond) ∈ W0 := List.mem_of_getElem? (i := 229) rfl
set_option maxRecDepth 100000 in
theorem wd_230 : (.selects RXT yXT_nodeSet yXT_nodeSet : Cond) ∈ W0 := List.mem_of_getElem? (i := 230) rfl
set_option maxRecDepth 100000 in
theorem wd_231 : (.code yXT_nodeSet cXT_nodeSet 2 (some .int) : Cond) ∈ W0 := List.mem_of_getElem? (i := 231) rfl
set_option maxRecDepth 100000 in
theorem wd_232 : (.methodLink RXL 53 yXF_kind : Cond) ∈ W0 := List.mem_of_getElem? (i := 232) rfl
set_option maxRecDepth 100000 in
theorem wd_233 : (.instanceMethod yXF_kind : Cond) ∈ W0 := List.mem_of_getElem? (i := 233) rfl
set_option maxRecDepth 100000 in
theorem wd_234 : (.selects RXF yXF_kind yXF_kind : Cond) ∈ W0 := List.mem_of_getElem? (i := 234) rfl
set_option maxRecDepth 100000 in
theorem wd_235 : (.code yXF_kind cXF_kind 3 (some .int) : Cond) ∈ W0 := List.mem_of_getElem? (i := 235) rfl
set_option maxRecDepth 100000 in
theorem wd_236 : (.methodLink RXF 80 yXT_nodeKind : Cond) ∈ W0 := List.mem_of_getElem? (i := 236) rfl
set_option maxRecDepth 100000 in
theorem wd_237 : (.instanceMethod yXT_nodeKind : Cond) ∈ W0 := List.mem_of_getElem? (i := 237) rfl
set_option maxRecDepth 100000 in
theorem wd_238 : (.selects RXT yXT_nodeKind yXT_nodeKind : Cond) ∈ W0 := List.mem_of_getElem? (i := 238) rfl
set_option maxRecDepth 100000 in
theorem wd_239 : (.code yXT_nodeKind cXT_nodeKind 2 (some .int) : Cond) ∈ W0 := List.mem_of_getElem? (i := 239) rfl
set_option maxRecDepth 100000 in
theorem wd_240 : (.methodLink RXT 57 yXT_findJoins : Cond) ∈ W0 := List.mem_of_getElem? (i := 240) rfl
set_option maxRecDepth 100000 in
theorem wd_241 : (.instanceMethod yXT_findJoins : Cond) ∈ W0 := List.mem_of_getElem? (i := 241) rfl
set_option maxRecDepth 100000 in
theorem wd_242 : (.code yXT_findJoins cXT_findJoins 4 none : Cond) ∈ W0 := List.mem_of_getElem? (i := 242) rfl
set_option maxRecDepth 100000 in
theorem wd_243 : (.methodLink RXT 50 yXT_findParts : Cond) ∈ W0 := List.mem_of_getElem? (i := 243) rfl
set_option maxRecDepth 100000 in
theorem wd_244 : (.instanceMethod yXT_findParts : Cond) ∈ W0 := List.mem_of_getElem? (i := 244) rfl
set_option maxRecDepth 100000 in
theorem wd_245 : (.code yXT_findParts cXT_findParts 5 none : Cond) ∈ W0 := List.mem_of_getElem? (i := 245) rfl
set_option maxRecDepth 100000 in
theorem wd_246 : (.methodLink RXT 70 yXT_partWith : Cond) ∈ W0 := List.mem_of_getElem? (i := 246) rfl
set_option maxRecDepth 100000 in
theorem wd_247 : (.instanceMethod yXT_partWith : Cond) ∈ W0 := List.mem_of_getElem? (i := 247) rfl
set_option maxRecDepth 100000 in
theorem wd_248 : (.code yXT_partWith cXT_partWith 7 (some .int) : Cond) ∈ W0 := List.mem_of_getElem? (i := 248) rfl
set_option maxRecDepth 100000 in
theorem wd_249 : (.methodLink RXT 96 yXT_addPart : Cond) ∈ W0 := List.mem_of_getElem? (i := 249) rfl
set_option maxRecDepth 100000 in
theorem wd_250 : (.instanceMethod yXT_addPart : Cond) ∈ W0 := List.mem_of_getElem? (i := 250) rfl
set_option maxRecDepth 100000 in
theorem wd_251 : (.code yXT_addPart cXT_addPart 3 none : Cond) ∈ W0 := List.mem_of_getElem? (i := 251) rfl
set_option maxRecDepth 100000 in
theorem wd_252 : (.methodLink RXT 74 yXG_joined : Cond) ∈ W0 := List.mem_of_getElem? (i := 252) rfl
set_option maxRecDepth 100000 in
theorem wd_253 : (.instanceMethod yXG_joined : Cond) ∈ W0 := List.mem_of_getElem? (i := 253) rfl
set_option maxRecDepth 100000 in
theorem wd_254 : (.selects RXG yXG_joined yXG_joined : Cond) ∈ W0 := List.mem_of_getElem? (i := 254) rfl
set_option maxRecDepth 100000 in
theorem wd_255 : (.code yXG_joined cXG_joined 3 (some .boolean) : Cond) ∈ W0 := List.mem_of_getElem? (i := 255) rfl
set_option maxRecDepth 100000 in
theorem wd_256 : (.methodLink RXT 63 yXT_centreIndex : Cond) ∈ W0 := List.mem_of_getElem? (i := 256) rfl
set_option maxRecDepth 100000 in
theorem wd_257 : (.instanceMethod yXT_centreIndex : Cond) ∈ W0 := List.mem_of_getElem? (i := 257) rfl
set_option maxRecDepth 100000 in
theorem wd_258 : (.code yXT_centreIndex cXT_centreIndex 2 (some .int) : Cond) ∈ W0 := List.mem_of_getElem? (i := 258) rfl
set_option maxRecDepth 100000 in
theorem wd_259 : (.methodLink RXL 57 yXF_parts : Cond) ∈ W0 := List.mem_of_getElem? (i := 259) rfl
set_option maxRecDepth 100000 in
theorem wd_260 : (.instanceMethod yXF_parts : Cond) ∈ W0 := List.mem_of_getElem? (i := 260) rfl
set_option maxRecDepth 100000 in
theorem wd_261 : (.selects RXF yXF_parts yXF_parts : Cond) ∈ W0 := List.mem_of_getElem? (i := 261) rfl
set_option maxRecDepth 100000 in
theorem wd_262 : (.code yXF_parts cXF_parts 3 (some .int) : Cond) ∈ W0 := List.mem_of_getElem? (i := 262) rfl
set_option maxRecDepth 100000 in
theorem wd_263 : (.methodLink RXF 83 yXT_partCount : Cond) ∈ W0 := List.mem_of_getElem? (i := 263) rfl
set_option maxRecDepth 100000 in
theorem wd_264 : (.instanceMethod yXT_partCount : Cond) ∈ W0 := List.mem_of_getElem? (i := 264) rfl
set_option maxRecDepth 100000 in
theorem wd_265 : (.selects RXT yXT_partCount yXT_partCount : Cond) ∈ W0 := List.mem_of_getElem? (i := 265) rfl
set_option maxRecDepth 100000 in
theorem wd_266 : (.code yXT_partCount cXT_partCount 2 (some .int) : Cond) ∈ W0 := List.mem_of_getElem? (i := 266) rfl
set_option maxRecDepth 100000 in
theorem wd_267 : (.methodLink RXL 61 yXF_part : Cond) ∈ W0 := List.mem_of_getElem? (i := 267) rfl
set_option maxRecDepth 100000 in
theorem wd_268 : (.instanceMethod yXF_part : Cond) ∈ W0 := List.mem_of_getElem? (i := 268) rfl
set_option maxRecDepth 100000 in
theorem wd_269 : (.selects RXF yXF_part yXF_part : Cond) ∈ W0 := List.mem_of_getElem? (i := 269) rfl
set_option maxRecDepth 100000 in
theorem wd_270 : (.code yXF_part cXF_part 4 (some .int) : Cond) ∈ W0 := List.mem_of_getElem? (i := 270) rfl
set_option maxRecDepth 100000 in
theorem wd_271 : (.methodLink RXF 86 yXT_partSet : Cond) ∈ W0 := List.mem_of_getElem? (i := 271) rfl
set_option maxRecDepth 100000 in
theorem wd_272 : (.instanceMethod yXT_partSet : Cond) ∈ W0 := List.mem_of_getElem? (i := 272) rfl
set_option maxRecDepth 100000 in
theorem wd_273 : (.selects RXT yXT_partSet yXT_partSet : Cond) ∈ W0 := List.mem_of_getElem? (i := 273) rfl
set_option maxRecDepth 100000 in
theorem wd_274 : (.code yXT_partSet cXT_partSet 3 (some .int) : Cond) ∈ W0 := List.mem_of_getElem? (i := 274) rfl
set_option maxRecDepth 100000 in
theorem wd_275 : (.methodLink RXL 66 yXF_centre : Cond) ∈ W0 := List.mem_of_getElem? (i := 275) rfl
set_option maxRecDepth 100000 in
theorem wd_276 : (.instanceMethod yXF_centre : Cond) ∈ W0 := List.mem_of_getElem? (i := 276) rfl
set_option maxRecDepth 100000 in
theorem wd_277 : (.selects RXF yXF_centre yXF_centre : Cond) ∈ W0 := List.mem_of_getElem? (i := 277) rfl
set_option maxRecDepth 100000 in
theorem wd_278 : (.code yXF_centre cXF_centre 3 (some .int) : Cond) ∈ W0 := List.mem_of_getElem? (i := 278) rfl
set_option maxRecDepth 100000 in
theorem wd_279 : (.methodLink RXF 90 yXT_centreSet : Cond) ∈ W0 := List.mem_of_getElem? (i := 279) rfl
set_option maxRecDepth 100000 in
theorem wd_280 : (.instanceMethod yXT_centreSet : Cond) ∈ W0 := List.mem_of_getElem? (i := 280) rfl
set_option maxRecDepth 100000 in
theorem wd_281 : (.selects RXT yXT_centreSet yXT_centreSet : Cond) ∈ W0 := List.mem_of_getElem? (i := 281) rfl
set_option maxRecDepth 100000 in
theorem wd_282 : (.code yXT_centreSet cXT_centreSet 2 (some .int) : Cond) ∈ W0 := List.mem_of_getElem? (i := 282) rfl
set_option maxRecDepth 100000 in
theorem wd_283 : (.methodLink RXT 66 yXT_nodeKind : Cond) ∈ W0 := List.mem_of_getElem? (i := 283) rfl
set_option maxRecDepth 100000 in
theorem wd_284 : (.methodLink RXL 70 yXF_linked : Cond) ∈ W0 := List.mem_of_getElem? (i := 284) rfl
set_option maxRecDepth 100000 in
theorem wd_285 : (.instanceMethod yXF_linked : Cond) ∈ W0 := List.mem_of_getElem? (i := 285) rfl
set_option maxRecDepth 100000 in
theorem wd_286 : (.selects RXF yXF_linked yXF_linked : Cond) ∈ W0 := List.mem_of_getElem? (i := 286) rfl
set_option maxRecDepth 100000 in
theorem wd_287 : (.code yXF_linked cXF_linked 3 (some .boolean) : Cond) ∈ W0 := List.mem_of_getElem? (i := 287) rfl
set_option maxRecDepth 100000 in
theorem wd_288 : (.methodLink RXF 93 yXF_contains : Cond) ∈ W0 := List.mem_of_getElem? (i := 288) rfl
set_option maxRecDepth 100000 in
theorem wd_289 : (.methodLink RXF 96 yXT_links : Cond) ∈ W0 := List.mem_of_getElem? (i := 289) rfl
set_option maxRecDepth 100000 in
theorem wd_290 : (.instanceMethod yXT_links : Cond) ∈ W0 := List.mem_of_getElem? (i := 290) rfl
set_option maxRecDepth 100000 in
theorem wd_291 : (.selects RXT yXT_links yXT_links : Cond) ∈ W0 := List.mem_of_getElem? (i := 291) rfl
set_option maxRecDepth 100000 in
theorem wd_292 : (.code yXT_links cXT_links 6 (some .boolean) : Cond) ∈ W0 := List.mem_of_getElem? (i := 292) rfl
set_option maxRecDepth 100000 in
theorem wd_293 : (.methodLink RXL 74 yXF_hereditary : Cond) ∈ W0 := List.mem_of_getElem? (i := 293) rfl
set_option maxRecDepth 100000 in
theorem wd_294 : (.instanceMethod yXF_hereditary : Cond) ∈ W0 := List.mem_of_getElem? (i := 294) rfl
set_option maxRecDepth 100000 in
theorem wd_295 : (.selects RXF yXF_hereditary yXF_hereditary : Cond) ∈ W0 := List.mem_of_getElem? (i := 295) rfl
set_option maxRecDepth 100000 in
theorem wd_296 : (.code yXF_hereditary cXF_hereditary 2 (some .boolean) : Cond) ∈ W0 := List.mem_of_getElem? (i := 296) rfl
set_option maxRecDepth 100000 in
theorem wd_297 : (.methodLink RXF 99 yXE_clears : Cond) ∈ W0 := List.mem_of_getElem? (i := 297) rfl
set_option maxRecDepth 100000 in
theorem wd_298 : (.instanceMethod yXE_clears : Cond) ∈ W0 := List.mem_of_getElem? (i := 298) rfl
set_option maxRecDepth 100000 in
theorem wd_299 : (.selects RXE yXE_clears yXE_clears : Cond) ∈ W0 := List.mem_of_getElem? (i := 299) rfl
set_option maxRecDepth 100000 in
theorem wd_300 : (.code yXE_clears cXE_clears 5 (some .boolean) : Cond) ∈ W0 := List.mem_of_getElem? (i := 300) rfl
set_option maxRecDepth 100000 in
theorem wd_301 : (.methodLink RXE 37 yXG_reached : Cond) ∈ W0 := List.mem_of_getElem? (i := 301) rfl
set_option maxRecDepth 100000 in
theorem wd_302 : (.methodLink RXE 25 yXE_run : Cond) ∈ W0 := List.mem_of_getElem? (i := 302) rfl
set_option maxRecDepth 100000 in
theorem wd_303 : (.instanceMethod yXE_run : Cond) ∈ W0 := List.mem_of_getElem? (i := 303) rfl
set_option maxRecDepth 100000 in
theorem wd_304 : (.code yXE_run cXE_run 3 none : Cond) ∈ W0 := List.mem_of_getElem? (i := 304) rfl
set_option maxRecDepth 100000 in
theorem wd_305 : (.methodLink RXE 54 yXE_nextStep : Cond) ∈ W0 := List.mem_of_getElem? (i := 305) rfl
set_option maxRecDepth 100000 in
theorem wd_306 : (.instanceMethod yXE_nextStep : Cond) ∈ W0 := List.mem_of_getElem? (i := 306) rfl
set_option maxRecDepth 100000 in
theorem wd_307 : (.code yXE_nextStep cXE_nextStep 3 (some .int) : Cond) ∈ W0 := List.mem_of_getElem? (i := 307) rfl
set_option maxRecDepth 100000 in
theorem wd_308 : (.methodLink RXE 57 yXE_stepAt : Cond) ∈ W0 := List.mem_of_getElem? (i := 308) rfl
set_option maxRecDepth 100000 in
theorem wd_309 : (.instanceMethod yXE_stepAt : Cond) ∈ W0 := List.mem_of_getElem? (i := 309) rfl
set_option maxRecDepth 100000 in
theorem wd_310 : (.code yXE_stepAt cXE_stepAt 6 (some .int) : Cond) ∈ W0 := List.mem_of_getElem? (i := 310) rfl
set_option maxRecDepth 100000 in
theorem wd_311 : (.methodLink RXE 60 yXG_nearInside : Cond) ∈ W0 := List.mem_of_getElem? (i := 311) rfl
set_option maxRecDepth 100000 in
theorem wd_312 : (.methodLink RXE 44 yXJ_bitCount : Cond) ∈ W0 := List.mem_of_getElem? (i := 312) rfl
set_option maxRecDepth 100000 in
theorem wd_313 : (.methodLink RXE 63 yXG_areTwins : Cond) ∈ W0 := List.mem_of_getElem? (i := 313) rfl
set_option maxRecDepth 100000 in
theorem wd_314 : (.instanceMethod yXG_areTwins : Cond) ∈ W0 := List.mem_of_getElem? (i := 314) rfl
set_option maxRecDepth 100000 in
theorem wd_315 : (.selects RXG yXG_areTwins yXG_areTwins : Cond) ∈ W0 := List.mem_of_getElem? (i := 315) rfl
set_option maxRecDepth 100000 in
theorem wd_316 : (.code yXG_areTwins cXG_areTwins 5 (some .boolean) : Cond) ∈ W0 := List.mem_of_getElem? (i := 316) rfl
set_option maxRecDepth 100000 in
theorem wd_317 : (.methodLink RXL 79 yXF_step : Cond) ∈ W0 := List.mem_of_getElem? (i := 317) rfl
set_option maxRecDepth 100000 in
theorem wd_318 : (.instanceMethod yXF_step : Cond) ∈ W0 := List.mem_of_getElem? (i := 318) rfl
set_option maxRecDepth 100000 in
theorem wd_319 : (.selects RXF yXF_step yXF_step : Cond) ∈ W0 := List.mem_of_getElem? (i := 319) rfl
set_option maxRecDepth 100000 in
theorem wd_320 : (.code yXF_step cXF_step 3 (some .int) : Cond) ∈ W0 := List.mem_of_getElem? (i := 320) rfl
set_option maxRecDepth 100000 in
theorem wd_321 : (.methodLink RXF 102 yXE_stepOf : Cond) ∈ W0 := List.mem_of_getElem? (i := 321) rfl
set_option maxRecDepth 100000 in
theorem wd_322 : (.instanceMethod yXE_stepOf : Cond) ∈ W0 := List.mem_of_getElem? (i := 322) rfl
set_option maxRecDepth 100000 in
theorem wd_323 : (.selects RXE yXE_stepOf yXE_stepOf : Cond) ∈ W0 := List.mem_of_getElem? (i := 323) rfl
set_option maxRecDepth 100000 in
theorem wd_324 : (.code yXE_stepOf cXE_stepOf 3 (some .int) : Cond) ∈ W0 := List.mem_of_getElem? (i := 324) rfl
set_option maxRecDepth 100000 in
theorem wd_325 : (.methodLink RXL 83 yXF_obstruction : Cond) ∈ W0 := List.mem_of_getElem? (i := 325) rfl
set_option maxRecDepth 100000 in
theorem wd_326 : (.instanceMethod yXF_obstruction : Cond) ∈ W0 := List.mem_of_getElem? (i := 326) rfl
set_option maxRecDepth 100000 in
theorem wd_327 : (.selects RXF yXF_obstruction yXF_obstruction : Cond) ∈ W0 := List.mem_of_getElem? (i := 327) rfl
set_option maxRecDepth 100000 in
theorem wd_328 : (.code yXF_obstruction cXF_obstruction 2 (some .int) : Cond) ∈ W0 := List.mem_of_getElem? (i := 328) rfl
set_option maxRecDepth 100000 in
theorem wd_329 : (.methodLink RXF 105 yXE_obstructionIn : Cond) ∈ W0 := List.mem_of_getElem? (i := 329) rfl
set_option maxRecDepth 100000 in
theorem wd_330 : (.instanceMethod yXE_obstructionIn : Cond) ∈ W0 := List.mem_of_getElem? (i := 330) rfl
set_option maxRecDepth 100000 in
theorem wd_331 : (.selects RXE yXE_obstructionIn yXE_obstructionIn : Cond) ∈ W0 := List.mem_of_getElem? (i := 331) rfl
set_option maxRecDepth 100000 in
theorem wd_332 : (.code yXE_obstructionIn cXE_obstructionIn 5 (some .int) : Cond) ∈ W0 := List.mem_of_getElem? (i := 332) rfl
set_option maxRecDepth 100000 in
theorem wd_333 : (.methodLink RXE 50 yXE_clears : Cond) ∈ W0 := List.mem_of_getElem? (i := 333) rfl
set_option maxRecDepth 100000 in
theorem wd_334 : (.methodLink RXL 87 yXF_obstacle : Cond) ∈ W0 := List.mem_of_getElem? (i := 334) rfl
set_option maxRecDepth 100000 in
theorem wd_335 : (.instanceMethod yXF_obstacle : Cond) ∈ W0 := List.mem_of_getElem? (i := 335) rfl
set_option maxRecDepth 100000 in
theorem wd_336 : (.selects RXF yXF_obstacle yXF_obstacle : Cond) ∈ W0 := List.mem_of_getElem? (i := 336) rfl
set_option maxRecDepth 100000 in
theorem wd_337 : (.code yXF_obstacle cXF_obstacle 3 (some .int) : Cond) ∈ W0 := List.mem_of_getElem? (i := 337) rfl
set_option maxRecDepth 100000 in
theorem wd_338 : (.methodLink RXF 108 yXJ_bitCount : Cond) ∈ W0 := List.mem_of_getElem? (i := 338) rfl
set_option maxRecDepth 100000 in
theorem wd_339 : (.methodLink RXF 113 yXG_edgesInside : Cond) ∈ W0 := List.mem_of_getElem? (i := 339) rfl
set_option maxRecDepth 100000 in
theorem wd_340 : (.instanceMethod yXG_edgesInside : Cond) ∈ W0 := List.mem_of_getElem? (i := 340) rfl
set_option maxRecDepth 100000 in
theorem wd_341 : (.selects RXG yXG_edgesInside yXG_edgesInside : Cond) ∈ W0 := List.mem_of_getElem? (i := 341) rfl
set_option maxRecDepth 100000 in
theorem wd_342 : (.code yXG_edgesInside cXG_edgesInside 4 (some .int) : Cond) ∈ W0 := List.mem_of_getElem? (i := 342) rfl
set_option maxRecDepth 100000 in
theorem wd_343 : (.methodLink RXG 27 yXJ_bitCount : Cond) ∈ W0 := List.mem_of_getElem? (i := 343) rfl
set_option maxRecDepth 100000 in
theorem wd_344 : (.methodLink RXF 116 yXF_obstacleKind : Cond) ∈ W0 := List.mem_of_getElem? (i := 344) rfl
set_option maxRecDepth 100000 in
theorem wd_345 : (.static yXF_obstacleKind : Cond) ∈ W0 := List.mem_of_getElem? (i := 345) rfl
set_option maxRecDepth 100000 in
theorem wd_346 : (.code yXF_obstacleKind cXF_obstacleKind 2 (some .int) : Cond) ∈ W0 := List.mem_of_getElem? (i := 346) rfl
set_option maxRecDepth 100000 in
theorem wd_347 : (.methodLink RXL 91 yXF_apart : Cond) ∈ W0 := List.mem_of_getElem? (i := 347) rfl
set_option maxRecDepth 100000 in
theorem wd_348 : (.instanceMethod yXF_apart : Cond) ∈ W0 := List.mem_of_getElem? (i := 348) rfl
set_option maxRecDepth 100000 in
theorem wd_349 : (.selects RXF yXF_apart yXF_apart : Cond) ∈ W0 := List.mem_of_getElem? (i := 349) rfl
set_option maxRecDepth 100000 in
theorem wd_350 : (.code yXF_apart cXF_apart 2 (some .int) : Cond) ∈ W0 := List.mem_of_getElem? (i := 350) rfl
set_option maxRecDepth 100000 in
theorem wd_351 : (.methodLink RXF 119 yXF_hereditary : Cond) ∈ W0 := List.mem_of_getElem? (i := 351) rfl
set_option maxRecDepth 100000 in
theorem wd_352 : (.methodLink RXF 122 yXC_largestApart : Cond) ∈ W0 := List.mem_of_getElem? (i := 352) rfl
set_option maxRecDepth 100000 in
theorem wd_353 : (.instanceMethod yXC_largestApart : Cond) ∈ W0 := List.mem_of_getElem? (i := 353) rfl
set_option maxRecDepth 100000 in
theorem wd_354 : (.selects RXC yXC_largestApart yXC_largestApart : Cond) ∈ W0 := List.mem_of_getElem? (i := 354) rfl
set_option maxRecDepth 100000 in
theorem wd_355 : (.code yXC_largestApart cXC_largestApart 4 (some .int) : Cond) ∈ W0 := List.mem_of_getElem? (i := 355) rfl
set_option maxRecDepth 100000 in
theorem wd_356 : (.methodLink RXC 23 yXJ_bitCount : Cond) ∈ W0 := List.mem_of_getElem? (i := 356) rfl
set_option maxRecDepth 100000 in
theorem wd_357 : (.methodLink RXC 29 yXG_joined : Cond) ∈ W0 := List.mem_of_getElem? (i := 357) rfl
set_option maxRecDepth 100000 in
theorem wd_358 : (.methodLink RXL 95 yXF_chosen : Cond) ∈ W0 := List.mem_of_getElem? (i := 358) rfl
set_option maxRecDepth 100000 in
theorem wd_359 : (.instanceMethod yXF_chosen : Cond) ∈ W0 := List.mem_of_getElem? (i := 359) rfl
set_option maxRecDepth 100000 in
theorem wd_360 : (.selects RXF yXF_chosen yXF_chosen : Cond) ∈ W0 := List.mem_of_getElem? (i := 360) rfl
set_option maxRecDepth 100000 in
theorem wd_361 : (.code yXF_chosen cXF_chosen 2 (some .int) : Cond) ∈ W0 := List.mem_of_getElem? (i := 361) rfl
set_option maxRecDepth 100000 in
theorem wd_362 : (.methodLink RXL 99 yXF_cover : Cond) ∈ W0 := List.mem_of_getElem? (i := 362) rfl
set_option maxRecDepth 100000 in
theorem wd_363 : (.instanceMethod yXF_cover : Cond) ∈ W0 := List.mem_of_getElem? (i := 363) rfl
set_option maxRecDepth 100000 in
theorem wd_364 : (.selects RXF yXF_cover yXF_cover : Cond) ∈ W0 := List.mem_of_getElem? (i := 364) rfl
set_option maxRecDepth 100000 in
theorem wd_365 : (.code yXF_cover cXF_cover 2 (some .int) : Cond) ∈ W0 := List.mem_of_getElem? (i := 365) rfl
set_option maxRecDepth 100000 in
theorem wd_366 : (.methodLink RXF 125 yXC_fewestCliques : Cond) ∈ W0 := List.mem_of_getElem? (i := 366) rfl
set_option maxRecDepth 100000 in
theorem wd_367 : (.instanceMethod yXC_fewestCliques : Cond) ∈ W0 := List.mem_of_getElem? (i := 367) rfl
set_option maxRecDepth 100000 in
theorem wd_368 : (.selects RXC yXC_fewestCliques yXC_fewestCliques : Cond) ∈ W0 := List.mem_of_getElem? (i := 368) rfl
set_option maxRecDepth 100000 in
theorem wd_369 : (.code yXC_fewestCliques cXC_fewestCliques 4 (some .int) : Cond) ∈ W0 := List.mem_of_getElem? (i := 369) rfl
set_option maxRecDepth 100000 in
theorem wd_370 : (.methodLink RXC 38 yXC_coverWith : Cond) ∈ W0 := List.mem_of_getElem? (i := 370) rfl
set_option maxRecDepth 100000 in
theorem wd_371 : (.instanceMethod yXC_coverWith : Cond) ∈ W0 := List.mem_of_getElem? (i := 371) rfl
set_option maxRecDepth 100000 in
theorem wd_372 : (.code yXC_coverWith cXC_coverWith 4 none : Cond) ∈ W0 := List.mem_of_getElem? (i := 372) rfl
set_option maxRecDepth 100000 in
theorem wd_373 : (.methodLink RXC 42 yXC_fewestWith : Cond) ∈ W0 := List.mem_of_getElem? (i := 373) rfl
set_option maxRecDepth 100000 in
theorem wd_374 : (.instanceMethod yXC_fewestWith : Cond) ∈ W0 := List.mem_of_getElem? (i := 374) rfl
set_option maxRecDepth 100000 in
theorem wd_375 : (.code yXC_fewestWith cXC_fewestWith 6 (some .int) : Cond) ∈ W0 := List.mem_of_getElem? (i := 375) rfl
set_option maxRecDepth 100000 in
theorem wd_376 : (.methodLink RXC 46 yXG_nearInside : Cond) ∈ W0 := List.mem_of_getElem? (i := 376) rfl
set_option maxRecDepth 100000 in
theorem wd_377 : (.methodLink RXC 49 Lib.Math.min.name : Cond) ∈ W0 := List.mem_of_getElem? (i := 377) rfl
set_option maxRecDepth 100000 in
theorem wd_378 : (.static Lib.Math.min.name : Cond) ∈ W0 := List.mem_of_getElem? (i := 378) rfl
set_option maxRecDepth 100000 in
theorem wd_379 : (.code Lib.Math.min.name Lib.Math.min.code 2 (some .int) : Cond) ∈ W0 := List.mem_of_getElem? (i := 379) rfl
set_option maxRecDepth 100000 in
theorem wd_380 : (.methodLink RXL 9 yXL_cell : Cond) ∈ W0 := List.mem_of_getElem? (i := 380) rfl
set_option maxRecDepth 100000 in
theorem wd_381 : (.static yXL_cell : Cond) ∈ W0 := List.mem_of_getElem? (i := 381) rfl
set_option maxRecDepth 100000 in
theorem wd_382 : (.code yXL_cell cXL_cell 2 (some .int) : Cond) ∈ W0 := List.mem_of_getElem? (i := 382) rfl
set_option maxRecDepth 100000 in
theorem wd_383 : (.classLink RXL 18 RXM : Cond) ∈ W0 := List.mem_of_getElem? (i := 383) rfl
set_option maxRecDepth 100000 in
theorem wd_384 : (.instantiable RXM 12 : Cond) ∈ W0 := List.mem_of_getElem? (i := 384) rfl
set_option maxRecDepth 100000 in
theorem wd_385 : (.methodLink RXL 20 yXM_init : Cond) ∈ W0 := List.mem_of_getElem? (i := 385) rfl
set_option maxRecDepth 100000 in
theorem wd_386 : (.instanceMethod yXM_init : Cond) ∈ W0 := List.mem_of_getElem? (i := 386) rfl
set_option maxRecDepth 100000 in
theorem wd_387 : (.code yXM_init cXM_init 2 none : Cond) ∈ W0 := List.mem_of_getElem? (i := 387) rfl
set_option maxRecDepth 100000 in
theorem wd_388 : (.methodLink RXM 1 objectInit : Cond) ∈ W0 := List.mem_of_getElem? (i := 388) rfl
set_option maxRecDepth 100000 in
theorem wd_389 : (.fieldLink RXM 28 "SplitForestModel" "n" "I" : Cond) ∈ W0 := List.mem_of_getElem? (i := 389) rfl
set_option maxRecDepth 100000 in
theorem wd_390 : (.fieldLink RXM 7 "SplitForestModel" "near" "[I" : Cond) ∈ W0 := List.mem_of_getElem? (i := 390) rfl
set_option maxRecDepth 100000 in
theorem wd_391 : (.fieldLink RXM 40 "SplitForestModel" "splits" "I" : Cond) ∈ W0 := List.mem_of_getElem? (i := 391) rfl
set_option maxRecDepth 100000 in
theorem wd_392 : (.fieldLink RXM 13 "SplitForestModel" "split" "[I" : Cond) ∈ W0 := List.mem_of_getElem? (i := 392) rfl
set_option maxRecDepth 100000 in
theorem wd_393 : (.fieldLink RXM 54 "SplitForestModel" "strongs" "I" : Cond) ∈ W0 := List.mem_of_getElem? (i := 393) rfl
set_option maxRecDepth 100000 in
theorem wd_394 : (.fieldLink RXM 16 "SplitForestModel" "strong" "[I" : Cond) ∈ W0 := List.mem_of_getElem? (i := 394) rfl
set_option maxRecDepth 100000 in
theorem wd_395 : (.fieldLink RXM 73 "SplitForestModel" "parts" "I" : Cond) ∈ W0 := List.mem_of_getElem? (i := 395) rfl
set_option maxRecDepth 100000 in
theorem wd_396 : (.fieldLink RXM 19 "SplitForestModel" "part" "[I" : Cond) ∈ W0 := List.mem_of_getElem? (i := 396) rfl
set_option maxRecDepth 100000 in
theorem wd_397 : (.fieldLink RXM 96 "SplitForestModel" "steps" "I" : Cond) ∈ W0 := List.mem_of_getElem? (i := 397) rfl
set_option maxRecDepth 100000 in
theorem wd_398 : (.fieldLink RXM 22 "SplitForestModel" "step" "[I" : Cond) ∈ W0 := List.mem_of_getElem? (i := 398) rfl
set_option maxRecDepth 100000 in
theorem wd_399 : (.fieldLink RXM 102 "SplitForestModel" "whole" "Z" : Cond) ∈ W0 := List.mem_of_getElem? (i := 399) rfl
set_option maxRecDepth 100000 in
theorem wd_400 : (.fieldLink RXM 25 "SplitForestModel" "covers" "[I" : Cond) ∈ W0 := List.mem_of_getElem? (i := 400) rfl
set_option maxRecDepth 100000 in
theorem wd_401 : (.laysFinal RXM "SplitForestModel" "n" "I" : Cond) ∈ W0 := List.mem_of_getElem? (i := 401) rfl
set_option maxRecDepth 100000 in
theorem wd_402 : (.laysFinal RXM "SplitForestModel" "near" "[I" : Cond) ∈ W0 := List.mem_of_getElem? (i := 402) rfl
set_option maxRecDepth 100000 in
theorem wd_403 : (.lays RXM "SplitForestModel" "splits" "I" : Cond) ∈ W0 := List.mem_of_getElem? (i := 403) rfl
set_option maxRecDepth 100000 in
theorem wd_404 : (.laysFinal RXM "SplitForestModel" "split" "[I" : Cond) ∈ W0 := List.mem_of_getElem? (i := 404) rfl
set_option maxRecDepth 100000 in
theorem wd_405 : (.lays RXM "SplitForestModel" "strongs" "I" : Cond) ∈ W0 := List.mem_of_getElem? (i := 405) rfl
set_option maxRecDepth 100000 in
theorem wd_406 : (.laysFinal RXM "SplitForestModel" "strong" "[I" : Cond) ∈ W0 := List.mem_of_getElem? (i := 406) rfl
set_option maxRecDepth 100000 in
theorem wd_407 : (.lays RXM "SplitForestModel" "parts" "I" : Cond) ∈ W0 := List.mem_of_getElem? (i := 407) rfl
set_option maxRecDepth 100000 in
theorem wd_408 : (.laysFinal RXM "SplitForestModel" "part" "[I" : Cond) ∈ W0 := List.mem_of_getElem? (i := 408) rfl
set_option maxRecDepth 100000 in
theorem wd_409 : (.lays RXM "SplitForestModel" "steps" "I" : Cond) ∈ W0 := List.mem_of_getElem? (i := 409) rfl
set_option maxRecDepth 100000 in
theorem wd_410 : (.laysFinal RXM "SplitForestModel" "step" "[I" : Cond) ∈ W0 := List.mem_of_getElem? (i := 410) rfl
set_option maxRecDepth 100000 in
theorem wd_411 : (.lays RXM "SplitForestModel" "whole" "Z" : Cond) ∈ W0 := List.mem_of_getElem? (i := 411) rfl
set_option maxRecDepth 100000 in
theorem wd_412 : (.laysFinal RXM "SplitForestModel" "covers" "[I" : Cond) ∈ W0 := List.mem_of_getElem? (i := 412) rfl
set_option maxRecDepth 100000 in
theorem wd_413 : (.methodLink RXL 25 yXM_vertices : Cond) ∈ W0 := List.mem_of_getElem? (i := 413) rfl
set_option maxRecDepth 100000 in
theorem wd_414 : (.instanceMethod yXM_vertices : Cond) ∈ W0 := List.mem_of_getElem? (i := 414) rfl
set_option maxRecDepth 100000 in
theorem wd_415 : (.selects RXM yXM_vertices yXM_vertices : Cond) ∈ W0 := List.mem_of_getElem? (i := 415) rfl
set_option maxRecDepth 100000 in
theorem wd_416 : (.code yXM_vertices cXM_vertices 1 (some .int) : Cond) ∈ W0 := List.mem_of_getElem? (i := 416) rfl
set_option maxRecDepth 100000 in
theorem wd_417 : (.methodLink RXL 30 yXM_flip : Cond) ∈ W0 := List.mem_of_getElem? (i := 417) rfl
set_option maxRecDepth 100000 in
theorem wd_418 : (.instanceMethod yXM_flip : Cond) ∈ W0 := List.mem_of_getElem? (i := 418) rfl
set_option maxRecDepth 100000 in
theorem wd_419 : (.selects RXM yXM_flip yXM_flip : Cond) ∈ W0 := List.mem_of_getElem? (i := 419) rfl
set_option maxRecDepth 100000 in
theorem wd_420 : (.code yXM_flip cXM_flip 3 (some .boolean) : Cond) ∈ W0 := List.mem_of_getElem? (i := 420) rfl
set_option maxRecDepth 100000 in
theorem wd_421 : (.methodLink RXM 32 yXM_is : Cond) ∈ W0 := List.mem_of_getElem? (i := 421) rfl
set_option maxRecDepth 100000 in
theorem wd_422 : (.instanceMethod yXM_is : Cond) ∈ W0 := List.mem_of_getElem? (i := 422) rfl
set_option maxRecDepth 100000 in
theorem wd_423 : (.code yXM_is cXM_is 2 (some .boolean) : Cond) ∈ W0 := List.mem_of_getElem? (i := 423) rfl
set_option maxRecDepth 100000 in
theorem wd_424 : (.methodLink RXL 34 yXM_neighbours : Cond) ∈ W0 := List.mem_of_getElem? (i := 424) rfl
set_option maxRecDepth 100000 in
theorem wd_425 : (.instanceMethod yXM_neighbours : Cond) ∈ W0 := List.mem_of_getElem? (i := 425) rfl
set_option maxRecDepth 100000 in
theorem wd_426 : (.selects RXM yXM_neighbours yXM_neighbours : Cond) ∈ W0 := List.mem_of_getElem? (i := 426) rfl
set_option maxRecDepth 100000 in
theorem wd_427 : (.code yXM_neighbours cXM_neighbours 3 (some .boolean) : Cond) ∈ W0 := List.mem_of_getElem? (i := 427) rfl
set_option maxRecDepth 100000 in
theorem wd_428 : (.methodLink RXL 39 yXM_component : Cond) ∈ W0 := List.mem_of_getElem? (i := 428) rfl
set_option maxRecDepth 100000 in
theorem wd_429 : (.instanceMethod yXM_component : Cond) ∈ W0 := List.mem_of_getElem? (i := 429) rfl
set_option maxRecDepth 100000 in
theorem wd_430 : (.selects RXM yXM_component yXM_component : Cond) ∈ W0 := List.mem_of_getElem? (i := 430) rfl
set_option maxRecDepth 100000 in
theorem wd_431 : (.code yXM_component cXM_component 2 (some .int) : Cond) ∈ W0 := List.mem_of_getElem? (i := 431) rfl
set_option maxRecDepth 100000 in
theorem wd_432 : (.methodLink RXM 36 yXM_within : Cond) ∈ W0 := List.mem_of_getElem? (i := 432) rfl
set_option maxRecDepth 100000 in
theorem wd_433 : (.instanceMethod yXM_within : Cond) ∈ W0 := List.mem_of_getElem? (i := 433) rfl
set_option maxRecDepth 100000 in
theorem wd_434 : (.code yXM_within cXM_within 6 (some .int) : Cond) ∈ W0 := List.mem_of_getElem? (i := 434) rfl
set_option maxRecDepth 100000 in
theorem wd_435 : (.methodLink RXL 43 yXM_splits : Cond) ∈ W0 := List.mem_of_getElem? (i := 435) rfl
set_option maxRecDepth 100000 in
theorem wd_436 : (.instanceMethod yXM_splits : Cond) ∈ W0 := List.mem_of_getElem? (i := 436) rfl
set_option maxRecDepth 100000 in
theorem wd_437 : (.selects RXM yXM_splits yXM_splits : Cond) ∈ W0 := List.mem_of_getElem? (i := 437) rfl
set_option maxRecDepth 100000 in
theorem wd_438 : (.code yXM_splits cXM_splits 2 (some .int) : Cond) ∈ W0 := List.mem_of_getElem? (i := 438) rfl
set_option maxRecDepth 100000 in
theorem wd_439 : (.methodLink RXM 60 yXM_component : Cond) ∈ W0 := List.mem_of_getElem? (i := 439) rfl
set_option maxRecDepth 100000 in
theorem wd_440 : (.methodLink RXM 63 yXM_find : Cond) ∈ W0 := List.mem_of_getElem? (i := 440) rfl
set_option maxRecDepth 100000 in
theorem wd_441 : (.instanceMethod yXM_find : Cond) ∈ W0 := List.mem_of_getElem? (i := 441) rfl
set_option maxRecDepth 100000 in
theorem wd_442 : (.code yXM_find cXM_find 6 none : Cond) ∈ W0 := List.mem_of_getElem? (i := 442) rfl
set_option maxRecDepth 100000 in
theorem wd_443 : (.methodLink RXM 43 yXM_least : Cond) ∈ W0 := List.mem_of_getElem? (i := 443) rfl
set_option maxRecDepth 100000 in
theorem wd_444 : (.static yXM_least : Cond) ∈ W0 := List.mem_of_getElem? (i := 444) rfl
set_option maxRecDepth 100000 in
theorem wd_445 : (.code yXM_least cXM_least 2 (some .int) : Cond) ∈ W0 := List.mem_of_getElem? (i := 445) rfl
set_option maxRecDepth 100000 in
theorem wd_446 : (.methodLink RXM 47 yXM_size : Cond) ∈ W0 := List.mem_of_getElem? (i := 446) rfl
set_option maxRecDepth 100000 in
theorem wd_447 : (.static yXM_size : Cond) ∈ W0 := List.mem_of_getElem? (i := 447) rfl
set_option maxRecDepth 100000 in
theorem wd_448 : (.code yXM_size cXM_size 3 (some .int) : Cond) ∈ W0 := List.mem_of_getElem? (i := 448) rfl
set_option maxRecDepth 100000 in
theorem wd_449 : (.methodLink RXM 50 yXM_complete : Cond) ∈ W0 := List.mem_of_getElem? (i := 449) rfl
set_option maxRecDepth 100000 in
theorem wd_450 : (.instanceMethod yXM_complete : Cond) ∈ W0 := List.mem_of_getElem? (i := 450) rfl
set_option maxRecDepth 100000 in
theorem wd_451 : (.code yXM_complete cXM_complete 7 (some .boolean) : Cond) ∈ W0 := List.mem_of_getElem? (i := 451) rfl
set_option maxRecDepth 100000 in
theorem wd_452 : (.methodLink RXM 57 yXM_cross : Cond) ∈ W0 := List.mem_of_getElem? (i := 452) rfl
set_option maxRecDepth 100000 in
theorem wd_453 : (.static yXM_cross : Cond) ∈ W0 := List.mem_of_getElem? (i := 453) rfl
set_option maxRecDepth 100000 in
theorem wd_454 : (.code yXM_cross cXM_cross 2 (some .boolean) : Cond) ∈ W0 := List.mem_of_getElem? (i := 454) rfl
set_option maxRecDepth 100000 in
theorem wd_455 : (.methodLink RXL 47 yXM_strong : Cond) ∈ W0 := List.mem_of_getElem? (i := 455) rfl
set_option maxRecDepth 100000 in
theorem wd_456 : (.instanceMethod yXM_strong : Cond) ∈ W0 := List.mem_of_getElem? (i := 456) rfl
set_option maxRecDepth 100000 in
theorem wd_457 : (.selects RXM yXM_strong yXM_strong : Cond) ∈ W0 := List.mem_of_getElem? (i := 457) rfl
set_option maxRecDepth 100000 in
theorem wd_458 : (.code yXM_strong cXM_strong 2 (some .int) : Cond) ∈ W0 := List.mem_of_getElem? (i := 458) rfl
set_option maxRecDepth 100000 in
theorem wd_459 : (.methodLink RXL 52 yXM_set : Cond) ∈ W0 := List.mem_of_getElem? (i := 459) rfl
set_option maxRecDepth 100000 in
theorem wd_460 : (.instanceMethod yXM_set : Cond) ∈ W0 := List.mem_of_getElem? (i := 460) rfl
set_option maxRecDepth 100000 in
theorem wd_461 : (.selects RXM yXM_set yXM_set : Cond) ∈ W0 := List.mem_of_getElem? (i := 461) rfl
set_option maxRecDepth 100000 in
theorem wd_462 : (.code yXM_set cXM_set 3 (some .int) : Cond) ∈ W0 := List.mem_of_getElem? (i := 462) rfl
set_option maxRecDepth 100000 in
theorem wd_463 : (.methodLink RXM 67 yXM_nodeSet : Cond) ∈ W0 := List.mem_of_getElem? (i := 463) rfl
set_option maxRecDepth 100000 in
theorem wd_464 : (.instanceMethod yXM_nodeSet : Cond) ∈ W0 := List.mem_of_getElem? (i := 464) rfl
set_option maxRecDepth 100000 in
theorem wd_465 : (.code yXM_nodeSet cXM_nodeSet 4 (some .int) : Cond) ∈ W0 := List.mem_of_getElem? (i := 465) rfl
set_option maxRecDepth 100000 in
theorem wd_466 : (.methodLink RXL 56 yXM_kind : Cond) ∈ W0 := List.mem_of_getElem? (i := 466) rfl
set_option maxRecDepth 100000 in
theorem wd_467 : (.instanceMethod yXM_kind : Cond) ∈ W0 := List.mem_of_getElem? (i := 467) rfl
set_option maxRecDepth 100000 in
theorem wd_468 : (.selects RXM yXM_kind yXM_kind : Cond) ∈ W0 := List.mem_of_getElem? (i := 468) rfl
set_option maxRecDepth 100000 in
theorem wd_469 : (.code yXM_kind cXM_kind 4 (some .int) : Cond) ∈ W0 := List.mem_of_getElem? (i := 469) rfl
set_option maxRecDepth 100000 in
theorem wd_470 : (.methodLink RXM 86 yXM_open : Cond) ∈ W0 := List.mem_of_getElem? (i := 470) rfl
set_option maxRecDepth 100000 in
theorem wd_471 : (.instanceMethod yXM_open : Cond) ∈ W0 := List.mem_of_getElem? (i := 471) rfl
set_option maxRecDepth 100000 in
theorem wd_472 : (.code yXM_open cXM_open 6 (some .boolean) : Cond) ∈ W0 := List.mem_of_getElem? (i := 472) rfl
set_option maxRecDepth 100000 in
theorem wd_473 : (.methodLink RXM 76 yXM_isPart : Cond) ∈ W0 := List.mem_of_getElem? (i := 473) rfl
set_option maxRecDepth 100000 in
theorem wd_474 : (.instanceMethod yXM_isPart : Cond) ∈ W0 := List.mem_of_getElem? (i := 474) rfl
set_option maxRecDepth 100000 in
theorem wd_475 : (.code yXM_isPart cXM_isPart 10 (some .boolean) : Cond) ∈ W0 := List.mem_of_getElem? (i := 475) rfl
set_option maxRecDepth 100000 in
theorem wd_476 : (.methodLink RXM 70 yXM_inside : Cond) ∈ W0 := List.mem_of_getElem? (i := 476) rfl
set_option maxRecDepth 100000 in
theorem wd_477 : (.static yXM_inside : Cond) ∈ W0 := List.mem_of_getElem? (i := 477) rfl
set_option maxRecDepth 100000 in
theorem wd_478 : (.code yXM_inside cXM_inside 2 (some .boolean) : Cond) ∈ W0 := List.mem_of_getElem? (i := 478) rfl
set_option maxRecDepth 100000 in
theorem wd_479 : (.methodLink RXM 89 yXM_middle : Cond) ∈ W0 := List.mem_of_getElem? (i := 479) rfl
set_option maxRecDepth 100000 in
theorem wd_480 : (.instanceMethod yXM_middle : Cond) ∈ W0 := List.mem_of_getElem? (i := 480) rfl
set_option maxRecDepth 100000 in
theorem wd_481 : (.code yXM_middle cXM_middle 4 (some .int) : Cond) ∈ W0 := List.mem_of_getElem? (i := 481) rfl
set_option maxRecDepth 100000 in
theorem wd_482 : (.methodLink RXM 83 yXM_links : Cond) ∈ W0 := List.mem_of_getElem? (i := 482) rfl
set_option maxRecDepth 100000 in
theorem wd_483 : (.instanceMethod yXM_links : Cond) ∈ W0 := List.mem_of_getElem? (i := 483) rfl
set_option maxRecDepth 100000 in
theorem wd_484 : (.code yXM_links cXM_links 4 (some .int) : Cond) ∈ W0 := List.mem_of_getElem? (i := 484) rfl
set_option maxRecDepth 100000 in
theorem wd_485 : (.methodLink RXM 80 yXM_joined : Cond) ∈ W0 := List.mem_of_getElem? (i := 485) rfl
set_option maxRecDepth 100000 in
theorem wd_486 : (.instanceMethod yXM_joined : Cond) ∈ W0 := List.mem_of_getElem? (i := 486) rfl
set_option maxRecDepth 100000 in
theorem wd_487 : (.code yXM_joined cXM_joined 5 (some .boolean) : Cond) ∈ W0 := List.mem_of_getElem? (i := 487) rfl
set_option maxRecDepth 100000 in
theorem wd_488 : (.methodLink RXL 60 yXM_parts : Cond) ∈ W0 := List.mem_of_getElem? (i := 488) rfl
set_option maxRecDepth 100000 in
theorem wd_489 : (.instanceMethod yXM_parts : Cond) ∈ W0 := List.mem_of_getElem? (i := 489) rfl
set_option maxRecDepth 100000 in
theorem wd_490 : (.selects RXM yXM_parts yXM_parts : Cond) ∈ W0 := List.mem_of_getElem? (i := 490) rfl
set_option maxRecDepth 100000 in
theorem wd_491 : (.code yXM_parts cXM_parts 3 (some .int) : Cond) ∈ W0 := List.mem_of_getElem? (i := 491) rfl
set_option maxRecDepth 100000 in
theorem wd_492 : (.methodLink RXL 65 yXM_part : Cond) ∈ W0 := List.mem_of_getElem? (i := 492) rfl
set_option maxRecDepth 100000 in
theorem wd_493 : (.instanceMethod yXM_part : Cond) ∈ W0 := List.mem_of_getElem? (i := 493) rfl
set_option maxRecDepth 100000 in
theorem wd_494 : (.selects RXM yXM_part yXM_part : Cond) ∈ W0 := List.mem_of_getElem? (i := 494) rfl
set_option maxRecDepth 100000 in
theorem wd_495 : (.code yXM_part cXM_part 4 (some .int) : Cond) ∈ W0 := List.mem_of_getElem? (i := 495) rfl
set_option maxRecDepth 100000 in
theorem wd_496 : (.methodLink RXL 69 yXM_centre : Cond) ∈ W0 := List.mem_of_getElem? (i := 496) rfl
set_option maxRecDepth 100000 in
theorem wd_497 : (.instanceMethod yXM_centre : Cond) ∈ W0 := List.mem_of_getElem? (i := 497) rfl
set_option maxRecDepth 100000 in
theorem wd_498 : (.selects RXM yXM_centre yXM_centre : Cond) ∈ W0 := List.mem_of_getElem? (i := 498) rfl
set_option maxRecDepth 100000 in
theorem wd_499 : (.code yXM_centre cXM_centre 4 (some .int) : Cond) ∈ W0 := List.mem_of_getElem? (i := 499) rfl
set_option maxRecDepth 100000 in
theorem wd_500 : (.methodLink RXL 73 yXM_linked : Cond) ∈ W0 := List.mem_of_getElem? (i := 500) rfl
set_option maxRecDepth 100000 in
theorem wd_501 : (.instanceMethod yXM_linked : Cond) ∈ W0 := List.mem_of_getElem? (i := 501) rfl
set_option maxRecDepth 100000 in
theorem wd_502 : (.selects RXM yXM_linked yXM_linked : Cond) ∈ W0 := List.mem_of_getElem? (i := 502) rfl
set_option maxRecDepth 100000 in
theorem wd_503 : (.code yXM_linked cXM_linked 9 (some .boolean) : Cond) ∈ W0 := List.mem_of_getElem? (i := 503) rfl
set_option maxRecDepth 100000 in
theorem wd_504 : (.methodLink RXM 93 yXM_partOf : Cond) ∈ W0 := List.mem_of_getElem? (i := 504) rfl
set_option maxRecDepth 100000 in
theorem wd_505 : (.instanceMethod yXM_partOf : Cond) ∈ W0 := List.mem_of_getElem? (i := 505) rfl
set_option maxRecDepth 100000 in
theorem wd_506 : (.code yXM_partOf cXM_partOf 4 (some .int) : Cond) ∈ W0 := List.mem_of_getElem? (i := 506) rfl
set_option maxRecDepth 100000 in
theorem wd_507 : (.methodLink RXL 78 yXM_hereditary : Cond) ∈ W0 := List.mem_of_getElem? (i := 507) rfl
set_option maxRecDepth 100000 in
theorem wd_508 : (.instanceMethod yXM_hereditary : Cond) ∈ W0 := List.mem_of_getElem? (i := 508) rfl
set_option maxRecDepth 100000 in
theorem wd_509 : (.selects RXM yXM_hereditary yXM_hereditary : Cond) ∈ W0 := List.mem_of_getElem? (i := 509) rfl
set_option maxRecDepth 100000 in
theorem wd_510 : (.code yXM_hereditary cXM_hereditary 2 (some .boolean) : Cond) ∈ W0 := List.mem_of_getElem? (i := 510) rfl
set_option maxRecDepth 100000 in
theorem wd_511 : (.methodLink RXM 109 yXM_fine : Cond) ∈ W0 := List.mem_of_getElem? (i := 511) rfl
set_option maxRecDepth 100000 in
theorem wd_512 : (.instanceMethod yXM_fine : Cond) ∈ W0 := List.mem_of_getElem? (i := 512) rfl
set_option maxRecDepth 100000 in
theorem wd_513 : (.code yXM_fine cXM_fine 4 (some .boolean) : Cond) ∈ W0 := List.mem_of_getElem? (i := 513) rfl
set_option maxRecDepth 100000 in
theorem wd_514 : (.methodLink RXM 106 yXM_eliminate : Cond) ∈ W0 := List.mem_of_getElem? (i := 514) rfl
set_option maxRecDepth 100000 in
theorem wd_515 : (.instanceMethod yXM_eliminate : Cond) ∈ W0 := List.mem_of_getElem? (i := 515) rfl
set_option maxRecDepth 100000 in
theorem wd_516 : (.code yXM_eliminate cXM_eliminate 5 none : Cond) ∈ W0 := List.mem_of_getElem? (i := 516) rfl
set_option maxRecDepth 100000 in
theorem wd_517 : (.methodLink RXM 99 yXM_way : Cond) ∈ W0 := List.mem_of_getElem? (i := 517) rfl
set_option maxRecDepth 100000 in
theorem wd_518 : (.instanceMethod yXM_way : Cond) ∈ W0 := List.mem_of_getElem? (i := 518) rfl
set_option maxRecDepth 100000 in
theorem wd_519 : (.code yXM_way cXM_way 7 (some .int) : Cond) ∈ W0 := List.mem_of_getElem? (i := 519) rfl
set_option maxRecDepth 100000 in
theorem wd_520 : (.methodLink RXL 82 yXM_step : Cond) ∈ W0 := List.mem_of_getElem? (i := 520) rfl
set_option maxRecDepth 100000 in
theorem wd_521 : (.instanceMethod yXM_step : Cond) ∈ W0 := List.mem_of_getElem? (i := 521) rfl
set_option maxRecDepth 100000 in
theorem wd_522 : (.selects RXM yXM_step yXM_step : Cond) ∈ W0 := List.mem_of_getElem? (i := 522) rfl
set_option maxRecDepth 100000 in
theorem wd_523 : (.code yXM_step cXM_step 3 (some .int) : Cond) ∈ W0 := List.mem_of_getElem? (i := 523) rfl
set_option maxRecDepth 100000 in
theorem wd_524 : (.methodLink RXL 86 yXM_obstruction : Cond) ∈ W0 := List.mem_of_getElem? (i := 524) rfl
set_option maxRecDepth 100000 in
theorem wd_525 : (.instanceMethod yXM_obstruction : Cond) ∈ W0 := List.mem_of_getElem? (i := 525) rfl
set_option maxRecDepth 100000 in
theorem wd_526 : (.selects RXM yXM_obstruction yXM_obstruction : Cond) ∈ W0 := List.mem_of_getElem? (i := 526) rfl
set_option maxRecDepth 100000 in
theorem wd_527 : (.code yXM_obstruction cXM_obstruction 5 (some .int) : Cond) ∈ W0 := List.mem_of_getElem? (i := 527) rfl
set_option maxRecDepth 100000 in
theorem wd_528 : (.methodLink RXL 90 yXM_obstacle : Cond) ∈ W0 := List.mem_of_getElem? (i := 528) rfl
set_option maxRecDepth 100000 in
theorem wd_529 : (.instanceMethod yXM_obstacle : Cond) ∈ W0 := List.mem_of_getElem? (i := 529) rfl
set_option maxRecDepth 100000 in
theorem wd_530 : (.selects RXM yXM_obstacle yXM_obstacle : Cond) ∈ W0 := List.mem_of_getElem? (i := 530) rfl
set_option maxRecDepth 100000 in
theorem wd_531 : (.code yXM_obstacle cXM_obstacle 5 (some .int) : Cond) ∈ W0 := List.mem_of_getElem? (i := 531) rfl
set_option maxRecDepth 100000 in
theorem wd_532 : (.methodLink RXM 112 yXM_obstruction : Cond) ∈ W0 := List.mem_of_getElem? (i := 532) rfl
set_option maxRecDepth 100000 in
theorem wd_533 : (.methodLink RXM 115 yXM_edges : Cond) ∈ W0 := List.mem_of_getElem? (i := 533) rfl
set_option maxRecDepth 100000 in
theorem wd_534 : (.instanceMethod yXM_edges : Cond) ∈ W0 := List.mem_of_getElem? (i := 534) rfl
set_option maxRecDepth 100000 in
theorem wd_535 : (.code yXM_edges cXM_edges 4 (some .int) : Cond) ∈ W0 := List.mem_of_getElem? (i := 535) rfl
set_option maxRecDepth 100000 in
theorem wd_536 : (.methodLink RXL 94 yXM_apart : Cond) ∈ W0 := List.mem_of_getElem? (i := 536) rfl
set_option maxRecDepth 100000 in
theorem wd_537 : (.instanceMethod yXM_apart : Cond) ∈ W0 := List.mem_of_getElem? (i := 537) rfl
set_option maxRecDepth 100000 in
theorem wd_538 : (.selects RXM yXM_apart yXM_apart : Cond) ∈ W0 := List.mem_of_getElem? (i := 538) rfl
set_option maxRecDepth 100000 in
theorem wd_539 : (.code yXM_apart cXM_apart 2 (some .int) : Cond) ∈ W0 := List.mem_of_getElem? (i := 539) rfl
set_option maxRecDepth 100000 in
theorem wd_540 : (.methodLink RXM 118 yXM_hereditary : Cond) ∈ W0 := List.mem_of_getElem? (i := 540) rfl
set_option maxRecDepth 100000 in
theorem wd_541 : (.methodLink RXM 121 yXM_best : Cond) ∈ W0 := List.mem_of_getElem? (i := 541) rfl
set_option maxRecDepth 100000 in
theorem wd_542 : (.instanceMethod yXM_best : Cond) ∈ W0 := List.mem_of_getElem? (i := 542) rfl
set_option maxRecDepth 100000 in
theorem wd_543 : (.code yXM_best cXM_best 6 (some .int) : Cond) ∈ W0 := List.mem_of_getElem? (i := 543) rfl
set_option maxRecDepth 100000 in
theorem wd_544 : (.methodLink RXL 98 yXM_chosen : Cond) ∈ W0 := List.mem_of_getElem? (i := 544) rfl
set_option maxRecDepth 100000 in
theorem wd_545 : (.instanceMethod yXM_chosen : Cond) ∈ W0 := List.mem_of_getElem? (i := 545) rfl
set_option maxRecDepth 100000 in
theorem wd_546 : (.selects RXM yXM_chosen yXM_chosen : Cond) ∈ W0 := List.mem_of_getElem? (i := 546) rfl
set_option maxRecDepth 100000 in
theorem wd_547 : (.code yXM_chosen cXM_chosen 2 (some .int) : Cond) ∈ W0 := List.mem_of_getElem? (i := 547) rfl
set_option maxRecDepth 100000 in
theorem wd_548 : (.methodLink RXL 102 yXM_cover : Cond) ∈ W0 := List.mem_of_getElem? (i := 548) rfl
set_option maxRecDepth 100000 in
theorem wd_549 : (.instanceMethod yXM_cover : Cond) ∈ W0 := List.mem_of_getElem? (i := 549) rfl
set_option maxRecDepth 100000 in
theorem wd_550 : (.selects RXM yXM_cover yXM_cover : Cond) ∈ W0 := List.mem_of_getElem? (i := 550) rfl
set_option maxRecDepth 100000 in
theorem wd_551 : (.code yXM_cover cXM_cover 6 (some .int) : Cond) ∈ W0 := List.mem_of_getElem? (i := 551) rfl
set_option maxRecDepth 100000 in
theorem wd_552 : (.methodLink RXM 125 yXM_clique : Cond) ∈ W0 := List.mem_of_getElem? (i := 552) rfl
set_option maxRecDepth 100000 in
theorem wd_553 : (.instanceMethod yXM_clique : Cond) ∈ W0 := List.mem_of_getElem? (i := 553) rfl
set_option maxRecDepth 100000 in
theorem wd_554 : (.code yXM_clique cXM_clique 3 (some .boolean) : Cond) ∈ W0 := List.mem_of_getElem? (i := 554) rfl
theorem hinXC : ∀ w ∈ wsXC0, w ∈ W0 := by
  intro w hw
  obtain ⟨k, hk, rfl⟩ := List.mem_map.mp hw
  have hk : k < 2 := List.mem_range.mp hk
  rcases (show k = 0 ∨ k = 1 by omega) with rfl | rfl
  · exact wd_117
  · exact wd_118
theorem hinXE : ∀ w ∈ wsXE0, w ∈ W0 := by
  intro w hw
  obtain ⟨k, hk, rfl⟩ := List.mem_map.mp hw
  have hk : k < 4 := List.mem_range.mp hk
  rcases (show k = 0 ∨ k = 1 ∨ k = 2 ∨ k = 3 by omega) with rfl | rfl | rfl | rfl
  · exact wd_104
  · exact wd_105
  · exact wd_106
  · exact wd_107
theorem hinXG : ∀ w ∈ wsXG0, w ∈ W0 := by
  intro w hw
  obtain ⟨k, hk, rfl⟩ := List.mem_map.mp hw
  have hk : k < 2 := List.mem_range.mp hk
  rcases (show k = 0 ∨ k = 1 by omega) with rfl | rfl
  · exact wd_60
  · exact wd_61
theorem hinXT : ∀ w ∈ wsXT0, w ∈ W0 := by
  intro w hw
  obtain ⟨k, hk, rfl⟩ := List.mem_map.mp hw
  have hk : k < 10 := List.mem_range.mp hk
  rcases (show k = 0 ∨ k = 1 ∨ k = 2 ∨ k = 3 ∨ k = 4 ∨ k = 5 ∨ k = 6 ∨ k = 7 ∨ k = 8 ∨ k = 9 by omega) with rfl | rfl | rfl | rfl | rfl | rfl | rfl | rfl | rfl | rfl
  · exact wd_83
  · exact wd_84
  · exact wd_85
  · exact wd_86
  · exact wd_87
  · exact wd_88
  · exact wd_89
  · exact wd_90
  · exact wd_91
  · exact wd_92
theorem hinXF : ∀ w ∈ wsXF0, w ∈ W0 := by
  intro w hw
  obtain ⟨k, hk, rfl⟩ := List.mem_map.mp hw
  have hk : k < 4 := List.mem_range.mp hk
  rcases (show k = 0 ∨ k = 1 ∨ k = 2 ∨ k = 3 by omega) with rfl | rfl | rfl | rfl
  · exact wd_123
  · exact wd_124
  · exact wd_125
  · exact wd_126
theorem hinXM : ∀ w ∈ wsXM0, w ∈ W0 := by
  intro w hw
  obtain ⟨k, hk, rfl⟩ := List.mem_map.mp hw
  have hk : k < 12 := List.mem_range.mp hk
  rcases (show k = 0 ∨ k = 1 ∨ k = 2 ∨ k = 3 ∨ k = 4 ∨ k = 5 ∨ k = 6 ∨ k = 7 ∨ k = 8 ∨ k = 9 ∨ k = 10 ∨ k = 11 by omega) with rfl | rfl | rfl | rfl | rfl | rfl | rfl | rfl | rfl | rfl | rfl | rfl
  · exact wd_401
  · exact wd_402
  · exact wd_403
  · exact wd_404
  · exact wd_405
  · exact wd_406
  · exact wd_407
  · exact wd_408
  · exact wd_409
  · exact wd_410
  · exact wd_411
  · exact wd_412
theorem gC {y : MethodName} {b : ByteArray} {n : Nat} {r : Option FieldType} (h : Cond.code y b n r ∈ W0) : GoodIn W0 (Cond.code y b n r :: W0) := fun w hw => W0g w (by
  rcases List.mem_cons.mp hw with rfl | hw
  · exact h
  · exact hw)
theorem gV {own C : String} {i : Nat} {y : MethodName} {b : ByteArray} {n : Nat} {r : Option FieldType} (h1 : Cond.methodLink own i y ∈ W0) (h2 : Cond.instanceMethod y ∈ W0) (h3 : Cond.selects C y y ∈ W0) (h4 : Cond.initialized C ∈ W0) (h : Cond.code y b n r ∈ W0) : GoodIn W0 (wsV own i C y (Cond.code y b n r :: W0)) := by
  intro w hw
  unfold wsV at hw
  rcases List.mem_append.mp hw with hw | hw
  · simp only [List.mem_cons, List.not_mem_nil, or_false] at hw
    rcases hw with rfl | rfl | rfl | rfl
    · exact W0g _ h1
    · exact W0g _ h2
    · exact W0g _ h3
    · exact W0g _ h4
  · exact gC h w hw
theorem gS {own : String} {i : Nat} {y : MethodName} {b : ByteArray} {n : Nat} {r : Option FieldType} (h1 : Cond.methodLink own i y ∈ W0) (h2 : Cond.static y ∈ W0) (h4 : Cond.initialized own ∈ W0) (h : Cond.code y b n r ∈ W0) : GoodIn W0 (wsS own i y (Cond.code y b n r :: W0)) := by
  intro w hw
  unfold wsS at hw
  rcases List.mem_append.mp hw with hw | hw
  · simp only [List.mem_cons, List.not_mem_nil, or_false] at hw
    rcases hw with rfl | rfl | rfl
    · exact W0g _ h1
    · exact W0g _ h2
    · exact W0g _ h4
  · exact gC h w hw
abbrev wsXF_init : List Cond := .code yXF_init cXF_init 2 none :: W0
abbrev wsXG_init : List Cond := .code yXG_init cXG_init 2 none :: W0
abbrev wsXT_init : List Cond := .code yXT_init cXT_init 2 none :: W0
abbrev wsXG_size : List Cond := .code yXG_size cXG_size 1 (some .int) :: W0
abbrev wsXE_init : List Cond := .code yXE_init cXE_init 2 none :: W0
abbrev wsXC_init : List Cond := .code yXC_init cXC_init 2 none :: W0
abbrev wsXF_vertices : List Cond := .code yXF_vertices cXF_vertices 1 (some .int) :: W0
abbrev wsXF_flip : List Cond := .code yXF_flip cXF_flip 3 (some .boolean) :: W0
abbrev wsXG_has : List Cond := .code yXG_has cXG_has 2 (some .boolean) :: W0
abbrev wsXG_toggle : List Cond := .code yXG_toggle cXG_toggle 3 none :: W0
abbrev wsXT_forget : List Cond := .code yXT_forget cXT_forget 1 none :: W0
abbrev wsXG_edge : List Cond := .code yXG_edge cXG_edge 3 (some .boolean) :: W0
abbrev wsXF_contains : List Cond := .code yXF_contains cXF_contains 2 (some .boolean) :: W0
abbrev wsXF_neighbours : List Cond := .code yXF_neighbours cXF_neighbours 3 (some .boolean) :: W0
abbrev wsXF_component : List Cond := .code yXF_component cXF_component 2 (some .int) :: W0
abbrev wsXF_componentOf : List Cond := .code yXF_componentOf cXF_componentOf 2 (some .int) :: W0
abbrev wsXG_all : List Cond := .code yXG_all cXG_all 1 (some .int) :: W0
abbrev wsXG_reached : List Cond := .code yXG_reached cXG_reached 6 (some .int) :: W0
abbrev wsXG_nearToAny : List Cond := .code yXG_nearToAny cXG_nearToAny 5 (some .int) :: W0
abbrev wsXF_splits : List Cond := .code yXF_splits cXF_splits 2 (some .int) :: W0
abbrev wsXF_treeOf : List Cond := .code yXF_treeOf cXF_treeOf 2 (some (.object "SplitForest$SplitTree")) :: W0
abbrev wsXT_growFor : List Cond := .code yXT_growFor cXT_growFor 2 none :: W0
abbrev wsXT_findSplits : List Cond := .code yXT_findSplits cXT_findSplits 3 none :: W0
abbrev wsXT_isSplit : List Cond := .code yXT_isSplit cXT_isSplit 6 (some .boolean) :: W0
abbrev wsXJ_bitCount : List Cond := .code yXJ_bitCount cXJ_bitCount 1 (some .int) :: W0
abbrev wsXG_nearInside : List Cond := .code yXG_nearInside cXG_nearInside 3 (some .int) :: W0
abbrev wsXT_findNodes : List Cond := .code yXT_findNodes cXT_findNodes 2 none :: W0
abbrev wsXT_isStrong : List Cond := .code yXT_isStrong cXT_isStrong 4 (some .boolean) :: W0
abbrev wsXT_splitCount : List Cond := .code yXT_splitCount cXT_splitCount 1 (some .int) :: W0
abbrev wsXF_strong : List Cond := .code yXF_strong cXF_strong 2 (some .int) :: W0
abbrev wsXT_nodeCount : List Cond := .code yXT_nodeCount cXT_nodeCount 1 (some .int) :: W0
abbrev wsXF_set : List Cond := .code yXF_set cXF_set 3 (some .int) :: W0
abbrev wsXF_hasNode : List Cond := .code yXF_hasNode cXF_hasNode 3 (some .boolean) :: W0
abbrev wsXT_nodeSet : List Cond := .code yXT_nodeSet cXT_nodeSet 2 (some .int) :: W0
abbrev wsXF_kind : List Cond := .code yXF_kind cXF_kind 3 (some .int) :: W0
abbrev wsXT_nodeKind : List Cond := .code yXT_nodeKind cXT_nodeKind 2 (some .int) :: W0
abbrev wsXT_findJoins : List Cond := .code yXT_findJoins cXT_findJoins 4 none :: W0
abbrev wsXT_findParts : List Cond := .code yXT_findParts cXT_findParts 5 none :: W0
abbrev wsXT_partWith : List Cond := .code yXT_partWith cXT_partWith 7 (some .int) :: W0
abbrev wsXT_addPart : List Cond := .code yXT_addPart cXT_addPart 3 none :: W0
abbrev wsXG_joined : List Cond := .code yXG_joined cXG_joined 3 (some .boolean) :: W0
abbrev wsXT_centreIndex : List Cond := .code yXT_centreIndex cXT_centreIndex 2 (some .int) :: W0
abbrev wsXF_parts : List Cond := .code yXF_parts cXF_parts 3 (some .int) :: W0
abbrev wsXT_partCount : List Cond := .code yXT_partCount cXT_partCount 2 (some .int) :: W0
abbrev wsXF_part : List Cond := .code yXF_part cXF_part 4 (some .int) :: W0
abbrev wsXT_partSet : List Cond := .code yXT_partSet cXT_partSet 3 (some .int) :: W0
abbrev wsXF_centre : List Cond := .code yXF_centre cXF_centre 3 (some .int) :: W0
abbrev wsXT_centreSet : List Cond := .code yXT_centreSet cXT_centreSet 2 (some .int) :: W0
abbrev wsXF_linked : List Cond := .code yXF_linked cXF_linked 3 (some .boolean) :: W0
abbrev wsXT_links : List Cond := .code yXT_links cXT_links 6 (some .boolean) :: W0
abbrev wsXF_hereditary : List Cond := .code yXF_hereditary cXF_hereditary 2 (some .boolean) :: W0
abbrev wsXE_clears : List Cond := .code yXE_clears cXE_clears 5 (some .boolean) :: W0
abbrev wsXE_run : List Cond := .code yXE_run cXE_run 3 none :: W0
abbrev wsXE_nextStep : List Cond := .code yXE_nextStep cXE_nextStep 3 (some .int) :: W0
abbrev wsXE_stepAt : List Cond := .code yXE_stepAt cXE_stepAt 6 (some .int) :: W0
abbrev wsXG_areTwins : List Cond := .code yXG_areTwins cXG_areTwins 5 (some .boolean) :: W0
abbrev wsXF_step : List Cond := .code yXF_step cXF_step 3 (some .int) :: W0
abbrev wsXE_stepOf : List Cond := .code yXE_stepOf cXE_stepOf 3 (some .int) :: W0
abbrev wsXF_obstruction : List Cond := .code yXF_obstruction cXF_obstruction 2 (some .int) :: W0
abbrev wsXE_obstructionIn : List Cond := .code yXE_obstructionIn cXE_obstructionIn 5 (some .int) :: W0
abbrev wsXF_obstacle : List Cond := .code yXF_obstacle cXF_obstacle 3 (some .int) :: W0
abbrev wsXG_edgesInside : List Cond := .code yXG_edgesInside cXG_edgesInside 4 (some .int) :: W0
abbrev wsXF_obstacleKind : List Cond := .code yXF_obstacleKind cXF_obstacleKind 2 (some .int) :: W0
abbrev wsXF_apart : List Cond := .code yXF_apart cXF_apart 2 (some .int) :: W0
abbrev wsXC_largestApart : List Cond := .code yXC_largestApart cXC_largestApart 4 (some .int) :: W0
abbrev wsXF_chosen : List Cond := .code yXF_chosen cXF_chosen 2 (some .int) :: W0
abbrev wsXF_cover : List Cond := .code yXF_cover cXF_cover 2 (some .int) :: W0
abbrev wsXC_fewestCliques : List Cond := .code yXC_fewestCliques cXC_fewestCliques 4 (some .int) :: W0
abbrev wsXC_coverWith : List Cond := .code yXC_coverWith cXC_coverWith 4 none :: W0
abbrev wsXC_fewestWith : List Cond := .code yXC_fewestWith cXC_fewestWith 6 (some .int) :: W0
abbrev wsXL_cell : List Cond := .code yXL_cell cXL_cell 2 (some .int) :: W0
abbrev wsXM_init : List Cond := .code yXM_init cXM_init 2 none :: W0
abbrev wsXM_vertices : List Cond := .code yXM_vertices cXM_vertices 1 (some .int) :: W0
abbrev wsXM_flip : List Cond := .code yXM_flip cXM_flip 3 (some .boolean) :: W0
abbrev wsXM_is : List Cond := .code yXM_is cXM_is 2 (some .boolean) :: W0
abbrev wsXM_neighbours : List Cond := .code yXM_neighbours cXM_neighbours 3 (some .boolean) :: W0
abbrev wsXM_component : List Cond := .code yXM_component cXM_component 2 (some .int) :: W0
abbrev wsXM_within : List Cond := .code yXM_within cXM_within 6 (some .int) :: W0
abbrev wsXM_splits : List Cond := .code yXM_splits cXM_splits 2 (some .int) :: W0
abbrev wsXM_find : List Cond := .code yXM_find cXM_find 6 none :: W0
abbrev wsXM_least : List Cond := .code yXM_least cXM_least 2 (some .int) :: W0
abbrev wsXM_size : List Cond := .code yXM_size cXM_size 3 (some .int) :: W0
abbrev wsXM_complete : List Cond := .code yXM_complete cXM_complete 7 (some .boolean) :: W0
abbrev wsXM_cross : List Cond := .code yXM_cross cXM_cross 2 (some .boolean) :: W0
abbrev wsXM_strong : List Cond := .code yXM_strong cXM_strong 2 (some .int) :: W0
abbrev wsXM_set : List Cond := .code yXM_set cXM_set 3 (some .int) :: W0
abbrev wsXM_nodeSet : List Cond := .code yXM_nodeSet cXM_nodeSet 4 (some .int) :: W0
abbrev wsXM_kind : List Cond := .code yXM_kind cXM_kind 4 (some .int) :: W0
abbrev wsXM_open : List Cond := .code yXM_open cXM_open 6 (some .boolean) :: W0
abbrev wsXM_isPart : List Cond := .code yXM_isPart cXM_isPart 10 (some .boolean) :: W0
abbrev wsXM_inside : List Cond := .code yXM_inside cXM_inside 2 (some .boolean) :: W0
abbrev wsXM_middle : List Cond := .code yXM_middle cXM_middle 4 (some .int) :: W0
abbrev wsXM_links : List Cond := .code yXM_links cXM_links 4 (some .int) :: W0
abbrev wsXM_joined : List Cond := .code yXM_joined cXM_joined 5 (some .boolean) :: W0
abbrev wsXM_parts : List Cond := .code yXM_parts cXM_parts 3 (some .int) :: W0
abbrev wsXM_part : List Cond := .code yXM_part cXM_part 4 (some .int) :: W0
abbrev wsXM_centre : List Cond := .code yXM_centre cXM_centre 4 (some .int) :: W0
abbrev wsXM_linked : List Cond := .code yXM_linked cXM_linked 9 (some .boolean) :: W0
abbrev wsXM_partOf : List Cond := .code yXM_partOf cXM_partOf 4 (some .int) :: W0
abbrev wsXM_hereditary : List Cond := .code yXM_hereditary cXM_hereditary 2 (some .boolean) :: W0
abbrev wsXM_fine : List Cond := .code yXM_fine cXM_fine 4 (some .boolean) :: W0
abbrev wsXM_eliminate : List Cond := .code yXM_eliminate cXM_eliminate 5 none :: W0
abbrev wsXM_way : List Cond := .code yXM_way cXM_way 7 (some .int) :: W0
abbrev wsXM_step : List Cond := .code yXM_step cXM_step 3 (some .int) :: W0
abbrev wsXM_obstruction : List Cond := .code yXM_obstruction cXM_obstruction 5 (some .int) :: W0
abbrev wsXM_obstacle : List Cond := .code yXM_obstacle cXM_obstacle 5 (some .int) :: W0
abbrev wsXM_edges : List Cond := .code yXM_edges cXM_edges 4 (some .int) :: W0
abbrev wsXM_apart : List Cond := .code yXM_apart cXM_apart 2 (some .int) :: W0
abbrev wsXM_best : List Cond := .code yXM_best cXM_best 6 (some .int) :: W0
abbrev wsXM_chosen : List Cond := .code yXM_chosen cXM_chosen 2 (some .int) :: W0
abbrev wsXM_cover : List Cond := .code yXM_cover cXM_cover 6 (some .int) :: W0
abbrev wsXM_clique : List Cond := .code yXM_clique cXM_clique 3 (some .boolean) :: W0
/-- the links of nest mates: they stand in the contracts -/
def kN (U : State) : Prop := va_Nw (.methodLinkNest RXG 17 yXF_contains "SplitForest") U ∧ va_Nw (.methodLinkNest RXT 86 yXF_contains "SplitForest") U ∧ va_Nw (.methodLinkNest RXE 33 yXF_contains "SplitForest") U ∧ va_Nw (.methodLinkNest RXC 33 yXF_contains "SplitForest") U
theorem kN_same {u U : State} (h : u.vm = U.vm) (z : kN u) : kN U := ⟨va_Nw.same rfl h z.1, va_Nw.same rfl h z.2.1, va_Nw.same rfl h z.2.2.1, va_Nw.same rfl h z.2.2.2⟩
theorem kN_warm {s U : State} (h : s.WarmedH U.vm) (z : kN s) : kN U := ⟨va_Nw.warmM h z.1, va_Nw.warmM h z.2.1, va_Nw.warmM h z.2.2.1, va_Nw.warmM h z.2.2.2⟩
theorem kN_of {a : Array Value} {s : State} (h : ∀ w ∈ lw_tbl, w.before a s = true) : kN s := ⟨va_Nw.of rfl (h (.methodLinkNest RXG 17 yXF_contains "SplitForest") (by decide +kernel)), va_Nw.of rfl (h (.methodLinkNest RXT 86 yXF_contains "SplitForest") (by decide +kernel)), va_Nw.of rfl (h (.methodLinkNest RXE 33 yXF_contains "SplitForest") (by decide +kernel)), va_Nw.of rfl (h (.methodLinkNest RXC 33 yXF_contains "SplitForest") (by decide +kernel))⟩
end
section
/-! Tools of this claim's walks. A method's MIRROR is a pure function with fuel (m.._..); a contract says: where the mirror answers 'some', the machine answers the same. -/
def kl {α : Type} (v : Int32) (f : Int32 → Option α) : Option α := f v
def kg {α : Type} (i : Int32) (n : Nat) (x : Option α) : Option α := if i < 0 ∨ n ≤ i.toNatClampNeg then none else x
def kz {α : Type} (v : Int32) (x : Option α) : Option α := if v = 0 ∨ v = 1 then x else none
def kB (r : Int32) : Prop := r = 0 ∨ r = 1
def kT (_ : Int32) : Prop := True
theorem kl_s {α : Type} {v x : Int32} {f : Int32 → Option α} {r : Option α} (e : x = v) (h : kl v f = r) : f x = r := by
  subst e
  exact h
theorem kg_s {α : Type} {i : Int32} {n : Nat} {x : Option α} {r : α} (h : kg i n x = some r) : vp_in i n ∧ x = some r := by
  unfold kg at h
  by_cases hc : i < 0 ∨ n ≤ i.toNatClampNeg
  · rw [if_pos hc] at h
    cases h
  · rw [if_neg hc] at h
    exact ⟨hc, h⟩
theorem kz_s {α : Type} {v : Int32} {x : Option α} {r : α} (h : kz v x = some r) : kB v ∧ x = some r := by
  unfold kz at h
  by_cases hc : v = 0 ∨ v = 1
  · rw [if_pos hc] at h
    exact ⟨hc, h⟩
  · rw [if_neg hc] at h
    cases h
theorem kb_s {α β : Type} {o : Option α} {f : α → Option β} {r : β} (h : o.bind f = some r) : ∃ a, o = some a ∧ f a = some r := by
  cases o with
  | none => cases h
  | some a => exact ⟨a, rfl, h⟩
theorem kB_nar {v : Int32} (h : kB v) : narrow .boolean (.int v) = .int v := by
  rcases h with h | h <;> (subst h; rfl)
theorem kB_fit {v : Int32} (h : kB v) : fits .boolean (.int v) = true := by
  rcases h with h | h <;> (subst h; rfl)
abbrev kTy (cA : ClassId) : List (ClassId × FieldType) := [(cA, .int)]
def kPc (D : va_G) (cA : ClassId) (av : List Value) (w : va_W) (sz : Nat) : Array Value → State → Prop := va_Pc av (fun U => U.heap.size = sz ∧ va_P D vwCl w U.heap ∧ va_K D vwCl (kTy cA) U ∧ va_D (fun _ => True) w ∧ kN U)
def kQi (D : va_G) (cA : ClassId) (ok : Int32 → Prop) (A : Nat → Prop) (w : va_W) (r : Int32) : Array Value → State → Outcome → State → Prop := va_Qi (fun (r' : Int32) (_ : Unit) => r' = r ∧ ok r) (fun _ t => va_P D vwCl w t.heap ∧ va_K D vwCl (kTy cA) t ∧ va_D A w) A
def kQv (D : va_G) (cA : ClassId) (A : Nat → Prop) (w : va_W) : Array Value → State → Outcome → State → Prop := va_Qv (fun (_ : Unit) => True) (fun _ t => va_P D vwCl w t.heap ∧ va_K D vwCl (kTy cA) t ∧ va_D A w) A
def kQr (D : va_G) (cA : ClassId) (A : Nat → Prop) (w : va_W) (a0 : Nat) : Array Value → State → Outcome → State → Prop := va_Qr (fun (_ : Unit) => True) (fun _ a t => a = a0 ∧ va_P D vwCl w t.heap ∧ va_K D vwCl (kTy cA) t ∧ va_D A w) A
def kQn {α : Type} (D : va_G) (cA : ClassId) (A : Nat → Prop) (wv : α → va_W) : Array Value → State → Outcome → State → Prop := va_Qv (fun (_ : α) => True) (fun u t => va_P D vwCl (wv u) t.heap ∧ va_K D vwCl (kTy cA) t ∧ va_D A (wv u)) A
theorem kPc_blind (D : va_G) (cA : ClassId) (av : List Value) (w : va_W) (sz : Nat) : FrameBlind (kPc D cA av w sz) := fun a U g mk q => by
  obtain ⟨q0, q1, qP, qK, qD, qN⟩ := q
  exact ⟨q0, q1, qP, va_K.moved (u := U) (U := U.calling g mk a) (Vm.Alike.refl U.vm) qK, qD, kN_same (U := U.calling g mk a) rfl qN⟩
def kX (p : Program) (cc : ByteArray) (nL : Nat) (ret : Option FieldType) (own mn : String) (Ts : List Cond) (s : State) (m : MethodId) (args : Array Value) (meth : Method) (c : Code) : Prop :=
  p.tables.exec = Jvm.exec ∧ c.code = cc ∧ meth.sig.returnType = ret ∧ c.maxLocals = nL ∧ s.vm.findClass own = some m.cls ∧ (∀ w ∈ Ts, w.before args s = true) ∧ meth.locks = false ∧ meth.name = mn
/-- a contract out of a walk from the method's entry -/
theorem k_met {l : Launch} {y : MethodName} {ws ws' : List Cond} {rm : Room} {cc : ByteArray} {maxL : Nat} {ret : Option FieldType} {D : va_G} {cA : ClassId} {av : List Value} {w : va_W} {sz mc ms : Nat} {Qc : (Nat → Prop) → Array Value → State → Outcome → State → Prop}
    (hy : plainName y.cls = true) (hw : ws = Cond.code y cc maxL ret :: ws') (hn : (lg_sl av).length ≤ maxL)
    (body : ∀ (p : Program) (e : Env) (s : State) (m : MethodId) (below : List Frame) (meth : Method) (c : Code) (A : Nat → Prop) (ls : Array Slot), kX p cc maxL ret y.cls y.name ws s m av.toArray meth c → va_K D vwCl (kTy cA) s → kN s → (∀ q : Nat, s.heap.size ≤ q → A q) → va_P D vwCl w s.heap → va_D A w → lv_has ls maxL (lv_args 0 av) →
      W p l e rm s m av.toArray below meth c s.heap [] 0 0 (MQ below (Qc A) av.toArray s mc ms A) (F0 m 0 ls [])) :
    Met l y ws rm (kPc D cA av w sz) (Qc (va_A w sz)) mc ms (va_A w sz) := by
  refine Met.ofW (cc := cc) (maxL := maxL) (ret := ret) hy hw ?_
  intro p e s m args below meth c s₁ B hml hv
  obtain ⟨rfl, hsz, hP, hK, hD0, hN⟩ := hv
  have hts := atoms_spec (ws := ws) B.pre
  have hown : s.vm.findClass y.cls = some m.cls := findClass_of_methodNamed B.named
  subst hsz
  have hl := lv_entry av (n := maxL) hn
  rw [lg_entry_eq]
  exact body p e s m below meth c _ _ ⟨B.exec, B.bytes, B.returns, hml, hown, hts, B.notSynchronized, (name_of_methodNamed B.named B.method).1⟩ hK hN (fun q h => Or.inr h) hP hD0.self hl
section KW
variable {p : Program} {l : Launch} {e : Env} {R : Room} {s : State} {m : MethodId} {args : Array Value} {below : List Frame} {meth : Method} {c : Code} {H : Heap} {locs : List Loc} {cells slots : Nat} {Q : State → Prop}
variable {cc bytes : ByteArray} {nL maxL n index : Nat} {own C host : String} {y : MethodName} {ret : Option FieldType} {wsy Ts : List Cond} {rm : Room} {D : va_G} {cA : ClassId} {A : Nat → Prop} {H0 : Heap} {pc : Nat} {ls : Array Slot} {rest st0 : List Value} {b a0 : Nat} {As : List Value} {ws wc w1 w2 : va_W} {ok : Int32 → Prop} {r v : Int32}
theorem k_iret (hx : p.tables.exec = Jvm.exec) (hb : c.code = cc) (hr : meth.sig.returnType = some .int) (hlocks : meth.locks = false) (hK : va_K D vwCl (kTy cA) s) (hP : va_P D vwCl ws H) (hD : va_D A ws) (hS : va_S A s.heap H locs) (hv : ok v) (hdg : decode cc pc = .ok (.ireturn, 1)) :
    W p l e R s m args below meth c H locs cells slots (MQ below (kQi D cA ok A ws v) args s cells slots A) (F0 m pc ls [.int v]) :=
  W.iret hx hb hr (fun t ht hW => ⟨⟨v, (), rfl, ⟨rfl, hv⟩, by rw [ht]; exact hP, va_K.moved hW.alike hK, hD⟩, hS.F ht⟩) hS.2.2 hdg hlocks
theorem k_zret (hx : p.tables.exec = Jvm.exec) (hb : c.code = cc) (hr : meth.sig.returnType = some .boolean) (hlocks : meth.locks = false) (hK : va_K D vwCl (kTy cA) s) (hP : va_P D vwCl ws H) (hD : va_D A ws) (hS : va_S A s.heap H locs) (hv : kB v) (hdg : decode cc pc = .ok (.ireturn, 1)) :
    W p l e R s m args below meth c H locs cells slots (MQ below (kQi D cA kB A ws v) args s cells slots A) (F0 m pc ls [.int v]) :=
  W.zret hx hb hr (kB_nar hv) (fun t ht hW => ⟨⟨v, (), rfl, ⟨rfl, hv⟩, by rw [ht]; exact hP, va_K.moved hW.alike hK, hD⟩, hS.F ht⟩) hS.2.2 hdg hlocks
theorem k_vret (hx : p.tables.exec = Jvm.exec) (hb : c.code = cc) (hr : meth.sig.returnType = none) (hlocks : meth.locks = false) (hK : va_K D vwCl (kTy cA) s) (hP : va_P D vwCl ws H) (hD : va_D A ws) (hS : va_S A s.heap H locs) (hdg : decode cc pc = .ok (.return_, 1)) :
    W p l e R s m args below meth c H locs cells slots (MQ below (kQv D cA A ws) args s cells slots A) (F0 m pc ls []) :=
  W.vret hx hb hr (fun t ht hW => ⟨⟨(), rfl, trivial, by rw [ht]; exact hP, va_K.moved hW.alike hK, hD⟩, hS.F ht⟩) hS.2.2 hdg hlocks
theorem k_rret {cn : String} (hx : p.tables.exec = Jvm.exec) (hb : c.code = cc) (hr : meth.sig.returnType = some (.object cn)) (hlocks : meth.locks = false) (hK : va_K D vwCl (kTy cA) s) (hP : va_P D vwCl ws H) (hD : va_D A ws) (hS : va_S A s.heap H locs) (hdg : decode cc pc = .ok (.areturn, 1)) :
    W p l e R s m args below meth c H locs cells slots (MQ below (kQr D cA A ws a0) args s cells slots A) (F0 m pc ls [.ref a0]) :=
  W.aret hx hb hr (Or.inl ⟨cn, rfl⟩) (Or.inr ⟨a0, rfl⟩) (fun t ht hW => ⟨⟨(), a0, rfl, trivial, rfl, by rw [ht]; exact hP, va_K.moved hW.alike hK, hD⟩, hS.F ht⟩) hS.2.2 hdg hlocks
/-- the callee's cells wc at the places isC of ws; the others at isR; behind the call, others and callee's (w1), put in the order isP, are w2 -/
def k_cut (ws wc w1 w2 : va_W) (isC isR isP : List Nat) : Prop :=
  isC.map (fun i => ws[i]?) = wc.map some ∧ isC.filterMap (fun i => ws[i]?) = wc ∧ va_nd isC = true ∧ isR.map (fun i => ws[i]?) = (isR.filterMap (fun i => ws[i]?)).map some ∧ va_nd isR = true ∧ (∀ i ∈ isR, i ∉ isC) ∧ isP.map (fun i => (isR.filterMap (fun i => ws[i]?) ++ w1)[i]?) = w2.map some ∧ isP.filterMap (fun i => (isR.filterMap (fun i => ws[i]?) ++ w1)[i]?) = w2 ∧ va_nd isP = true
theorem k_vi (S : CallFix p m c cc nL s args Ts own) (hM : Met l y wsy rm (kPc D cA (.ref b :: As) wc H.size) (kQi D cA ok (va_A wc H.size) w1 r) 0 0 (va_A wc H.size)) (cw : CallW R s args own C index y bytes maxL ret wsy rm 0 0 n) (hK : va_K D vwCl (kTy cA) s) (hN : kN s) (hP : va_P D vwCl ws H) (hD : va_D A ws) (hS : va_S A H0 H locs) (hA : ∀ q, H0.size ≤ q → A q)
    (isC isR isP : List Nat) (hcut : k_cut ws wc w1 w2 isC isR isP) (hv : ∃ cell : Cell, H[b]? = some cell ∧ cell.vm.isStatics = false ∧ s.vm.findClass C = some cell.cls) (hn : As.length = n) (hsz : ls.size = nL) (hst : st0 = As.reverse ++ .ref b :: rest) (hrm : (rest.map fun v => v.category).sum ≤ 8) (hdg : decode cc pc = .ok (.invokevirtual index, 3)) (hf : cells + 0 ≤ R.cells ∧ slots + 0 ≤ R.slots)
    (kk : ok r → ∀ (H : Heap) (locs : List Loc), va_P D vwCl w2 H → va_D A w2 → va_S A H0 H locs → W p l e R s m args below meth c H locs cells slots Q (F0 m (pc + 3) ls (.int r :: rest))) : W p l e R s m args below meth c H locs cells slots Q (F0 m pc ls st0) := by
  obtain ⟨h1, h2, h3, h4, h5, h6, h7, h8, h9⟩ := hcut
  have hPc := hP.sub isC h2
  have hDc := hD.sub isC h3 h1
  have hFc := va_free hD hS hA isC h1
  refine va_calli (va_runV (As := As) (rest := rest) S hM cw ⟨kPc_blind _ _ _ _ _, hv, fun U hU hW => ⟨rfl, by rw [hU], by rw [hU]; exact hPc, va_K.moved hW.alike hK, hDc.weaken (fun _ _ _ _ => trivial), kN_warm hW hN⟩⟩ rfl hn hsz hst (lv_room hrm) hdg hf) hS (fun q _ h => hFc q h) hFc (fun r' u t H1 locs1 ht hvm hw hB hz1 hk1 hS1 => ?_)
  obtain ⟨hP1, hK1, hD1⟩ := hB
  rw [ht] at hP1
  obtain ⟨hw, hok⟩ := hw
  subst hw
  obtain ⟨hP2, hD2⟩ := va_join hP hD isC isR h1 h4 h5 h6 hk1 hFc hP1 hD1
  exact kk hok H1 locs1 (hP2.sub isP h8) (hD2.sub isP h9 h7) hS1
theorem k_vv (S : CallFix p m c cc nL s args Ts own) (hM : Met l y wsy rm (kPc D cA (.ref b :: As) wc H.size) (kQv D cA (va_A wc H.size) w1) 0 0 (va_A wc H.size)) (cw : CallW R s args own C index y bytes maxL ret wsy rm 0 0 n) (hK : va_K D vwCl (kTy cA) s) (hN : kN s) (hP : va_P D vwCl ws H) (hD : va_D A ws) (hS : va_S A H0 H locs) (hA : ∀ q, H0.size ≤ q → A q)
    (isC isR isP : List Nat) (hcut : k_cut ws wc w1 w2 isC isR isP) (hv : ∃ cell : Cell, H[b]? = some cell ∧ cell.vm.isStatics = false ∧ s.vm.findClass C = some cell.cls) (hn : As.length = n) (hsz : ls.size = nL) (hst : st0 = As.reverse ++ .ref b :: rest) (hrm : (rest.map fun v => v.category).sum ≤ 8) (hdg : decode cc pc = .ok (.invokevirtual index, 3)) (hf : cells + 0 ≤ R.cells ∧ slots + 0 ≤ R.slots)
    (kk : ∀ (H : Heap) (locs : List Loc), va_P D vwCl w2 H → va_D A w2 → va_S A H0 H locs → W p l e R s m args below meth c H locs cells slots Q (F0 m (pc + 3) ls rest)) : W p l e R s m args below meth c H locs cells slots Q (F0 m pc ls st0) := by
  obtain ⟨h1, h2, h3, h4, h5, h6, h7, h8, h9⟩ := hcut
  have hPc := hP.sub isC h2
  have hDc := hD.sub isC h3 h1
  have hFc := va_free hD hS hA isC h1
  refine va_callv (va_runV (As := As) (rest := rest) S hM cw ⟨kPc_blind _ _ _ _ _, hv, fun U hU hW => ⟨rfl, by rw [hU], by rw [hU]; exact hPc, va_K.moved hW.alike hK, hDc.weaken (fun _ _ _ _ => trivial), kN_warm hW hN⟩⟩ rfl hn hsz hst (lv_room hrm) hdg hf) hS (fun q _ h => hFc q h) hFc (fun u t H1 locs1 ht hvm hw hB hz1 hk1 hS1 => ?_)
  obtain ⟨hP1, hK1, hD1⟩ := hB
  rw [ht] at hP1
  obtain ⟨hP2, hD2⟩ := va_join hP hD isC isR h1 h4 h5 h6 hk1 hFc hP1 hD1
  exact kk H1 locs1 (hP2.sub isP h8) (hD2.sub isP h9 h7) hS1
theorem k_vr (S : CallFix p m c cc nL s args Ts own) (hM : Met l y wsy rm (kPc D cA (.ref b :: As) wc H.size) (kQr D cA (va_A wc H.size) w1 a0) 0 0 (va_A wc H.size)) (cw : CallW R s args own C index y bytes maxL ret wsy rm 0 0 n) (hK : va_K D vwCl (kTy cA) s) (hN : kN s) (hP : va_P D vwCl ws H) (hD : va_D A ws) (hS : va_S A H0 H locs) (hA : ∀ q, H0.size ≤ q → A q)
    (isC isR isP : List Nat) (hcut : k_cut ws wc w1 w2 isC isR isP) (hv : ∃ cell : Cell, H[b]? = some cell ∧ cell.vm.isStatics = false ∧ s.vm.findClass C = some cell.cls) (hn : As.length = n) (hsz : ls.size = nL) (hst : st0 = As.reverse ++ .ref b :: rest) (hrm : (rest.map fun v => v.category).sum ≤ 8) (hdg : decode cc pc = .ok (.invokevirtual index, 3)) (hf : cells + 0 ≤ R.cells ∧ slots + 0 ≤ R.slots)
    (kk : ∀ (H : Heap) (locs : List Loc), va_P D vwCl w2 H → va_D A w2 → va_S A H0 H locs → W p l e R s m args below meth c H locs cells slots Q (F0 m (pc + 3) ls (.ref a0 :: rest))) : W p l e R s m args below meth c H locs cells slots Q (F0 m pc ls st0) := by
  obtain ⟨h1, h2, h3, h4, h5, h6, h7, h8, h9⟩ := hcut
  have hPc := hP.sub isC h2
  have hDc := hD.sub isC h3 h1
  have hFc := va_free hD hS hA isC h1
  refine va_callr (va_runV (As := As) (rest := rest) S hM cw ⟨kPc_blind _ _ _ _ _, hv, fun U hU hW => ⟨rfl, by rw [hU], by rw [hU]; exact hPc, va_K.moved hW.alike hK, hDc.weaken (fun _ _ _ _ => trivial), kN_warm hW hN⟩⟩ rfl hn hsz hst (lv_room hrm) hdg hf) hS (fun q _ h => hFc q h) hFc (fun u ra t H1 locs1 ht hvm hw hB hz1 hk1 hS1 => ?_)
  obtain ⟨hra, hP1, hK1, hD1⟩ := hB
  rw [ht] at hP1
  subst hra
  obtain ⟨hP2, hD2⟩ := va_join hP hD isC isR h1 h4 h5 h6 hk1 hFc hP1 hD1
  exact kk H1 locs1 (hP2.sub isP h8) (hD2.sub isP h9 h7) hS1
/-- a static method that has no world: the cells stay -/
theorem k_s0 (S : CallFix p m c cc nL s args Ts own) (hM : Met l y wsy rm (kPc D cA As [] H.size) (kQi D cA ok (va_A [] H.size) [] r) 0 0 (va_A [] H.size)) (cw : CallB R s args own index y bytes maxL ret wsy rm 0 0 n ∧ (Cond.static y).before args s = true) (hK : va_K D vwCl (kTy cA) s) (hN : kN s) (hP : va_P D vwCl ws H) (hD : va_D A ws) (hS : va_S A H0 H locs) (hA : ∀ q, H0.size ≤ q → A q)
    (hn : As.length = n) (hsz : ls.size = nL) (hst : st0 = As.reverse ++ rest) (hrm : (rest.map fun v => v.category).sum ≤ 8) (hdg : decode cc pc = .ok (.invokestatic index, 3)) (hf : cells + 0 ≤ R.cells ∧ slots + 0 ≤ R.slots)
    (kk : ok r → ∀ (H : Heap) (locs : List Loc), va_P D vwCl ws H → va_D A ws → va_S A H0 H locs → W p l e R s m args below meth c H locs cells slots Q (F0 m (pc + 3) ls (.int r :: rest))) : W p l e R s m args below meth c H locs cells slots Q (F0 m pc ls st0) := by
  have hPc : va_P D vwCl [] H := hP.sub [] rfl
  have hDc : va_D A [] := hD.sub [] rfl rfl
  have hFc : ∀ q, va_A [] H.size q → A q := va_free (wc := []) hD hS hA [] rfl
  refine va_calli (va_runS (As := As) (rest := rest) S hM cw ⟨kPc_blind _ _ _ _ _, fun U hU hW => ⟨rfl, by rw [hU], by rw [hU]; exact hPc, va_K.moved hW.alike hK, hDc.weaken (fun _ _ _ _ => trivial), kN_warm hW hN⟩⟩ rfl hn hsz hst (lv_room hrm) hdg hf) hS (fun q _ h => hFc q h) hFc (fun r' u t H1 locs1 ht hvm hw hB hz1 hk1 hS1 => ?_)
  obtain ⟨hw, hok⟩ := hw
  subst hw
  exact kk hok H1 locs1 (hP.kept (fun k q hq => hk1 _ (hP k q hq).lt (fun hz => by
    rcases hz with ⟨k', e', he'⟩ | hz
    · simp at he'
    · exact absurd (hP k q hq).lt (Nat.not_lt.mpr hz)))) hD hS1
theorem k_n0 (S : CallFix p m c cc nL s args Ts own) (hM : Met l y wsy rm (kPc D cA As [] H.size) (kQi D cA ok (va_A [] H.size) [] r) 0 0 (va_A [] H.size)) (cw : va_CN R s args own index y host bytes maxL ret wsy rm 0 0 n ∧ (Cond.static y).before args s = true ∧ True) (hK : va_K D vwCl (kTy cA) s) (hN : kN s) (hP : va_P D vwCl ws H) (hD : va_D A ws) (hS : va_S A H0 H locs) (hA : ∀ q, H0.size ≤ q → A q)
    (hn : As.length = n) (hsz : ls.size = nL) (hst : st0 = As.reverse ++ rest) (hrm : (rest.map fun v => v.category).sum ≤ 8) (hdg : decode cc pc = .ok (.invokestatic index, 3)) (hf : cells + 0 ≤ R.cells ∧ slots + 0 ≤ R.slots)
    (kk : ok r → ∀ (H : Heap) (locs : List Loc), va_P D vwCl ws H → va_D A ws → va_S A H0 H locs → W p l e R s m args below meth c H locs cells slots Q (F0 m (pc + 3) ls (.int r :: rest))) : W p l e R s m args below meth c H locs cells slots Q (F0 m pc ls st0) := by
  have hPc : va_P D vwCl [] H := hP.sub [] rfl
  have hDc : va_D A [] := hD.sub [] rfl rfl
  have hFc : ∀ q, va_A [] H.size q → A q := va_free (wc := []) hD hS hA [] rfl
  refine va_calli (va_runSN (As := As) (rest := rest) S hM cw ⟨kPc_blind _ _ _ _ _, fun U hU hW => ⟨rfl, by rw [hU], by rw [hU]; exact hPc, va_K.moved hW.alike hK, hDc.weaken (fun _ _ _ _ => trivial), kN_warm hW hN⟩⟩ rfl hn hsz hst (lv_room hrm) hdg hf) hS (fun q _ h => hFc q h) hFc (fun r' u t H1 locs1 ht hvm hw hB hz1 hk1 hS1 => ?_)
  obtain ⟨hw, hok⟩ := hw
  subst hw
  exact kk hok H1 locs1 (hP.kept (fun k q hq => hk1 _ (hP k q hq).lt (fun hz => by
    rcases hz with ⟨k', e', he'⟩ | hz
    · simp at he'
    · exact absurd (hP k q hq).lt (Nat.not_lt.mpr hz)))) hD hS1
theorem k_nret {α : Type} {wv : α → va_W} (u : α) (hx : p.tables.exec = Jvm.exec) (hb : c.code = cc) (hr : meth.sig.returnType = none) (hlocks : meth.locks = false) (hK : va_K D vwCl (kTy cA) s) (hP : va_P D vwCl (wv u) H) (hD : va_D A (wv u)) (hS : va_S A s.heap H locs) (hdg : decode cc pc = .ok (.return_, 1)) :
    W p l e R s m args below meth c H locs cells slots (MQ below (kQn D cA A wv) args s cells slots A) (F0 m pc ls []) :=
  W.vret hx hb hr (fun t ht hW => ⟨⟨u, rfl, trivial, by rw [ht]; exact hP, va_K.moved hW.alike hK, hD⟩, hS.F ht⟩) hS.2.2 hdg hlocks
/-- a constructor's call: new cells may come, at addresses u -/
theorem k_ci {α : Type} {mc ms : Nat} {wv w3 : α → va_W} (S : CallFix p m c cc nL s args Ts own) (hM : Met l y wsy rm (kPc D cA (.ref b :: As) wc H.size) (kQn D cA (va_A wc H.size) wv) mc ms (va_A wc H.size)) (cw : CallB R s args own index y bytes maxL none wsy rm mc ms n ∧ y.name = "<init>" ∧ (Cond.instanceMethod y).before args s = true) (hK : va_K D vwCl (kTy cA) s) (hN : kN s) (hP : va_P D vwCl ws H) (hD : va_D A ws) (hS : va_S A H0 H locs) (hA : ∀ q, H0.size ≤ q → A q)
    (isC isR isP : List Nat) (hC : isC.map (fun i => ws[i]?) = wc.map some ∧ isC.filterMap (fun i => ws[i]?) = wc ∧ va_nd isC = true) (hcut : ∀ u : α, k_cut ws wc (wv u) (w3 u) isC isR isP) (hn : As.length = n) (hsz : ls.size = nL) (hst : st0 = As.reverse ++ .ref b :: rest) (hrm : (rest.map fun v => v.category).sum ≤ 8) (hdg : decode cc pc = .ok (.invokespecial index, 3)) (hf : cells + mc ≤ R.cells ∧ slots + ms ≤ R.slots)
    (kk : ∀ (u : α) (H : Heap) (locs : List Loc), va_P D vwCl (w3 u) H → va_D A (w3 u) → va_S A H0 H locs → W p l e R s m args below meth c H locs (cells + mc) (slots + ms) Q (F0 m (pc + 3) ls rest)) : W p l e R s m args below meth c H locs cells slots Q (F0 m pc ls st0) := by
  have hPc := hP.sub isC hC.2.1
  have hDc := hD.sub isC hC.2.2 hC.1
  have hFc := va_free hD hS hA isC hC.1
  refine va_callv (va_runI (As := As) (rest := rest) S hM cw ⟨kPc_blind _ _ _ _ _, fun U hU hW => ⟨rfl, by rw [hU], by rw [hU]; exact hPc, va_K.moved hW.alike hK, hDc.weaken (fun _ _ _ _ => trivial), kN_warm hW hN⟩⟩ rfl hn hsz hst (lv_room hrm) hdg hf) hS (fun q _ h => hFc q h) hFc (fun u t H1 locs1 ht hvm hw hB hz1 hk1 hS1 => ?_)
  obtain ⟨h1, h2, h3, h4, h5, h6, h7, h8, h9⟩ := hcut u
  obtain ⟨hP1, hK1, hD1⟩ := hB
  rw [ht] at hP1
  obtain ⟨hP2, hD2⟩ := va_join hP hD isC isR h1 h4 h5 h6 hk1 hFc hP1 hD1
  exact kk u H1 locs1 (hP2.sub isP h8) (hD2.sub isP h9 h7) hS1
/-- a new array of ints: its class is the one class of int arrays -/
theorem k_newa (hx : p.tables.exec = Jvm.exec) (hb : c.code = cc) (harr : (Cond.arrayClass .int).before args s = true) (hK : va_K D vwCl (kTy cA) s) (hP : va_P D vwCl ws H) (hD : va_D A ws) (hS : va_S A H0 H locs) (hA : ∀ q, H0.size ≤ q → A q) {k : Int32} {N' : Nat} (hk : ¬ k < 0) (hN : k.toNatClampNeg = N') (hbytes : N' ≤ 1000000) (hcells : cells + 1 ≤ R.cells) (hslots : slots + N' ≤ R.slots) (hdg : decode cc pc = .ok (.newarray .int, 2))
    (kk : ∀ (q : Nat) (H : Heap), va_P D vwCl (ws ++ [(q, .inl (cA, N', .inl (fun _ => 0)))]) H → va_D A (ws ++ [(q, .inl (cA, N', .inl (fun _ => 0)))]) → va_S A H0 H locs → W p l e R s m args below meth c H locs (cells + 1) (slots + N') Q (F0 m (pc + 2) ls (.ref q :: rest))) : W p l e R s m args below meth c H locs cells slots Q (F0 m pc ls (.int k :: rest)) := by
  refine va_newa (atype := .int) (ty := .int) (a0 := (N', .inl (fun _ => 0))) hx hb harr rfl hK hP hD hS hA (fun _ => rfl) hk hN (by show N' * 4 ≤ 536870912; omega) hcells hslots hdg (fun q cA' H1 hK1 hP1 hD1 hS1 => ?_)
  have e0 := (hK1.2 0 (cA, .int) rfl).2
  have e1 := (hK1.2 1 (cA', .int) rfl).2
  have e : cA = cA' := Option.some.inj (Eq.trans (Eq.symm e0) e1)
  subst e
  exact kk q H1 hP1 hD1 hS1
end KW
end
section
abbrev wG (q : Nat → Nat) (cA : ClassId) (N : Nat) (nr : Nat → Int32) : va_W := [(q 10, .inr (2, [.int (nI N), .ref (q 11)])), (q 11, .inl (cA, N, .inl nr))]
abbrev wT (q : Nat → Nat) (cA : ClassId) (N : Nat) (nr : Nat → Int32) (ss : Nat → Int32) (sc : Int32) (ns : Nat → Int32) (nc : Int32) (ps : Nat → Int32) (dg : Nat → Int32) (pn : Int32) (pj : Int32) (wh : Int32) : va_W := [(q 5, .inr (3, [.ref (q 10), .ref (q 6), .int sc, .ref (q 7), .int nc, .ref (q 8), .ref (q 9), .int pn, .int pj, .int wh])), (q 6, .inl (cA, 2 ^ (N - 1), .inl ss)), (q 7, .inl (cA, 2 ^ (N - 1), .inl ns)), (q 8, .inl (cA, N, .inl ps)), (q 9, .inl (cA, N, .inl dg)), (q 10, .inr (2, [.int (nI N), .ref (q 11)])), (q 11, .inl (cA, N, .inl nr))]
abbrev wE (q : Nat → Nat) (cA : ClassId) (N : Nat) (nr : Nat → Int32) (st : Nat → Int32) (sn : Int32) (lf : Int32) : va_W := [(q 3, .inr (1, [.ref (q 10), .ref (q 4), .int sn, .int lf])), (q 4, .inl (cA, N, .inl st)), (q 10, .inr (2, [.int (nI N), .ref (q 11)])), (q 11, .inl (cA, N, .inl nr))]
abbrev wC (q : Nat → Nat) (cA : ClassId) (N : Nat) (nr : Nat → Int32) (fw : Nat → Int32) : va_W := [(q 1, .inr (0, [.ref (q 10), .ref (q 2)])), (q 2, .inl (cA, 2 ^ N, .inl fw)), (q 10, .inr (2, [.int (nI N), .ref (q 11)])), (q 11, .inl (cA, N, .inl nr))]
abbrev wF (q : Nat → Nat) (cA : ClassId) (N : Nat) (nr : Nat → Int32) (ss : Nat → Int32) (sc : Int32) (ns : Nat → Int32) (nc : Int32) (ps : Nat → Int32) (dg : Nat → Int32) (pn : Int32) (pj : Int32) (wh : Int32) (st : Nat → Int32) (sn : Int32) (lf : Int32) (fw : Nat → Int32) : va_W := [(q 0, .inr (4, [.ref (q 10), .ref (q 5), .ref (q 3), .ref (q 1)])), (q 1, .inr (0, [.ref (q 10), .ref (q 2)])), (q 2, .inl (cA, 2 ^ N, .inl fw)), (q 3, .inr (1, [.ref (q 10), .ref (q 4), .int sn, .int lf])), (q 4, .inl (cA, N, .inl st)), (q 5, .inr (3, [.ref (q 10), .ref (q 6), .int sc, .ref (q 7), .int nc, .ref (q 8), .ref (q 9), .int pn, .int pj, .int wh])), (q 6, .inl (cA, 2 ^ (N - 1), .inl ss)), (q 7, .inl (cA, 2 ^ (N - 1), .inl ns)), (q 8, .inl (cA, N, .inl ps)), (q 9, .inl (cA, N, .inl dg)), (q 10, .inr (2, [.int (nI N), .ref (q 11)])), (q 11, .inl (cA, N, .inl nr))]
abbrev wM (q : Nat → Nat) (cA : ClassId) (N : Nat) (mr : Nat → Int32) (zn : Int32) (zs : Nat → Int32) (tn : Int32) (ts : Nat → Int32) (yn : Int32) (ys : Nat → Int32) (en : Int32) (es : Nat → Int32) (ew : Int32) (cv : Nat → Int32) : va_W := [(q 0, .inr (5, [.int (nI N), .ref (q 1), .int zn, .ref (q 2), .int tn, .ref (q 3), .int yn, .ref (q 4), .int en, .ref (q 5), .int ew, .ref (q 6)])), (q 1, .inl (cA, 9, .inl mr)), (q 2, .inl (cA, 256, .inl zs)), (q 3, .inl (cA, 256, .inl ts)), (q 4, .inl (cA, 16, .inl ys)), (q 5, .inl (cA, 9, .inl es)), (q 6, .inl (cA, 512, .inl cv))]
end
section
def mG_size (N : Nat) : Nat → Nat → List Int32 → Option Int32
  | n + 1, 0, [] => some (nI N)
  | _, _, _ => none
theorem mG_size_z (N : Nat) (b : Nat) (l : List Int32) : mG_size N 0 b l = none := by first | rfl | (cases b <;> rfl) | simp [mG_size]
theorem mG_size_e0 (N : Nat) (n : Nat) : mG_size N (n + 1) 0 [] = some (nI N) := rfl
def mF_vertices (N : Nat) : Nat → Nat → List Int32 → Option Int32
  | n + 1, 0, [] => (mG_size N n 0 []).bind fun r11 => some r11
  | _, _, _ => none
theorem mF_vertices_z (N : Nat) (b : Nat) (l : List Int32) : mF_vertices N 0 b l = none := by first | rfl | (cases b <;> rfl) | simp [mF_vertices]
theorem mF_vertices_e0 (N : Nat) (n : Nat) : mF_vertices N (n + 1) 0 [] = (mG_size N n 0 []).bind fun r11 => some r11 := rfl
def mG_has (N : Nat) : Nat → Nat → List Int32 → Option Int32
  | n + 1, 0, [x1] => (if x1 < 0 then some (0 : Int32) else (if (nI N) ≤ x1 then some (0 : Int32) else some (1 : Int32)))
  | _, _, _ => none
theorem mG_has_z (N : Nat) (b : Nat) (l : List Int32) : mG_has N 0 b l = none := by first | rfl | (cases b <;> rfl) | simp [mG_has]
theorem mG_has_e0 (N : Nat) (n : Nat) (x1 : Int32) : mG_has N (n + 1) 0 [x1] = (if x1 < 0 then some (0 : Int32) else (if (nI N) ≤ x1 then some (0 : Int32) else some (1 : Int32))) := rfl
def mG_toggle (N : Nat) : Nat → Nat → List Int32 → (Nat → Int32) → Option (Nat → Int32)
  | n + 1, 0, [x1, x2], nr => kg x1 N (kg x1 N (kg x2 N (kg x2 N (some (upd (upd nr x1.toNatClampNeg ((nr x1.toNatClampNeg) ^^^ ((1 : Int32) <<< (x2 &&& 31)))) x2.toNatClampNeg (((upd nr x1.toNatClampNeg ((nr x1.toNatClampNeg) ^^^ ((1 : Int32) <<< (x2 &&& 31)))) x2.toNatClampNeg) ^^^ ((1 : Int32) <<< (x1 &&& 31))))))))
  | _, _, _, _ => none
theorem mG_toggle_z (N : Nat) (b : Nat) (l : List Int32) (nr : Nat → Int32) : mG_toggle N 0 b l nr = none := by first | rfl | (cases b <;> rfl) | simp [mG_toggle]
theorem mG_toggle_e0 (N : Nat) (n : Nat) (x1 x2 : Int32) (nr : Nat → Int32) : mG_toggle N (n + 1) 0 [x1, x2] nr = kg x1 N (kg x1 N (kg x2 N (kg x2 N (some (upd (upd nr x1.toNatClampNeg ((nr x1.toNatClampNeg) ^^^ ((1 : Int32) <<< (x2 &&& 31)))) x2.toNatClampNeg (((upd nr x1.toNatClampNeg ((nr x1.toNatClampNeg) ^^^ ((1 : Int32) <<< (x2 &&& 31)))) x2.toNatClampNeg) ^^^ ((1 : Int32) <<< (x1 &&& 31)))))))) := rfl
def mT_forget (N : Nat) : Nat → Nat → List Int32 → Int32 → Option Int32
  | n + 1, 0, [], wh => some (0 : Int32)
  | _, _, _, _ => none
theorem mT_forget_z (N : Nat) (b : Nat) (l : List Int32) (wh : Int32) : mT_forget N 0 b l wh = none := by first | rfl | (cases b <;> rfl) | simp [mT_forget]
theorem mT_forget_e0 (N : Nat) (n : Nat) (wh : Int32) : mT_forget N (n + 1) 0 [] wh = some (0 : Int32) := rfl
def mF_contains : Nat → Nat → List Int32 → Option Int32
  | n + 1, 0, [x0, x1] => (if ((x0 >>> (x1 &&& 31)) &&& 1) = 0 then some (0 : Int32) else some (1 : Int32))
  | _, _, _ => none
theorem mF_contains_z (b : Nat) (l : List Int32) : mF_contains  0 b l = none := by first | rfl | (cases b <;> rfl) | simp [mF_contains]
theorem mF_contains_e0 (n : Nat) (x0 x1 : Int32) : mF_contains  (n + 1) 0 [x0, x1] = (if ((x0 >>> (x1 &&& 31)) &&& 1) = 0 then some (0 : Int32) else some (1 : Int32)) := rfl
def mG_edge (N : Nat) (nr : Nat → Int32) : Nat → Nat → List Int32 → Option Int32
  | n + 1, 0, [x1, x2] => kg x1 N ((mF_contains n 0 [(nr x1.toNatClampNeg), x2]).bind fun r12 => some r12)
  | _, _, _ => none
theorem mG_edge_z (N : Nat) (nr : Nat → Int32) (b : Nat) (l : List Int32) : mG_edge N nr 0 b l = none := by first | rfl | (cases b <;> rfl) | simp [mG_edge]
theorem mG_edge_e0 (N : Nat) (nr : Nat → Int32) (n : Nat) (x1 x2 : Int32) : mG_edge N nr (n + 1) 0 [x1, x2] = kg x1 N ((mF_contains n 0 [(nr x1.toNatClampNeg), x2]).bind fun r12 => some r12) := rfl
def mF_flip (N : Nat) : Nat → Nat → List Int32 → (Nat → Int32) → Int32 → Option (Int32 × (Nat → Int32) × Int32)
  | n + 1, 0, [x1, x2], nr, wh => (mG_has N n 0 [x1]).bind fun r11 => (if r11 = 0 then some ((0 : Int32), nr, wh) else (mG_has N n 0 [x2]).bind fun r13 => (if r13 = 0 then some ((0 : Int32), nr, wh) else (if x1 = x2 then some ((0 : Int32), nr, wh) else (mG_toggle N n 0 [x1, x2] nr).bind fun nr_16 => (mT_forget N n 0 [] wh).bind fun wh_17 => (mG_edge N nr_16 n 0 [x1, x2]).bind fun r18 => some (r18, nr_16, wh_17))))
  | _, _, _, _, _ => none
theorem mF_flip_z (N : Nat) (b : Nat) (l : List Int32) (nr : Nat → Int32) (wh : Int32) : mF_flip N 0 b l nr wh = none := by first | rfl | (cases b <;> rfl) | simp [mF_flip]
theorem mF_flip_e0 (N : Nat) (n : Nat) (x1 x2 : Int32) (nr : Nat → Int32) (wh : Int32) : mF_flip N (n + 1) 0 [x1, x2] nr wh = (mG_has N n 0 [x1]).bind fun r11 => (if r11 = 0 then some ((0 : Int32), nr, wh) else (mG_has N n 0 [x2]).bind fun r13 => (if r13 = 0 then some ((0 : Int32), nr, wh) else (if x1 = x2 then some ((0 : Int32), nr, wh) else (mG_toggle N n 0 [x1, x2] nr).bind fun nr_16 => (mT_forget N n 0 [] wh).bind fun wh_17 => (mG_edge N nr_16 n 0 [x1, x2]).bind fun r18 => some (r18, nr_16, wh_17)))) := rfl
def mF_neighbours (N : Nat) (nr : Nat → Int32) : Nat → Nat → List Int32 → Option Int32
  | n + 1, 0, [x1, x2] => (mG_has N n 0 [x1]).bind fun r11 => (if r11 = 0 then some (0 : Int32) else (mG_has N n 0 [x2]).bind fun r13 => (if r13 = 0 then some (0 : Int32) else (mG_edge N nr n 0 [x1, x2]).bind fun r15 => (if r15 = 0 then some (0 : Int32) else some (1 : Int32))))
  | _, _, _ => none
theorem mF_neighbours_z (N : Nat) (nr : Nat → Int32) (b : Nat) (l : List Int32) : mF_neighbours N nr 0 b l = none := by first | rfl | (cases b <;> rfl) | simp [mF_neighbours]
theorem mF_neighbours_e0 (N : Nat) (nr : Nat → Int32) (n : Nat) (x1 x2 : Int32) : mF_neighbours N nr (n + 1) 0 [x1, x2] = (mG_has N n 0 [x1]).bind fun r11 => (if r11 = 0 then some (0 : Int32) else (mG_has N n 0 [x2]).bind fun r13 => (if r13 = 0 then some (0 : Int32) else (mG_edge N nr n 0 [x1, x2]).bind fun r15 => (if r15 = 0 then some (0 : Int32) else some (1 : Int32)))) := rfl
def mG_all (N : Nat) : Nat → Nat → List Int32 → Option Int32
  | n + 1, 0, [] => some (((1 : Int32) <<< ((nI N) &&& 31)) - 1)
  | _, _, _ => none
theorem mG_all_z (N : Nat) (b : Nat) (l : List Int32) : mG_all N 0 b l = none := by first | rfl | (cases b <;> rfl) | simp [mG_all]
theorem mG_all_e0 (N : Nat) (n : Nat) : mG_all N (n + 1) 0 [] = some (((1 : Int32) <<< ((nI N) &&& 31)) - 1) := rfl
def mG_nearToAny (N : Nat) (nr : Nat → Int32) : Nat → Nat → List Int32 → Option Int32
  | n + 1, 0, [x1, x2] => mG_nearToAny N nr n 1 [x1, x2, 0, 0]
  | n + 1, 1, [x1, x2, x3, x4] => (if (nI N) ≤ x4 then some x3 else (mF_contains n 0 [x1, x4]).bind fun r112 => (if r112 = 0 then mG_nearToAny N nr n 1 [x1, x2, x3, (x4 + 1)] else kg x4 N (kl (x3 ||| ((nr x4.toNatClampNeg) &&& x2)) fun x3_115 => mG_nearToAny N nr n 1 [x1, x2, x3_115, (x4 + 1)])))
  | _, _, _ => none
theorem mG_nearToAny_z (N : Nat) (nr : Nat → Int32) (b : Nat) (l : List Int32) : mG_nearToAny N nr 0 b l = none := by first | rfl | (cases b <;> rfl) | simp [mG_nearToAny]
theorem mG_nearToAny_e0 (N : Nat) (nr : Nat → Int32) (n : Nat) (x1 x2 : Int32) : mG_nearToAny N nr (n + 1) 0 [x1, x2] = mG_nearToAny N nr n 1 [x1, x2, 0, 0] := rfl
theorem mG_nearToAny_e1 (N : Nat) (nr : Nat → Int32) (n : Nat) (x1 x2 x3 x4 : Int32) : mG_nearToAny N nr (n + 1) 1 [x1, x2, x3, x4] = (if (nI N) ≤ x4 then some x3 else (mF_contains n 0 [x1, x4]).bind fun r112 => (if r112 = 0 then mG_nearToAny N nr n 1 [x1, x2, x3, (x4 + 1)] else kg x4 N (kl (x3 ||| ((nr x4.toNatClampNeg) &&& x2)) fun x3_115 => mG_nearToAny N nr n 1 [x1, x2, x3_115, (x4 + 1)]))) := rfl
def mG_reached (N : Nat) (nr : Nat → Int32) : Nat → Nat → List Int32 → Option Int32
  | n + 1, 0, [x1, x2] => kl ((1 : Int32) <<< (x1 &&& 31)) fun x3_11 => mG_reached N nr n 1 [x2, x3_11, 0]
  | n + 1, 1, [x2, x3, x4] => (if (nI N) ≤ x4 then some x3 else (mG_nearToAny N nr n 0 [x3, x2]).bind fun r112 => kl (x3 ||| r112) fun x5_113 => (if x5_113 = x3 then some x3 else mG_reached N nr n 1 [x2, x5_113, (x4 + 1)]))
  | _, _, _ => none
theorem mG_reached_z (N : Nat) (nr : Nat → Int32) (b : Nat) (l : List Int32) : mG_reached N nr 0 b l = none := by first | rfl | (cases b <;> rfl) | simp [mG_reached]
theorem mG_reached_e0 (N : Nat) (nr : Nat → Int32) (n : Nat) (x1 x2 : Int32) : mG_reached N nr (n + 1) 0 [x1, x2] = kl ((1 : Int32) <<< (x1 &&& 31)) fun x3_11 => mG_reached N nr n 1 [x2, x3_11, 0] := rfl
theorem mG_reached_e1 (N : Nat) (nr : Nat → Int32) (n : Nat) (x2 x3 x4 : Int32) : mG_reached N nr (n + 1) 1 [x2, x3, x4] = (if (nI N) ≤ x4 then some x3 else (mG_nearToAny N nr n 0 [x3, x2]).bind fun r112 => kl (x3 ||| r112) fun x5_113 => (if x5_113 = x3 then some x3 else mG_reached N nr n 1 [x2, x5_113, (x4 + 1)])) := rfl
def mF_componentOf (N : Nat) (nr : Nat → Int32) : Nat → Nat → List Int32 → Option Int32
  | n + 1, 0, [x1] => (mG_all N n 0 []).bind fun r11 => (mG_reached N nr n 0 [x1, r11]).bind fun r12 => some r12
  | _, _, _ => none
theorem mF_componentOf_z (N : Nat) (nr : Nat → Int32) (b : Nat) (l : List Int32) : mF_componentOf N nr 0 b l = none := by first | rfl | (cases b <;> rfl) | simp [mF_componentOf]
theorem mF_componentOf_e0 (N : Nat) (nr : Nat → Int32) (n : Nat) (x1 : Int32) : mF_componentOf N nr (n + 1) 0 [x1] = (mG_all N n 0 []).bind fun r11 => (mG_reached N nr n 0 [x1, r11]).bind fun r12 => some r12 := rfl
def mF_component (N : Nat) (nr : Nat → Int32) : Nat → Nat → List Int32 → Option Int32
  | n + 1, 0, [x1] => (mG_has N n 0 [x1]).bind fun r11 => (if r11 = 0 then some (0 : Int32) else (mF_componentOf N nr n 0 [x1]).bind fun r13 => some r13)
  | _, _, _ => none
theorem mF_component_z (N : Nat) (nr : Nat → Int32) (b : Nat) (l : List Int32) : mF_component N nr 0 b l = none := by first | rfl | (cases b <;> rfl) | simp [mF_component]
theorem mF_component_e0 (N : Nat) (nr : Nat → Int32) (n : Nat) (x1 : Int32) : mF_component N nr (n + 1) 0 [x1] = (mG_has N n 0 [x1]).bind fun r11 => (if r11 = 0 then some (0 : Int32) else (mF_componentOf N nr n 0 [x1]).bind fun r13 => some r13) := rfl
def mJ_bitCount : Nat → Nat → List Int32 → Option Int32
  | n + 1, 0, [x0] => kl (x0 - ((x0.toUInt32 >>> ((1 : Int32).toUInt32 &&& Int32.toUInt32 31)).toInt32 &&& 1431655765)) fun x0_11 => kl ((x0_11 &&& 858993459) + ((x0_11.toUInt32 >>> ((2 : Int32).toUInt32 &&& Int32.toUInt32 31)).toInt32 &&& 858993459)) fun x0_12 => kl ((x0_12 + (x0_12.toUInt32 >>> ((4 : Int32).toUInt32 &&& Int32.toUInt32 31)).toInt32) &&& 252645135) fun x0_13 => kl (x0_13 + (x0_13.toUInt32 >>> ((8 : Int32).toUInt32 &&& Int32.toUInt32 31)).toInt32) fun x0_14 => kl (x0_14 + (x0_14.toUInt32 >>> ((16 : Int32).toUInt32 &&& Int32.toUInt32 31)).toInt32) fun x0_15 => some (x0_15 &&& 63)
  | _, _, _ => none
theorem mJ_bitCount_z (b : Nat) (l : List Int32) : mJ_bitCount  0 b l = none := by first | rfl | (cases b <;> rfl) | simp [mJ_bitCount]
theorem mJ_bitCount_e0 (n : Nat) (x0 : Int32) : mJ_bitCount  (n + 1) 0 [x0] = kl (x0 - ((x0.toUInt32 >>> ((1 : Int32).toUInt32 &&& Int32.toUInt32 31)).toInt32 &&& 1431655765)) fun x0_11 => kl ((x0_11 &&& 858993459) + ((x0_11.toUInt32 >>> ((2 : Int32).toUInt32 &&& Int32.toUInt32 31)).toInt32 &&& 858993459)) fun x0_12 => kl ((x0_12 + (x0_12.toUInt32 >>> ((4 : Int32).toUInt32 &&& Int32.toUInt32 31)).toInt32) &&& 252645135) fun x0_13 => kl (x0_13 + (x0_13.toUInt32 >>> ((8 : Int32).toUInt32 &&& Int32.toUInt32 31)).toInt32) fun x0_14 => kl (x0_14 + (x0_14.toUInt32 >>> ((16 : Int32).toUInt32 &&& Int32.toUInt32 31)).toInt32) fun x0_15 => some (x0_15 &&& 63) := rfl
def mG_nearInside (N : Nat) (nr : Nat → Int32) : Nat → Nat → List Int32 → Option Int32
  | n + 1, 0, [x1, x2] => kg x1 N (some ((nr x1.toNatClampNeg) &&& x2))
  | _, _, _ => none
theorem mG_nearInside_z (N : Nat) (nr : Nat → Int32) (b : Nat) (l : List Int32) : mG_nearInside N nr 0 b l = none := by first | rfl | (cases b <;> rfl) | simp [mG_nearInside]
theorem mG_nearInside_e0 (N : Nat) (nr : Nat → Int32) (n : Nat) (x1 x2 : Int32) : mG_nearInside N nr (n + 1) 0 [x1, x2] = kg x1 N (some ((nr x1.toNatClampNeg) &&& x2)) := rfl
def mT_isSplit (N : Nat) (nr : Nat → Int32) : Nat → Nat → List Int32 → Option Int32
  | n + 1, 0, [x1, x2] => (mJ_bitCount n 0 [x1]).bind fun r11 => (if r11 < 2 then some (0 : Int32) else (mJ_bitCount n 0 [x2]).bind fun r13 => (if 2 ≤ r13 then mT_isSplit N nr n 1 [x1, x2, 0, 0] else some (0 : Int32)))
  | n + 1, 1, [x1, x2, x3, x4] => (mG_size N n 0 []).bind fun r111 => (if r111 ≤ x4 then some (1 : Int32) else (mF_contains n 0 [x1, x4]).bind fun r113 => (if r113 = 0 then mT_isSplit N nr n 2 [x1, x2, x3, x4, 0] else (mG_nearInside N nr n 0 [x4, x2]).bind fun r115 => mT_isSplit N nr n 2 [x1, x2, x3, x4, r115]))
  | n + 1, 2, [x1, x2, x3, x4, y0] => (if y0 = 0 then mT_isSplit N nr n 3 [x1, x2, x3, x4, y0] else (if x3 = 0 then mT_isSplit N nr n 3 [x1, x2, x3, x4, y0] else (if y0 = x3 then mT_isSplit N nr n 3 [x1, x2, x3, x4, y0] else some (0 : Int32))))
  | n + 1, 3, [x1, x2, x3, x4, x5] => kl (x3 ||| x5) fun x3_311 => mT_isSplit N nr n 1 [x1, x2, x3_311, (x4 + 1)]
  | _, _, _ => none
theorem mT_isSplit_z (N : Nat) (nr : Nat → Int32) (b : Nat) (l : List Int32) : mT_isSplit N nr 0 b l = none := by first | rfl | (cases b <;> rfl) | simp [mT_isSplit]
theorem mT_isSplit_e0 (N : Nat) (nr : Nat → Int32) (n : Nat) (x1 x2 : Int32) : mT_isSplit N nr (n + 1) 0 [x1, x2] = (mJ_bitCount n 0 [x1]).bind fun r11 => (if r11 < 2 then some (0 : Int32) else (mJ_bitCount n 0 [x2]).bind fun r13 => (if 2 ≤ r13 then mT_isSplit N nr n 1 [x1, x2, 0, 0] else some (0 : Int32))) := rfl
theorem mT_isSplit_e1 (N : Nat) (nr : Nat → Int32) (n : Nat) (x1 x2 x3 x4 : Int32) : mT_isSplit N nr (n + 1) 1 [x1, x2, x3, x4] = (mG_size N n 0 []).bind fun r111 => (if r111 ≤ x4 then some (1 : Int32) else (mF_contains n 0 [x1, x4]).bind fun r113 => (if r113 = 0 then mT_isSplit N nr n 2 [x1, x2, x3, x4, 0] else (mG_nearInside N nr n 0 [x4, x2]).bind fun r115 => mT_isSplit N nr n 2 [x1, x2, x3, x4, r115])) := rfl
theorem mT_isSplit_e2 (N : Nat) (nr : Nat → Int32) (n : Nat) (x1 x2 x3 x4 y0 : Int32) : mT_isSplit N nr (n + 1) 2 [x1, x2, x3, x4, y0] = (if y0 = 0 then mT_isSplit N nr n 3 [x1, x2, x3, x4, y0] else (if x3 = 0 then mT_isSplit N nr n 3 [x1, x2, x3, x4, y0] else (if y0 = x3 then mT_isSplit N nr n 3 [x1, x2, x3, x4, y0] else some (0 : Int32)))) := rfl
theorem mT_isSplit_e3 (N : Nat) (nr : Nat → Int32) (n : Nat) (x1 x2 x3 x4 x5 : Int32) : mT_isSplit N nr (n + 1) 3 [x1, x2, x3, x4, x5] = kl (x3 ||| x5) fun x3_311 => mT_isSplit N nr n 1 [x1, x2, x3_311, (x4 + 1)] := rfl
def mT_findSplits (N : Nat) (nr : Nat → Int32) (wh : Int32) : Nat → Nat → List Int32 → (Nat → Int32) → Int32 → Option ((Nat → Int32) × Int32)
  | n + 1, 0, [], ss, sc => kl (wh &&& (wh - 1)) fun x1_11 => mT_findSplits N nr wh n 1 [x1_11, 1] ss 0
  | n + 1, 1, [x1, x2], ss, sc => (if x1 < x2 then some (ss, sc) else (if (x2 &&& (x1 ^^^ (-1))) = 0 then (mT_isSplit N nr n 0 [x2, (wh &&& (x2 ^^^ (-1)))]).bind fun r113 => (if r113 = 0 then mT_findSplits N nr wh n 1 [x1, (x2 + 1)] ss sc else kg sc (2 ^ (N - 1)) (mT_findSplits N nr wh n 1 [x1, (x2 + 1)] (upd ss sc.toNatClampNeg x2) (sc + 1))) else mT_findSplits N nr wh n 1 [x1, (x2 + 1)] ss sc))
  | _, _, _, _, _ => none
theorem mT_findSplits_z (N : Nat) (nr : Nat → Int32) (wh : Int32) (b : Nat) (l : List Int32) (ss : Nat → Int32) (sc : Int32) : mT_findSplits N nr wh 0 b l ss sc = none := by first | rfl | (cases b <;> rfl) | simp [mT_findSplits]
theorem mT_findSplits_e0 (N : Nat) (nr : Nat → Int32) (wh : Int32) (n : Nat) (ss : Nat → Int32) (sc : Int32) : mT_findSplits N nr wh (n + 1) 0 [] ss sc = kl (wh &&& (wh - 1)) fun x1_11 => mT_findSplits N nr wh n 1 [x1_11, 1] ss 0 := rfl
theorem mT_findSplits_e1 (N : Nat) (nr : Nat → Int32) (wh : Int32) (n : Nat) (x1 x2 : Int32) (ss : Nat → Int32) (sc : Int32) : mT_findSplits N nr wh (n + 1) 1 [x1, x2] ss sc = (if x1 < x2 then some (ss, sc) else (if (x2 &&& (x1 ^^^ (-1))) = 0 then (mT_isSplit N nr n 0 [x2, (wh &&& (x2 ^^^ (-1)))]).bind fun r113 => (if r113 = 0 then mT_findSplits N nr wh n 1 [x1, (x2 + 1)] ss sc else kg sc (2 ^ (N - 1)) (mT_findSplits N nr wh n 1 [x1, (x2 + 1)] (upd ss sc.toNatClampNeg x2) (sc + 1))) else mT_findSplits N nr wh n 1 [x1, (x2 + 1)] ss sc)) := rfl
def mT_isStrong (N : Nat) (ss : Nat → Int32) (sc : Int32) : Nat → Nat → List Int32 → Option Int32
  | n + 1, 0, [x1] => mT_isStrong N ss sc n 1 [x1, 0]
  | n + 1, 1, [x1, x2] => (if sc ≤ x2 then some (1 : Int32) else kg x2 (2 ^ (N - 1)) (kl (ss x2.toNatClampNeg) fun x3_113 => (if (x1 &&& x3_113) = 0 then mT_isStrong N ss sc n 1 [x1, (x2 + 1)] else (if (x1 &&& (x3_113 ^^^ (-1))) = 0 then mT_isStrong N ss sc n 1 [x1, (x2 + 1)] else (if (x3_113 &&& (x1 ^^^ (-1))) = 0 then mT_isStrong N ss sc n 1 [x1, (x2 + 1)] else some (0 : Int32))))))
  | _, _, _ => none
theorem mT_isStrong_z (N : Nat) (ss : Nat → Int32) (sc : Int32) (b : Nat) (l : List Int32) : mT_isStrong N ss sc 0 b l = none := by first | rfl | (cases b <;> rfl) | simp [mT_isStrong]
theorem mT_isStrong_e0 (N : Nat) (ss : Nat → Int32) (sc : Int32) (n : Nat) (x1 : Int32) : mT_isStrong N ss sc (n + 1) 0 [x1] = mT_isStrong N ss sc n 1 [x1, 0] := rfl
theorem mT_isStrong_e1 (N : Nat) (ss : Nat → Int32) (sc : Int32) (n : Nat) (x1 x2 : Int32) : mT_isStrong N ss sc (n + 1) 1 [x1, x2] = (if sc ≤ x2 then some (1 : Int32) else kg x2 (2 ^ (N - 1)) (kl (ss x2.toNatClampNeg) fun x3_113 => (if (x1 &&& x3_113) = 0 then mT_isStrong N ss sc n 1 [x1, (x2 + 1)] else (if (x1 &&& (x3_113 ^^^ (-1))) = 0 then mT_isStrong N ss sc n 1 [x1, (x2 + 1)] else (if (x3_113 &&& (x1 ^^^ (-1))) = 0 then mT_isStrong N ss sc n 1 [x1, (x2 + 1)] else some (0 : Int32)))))) := rfl
def mT_findNodes (N : Nat) (ss : Nat → Int32) (sc : Int32) (wh : Int32) : Nat → Nat → List Int32 → (Nat → Int32) → Int32 → Option ((Nat → Int32) × Int32)
  | n + 1, 0, [], ns, nc => kg 0 (2 ^ (N - 1)) (mT_findNodes N ss sc wh n 1 [0] (upd ns (0 : Int32).toNatClampNeg wh) 1)
  | n + 1, 1, [x1], ns, nc => (if sc ≤ x1 then some (ns, nc) else kg x1 (2 ^ (N - 1)) ((mT_isStrong N ss sc n 0 [(ss x1.toNatClampNeg)]).bind fun r113 => (if r113 = 0 then mT_findNodes N ss sc wh n 1 [(x1 + 1)] ns nc else kg x1 (2 ^ (N - 1)) (kg nc (2 ^ (N - 1)) (mT_findNodes N ss sc wh n 1 [(x1 + 1)] (upd ns nc.toNatClampNeg (ss x1.toNatClampNeg)) (nc + 1))))))
  | _, _, _, _, _ => none
theorem mT_findNodes_z (N : Nat) (ss : Nat → Int32) (sc : Int32) (wh : Int32) (b : Nat) (l : List Int32) (ns : Nat → Int32) (nc : Int32) : mT_findNodes N ss sc wh 0 b l ns nc = none := by first | rfl | (cases b <;> rfl) | simp [mT_findNodes]
theorem mT_findNodes_e0 (N : Nat) (ss : Nat → Int32) (sc : Int32) (wh : Int32) (n : Nat) (ns : Nat → Int32) (nc : Int32) : mT_findNodes N ss sc wh (n + 1) 0 [] ns nc = kg 0 (2 ^ (N - 1)) (mT_findNodes N ss sc wh n 1 [0] (upd ns (0 : Int32).toNatClampNeg wh) 1) := rfl
theorem mT_findNodes_e1 (N : Nat) (ss : Nat → Int32) (sc : Int32) (wh : Int32) (n : Nat) (x1 : Int32) (ns : Nat → Int32) (nc : Int32) : mT_findNodes N ss sc wh (n + 1) 1 [x1] ns nc = (if sc ≤ x1 then some (ns, nc) else kg x1 (2 ^ (N - 1)) ((mT_isStrong N ss sc n 0 [(ss x1.toNatClampNeg)]).bind fun r113 => (if r113 = 0 then mT_findNodes N ss sc wh n 1 [(x1 + 1)] ns nc else kg x1 (2 ^ (N - 1)) (kg nc (2 ^ (N - 1)) (mT_findNodes N ss sc wh n 1 [(x1 + 1)] (upd ns nc.toNatClampNeg (ss x1.toNatClampNeg)) (nc + 1)))))) := rfl
def mT_growFor (N : Nat) (nr : Nat → Int32) : Nat → Nat → List Int32 → (Nat → Int32) → Int32 → (Nat → Int32) → Int32 → Int32 → Option ((Nat → Int32) × Int32 × (Nat → Int32) × Int32 × Int32)
  | n + 1, 0, [x1], ss, sc, ns, nc, wh => (if wh = x1 then some (ss, sc, ns, nc, wh) else (mT_findSplits N nr x1 n 0 [] ss sc).bind fun (ss_12, sc_12) => (mT_findNodes N ss_12 sc_12 x1 n 0 [] ns nc).bind fun (ns_13, nc_13) => some (ss_12, sc_12, ns_13, nc_13, x1))
  | _, _, _, _, _, _, _, _ => none
theorem mT_growFor_z (N : Nat) (nr : Nat → Int32) (b : Nat) (l : List Int32) (ss : Nat → Int32) (sc : Int32) (ns : Nat → Int32) (nc : Int32) (wh : Int32) : mT_growFor N nr 0 b l ss sc ns nc wh = none := by first | rfl | (cases b <;> rfl) | simp [mT_growFor]
theorem mT_growFor_e0 (N : Nat) (nr : Nat → Int32) (n : Nat) (x1 : Int32) (ss : Nat → Int32) (sc : Int32) (ns : Nat → Int32) (nc : Int32) (wh : Int32) : mT_growFor N nr (n + 1) 0 [x1] ss sc ns nc wh = (if wh = x1 then some (ss, sc, ns, nc, wh) else (mT_findSplits N nr x1 n 0 [] ss sc).bind fun (ss_12, sc_12) => (mT_findNodes N ss_12 sc_12 x1 n 0 [] ns nc).bind fun (ns_13, nc_13) => some (ss_12, sc_12, ns_13, nc_13, x1)) := rfl
def mF_treeOf (N : Nat) (nr : Nat → Int32) : Nat → Nat → List Int32 → (Nat → Int32) → Int32 → (Nat → Int32) → Int32 → Int32 → Option ((Nat → Int32) × Int32 × (Nat → Int32) × Int32 × Int32)
  | n + 1, 0, [x1], ss, sc, ns, nc, wh => (mF_componentOf N nr n 0 [x1]).bind fun r11 => (mT_growFor N nr n 0 [r11] ss sc ns nc wh).bind fun (ss_12, sc_12, ns_12, nc_12, wh_12) => some (ss_12, sc_12, ns_12, nc_12, wh_12)
  | _, _, _, _, _, _, _, _ => none
theorem mF_treeOf_z (N : Nat) (nr : Nat → Int32) (b : Nat) (l : List Int32) (ss : Nat → Int32) (sc : Int32) (ns : Nat → Int32) (nc : Int32) (wh : Int32) : mF_treeOf N nr 0 b l ss sc ns nc wh = none := by first | rfl | (cases b <;> rfl) | simp [mF_treeOf]
theorem mF_treeOf_e0 (N : Nat) (nr : Nat → Int32) (n : Nat) (x1 : Int32) (ss : Nat → Int32) (sc : Int32) (ns : Nat → Int32) (nc : Int32) (wh : Int32) : mF_treeOf N nr (n + 1) 0 [x1] ss sc ns nc wh = (mF_componentOf N nr n 0 [x1]).bind fun r11 => (mT_growFor N nr n 0 [r11] ss sc ns nc wh).bind fun (ss_12, sc_12, ns_12, nc_12, wh_12) => some (ss_12, sc_12, ns_12, nc_12, wh_12) := rfl
def mT_splitCount (N : Nat) (sc : Int32) : Nat → Nat → List Int32 → Option Int32
  | n + 1, 0, [] => some sc
  | _, _, _ => none
theorem mT_splitCount_z (N : Nat) (sc : Int32) (b : Nat) (l : List Int32) : mT_splitCount N sc 0 b l = none := by first | rfl | (cases b <;> rfl) | simp [mT_splitCount]
theorem mT_splitCount_e0 (N : Nat) (sc : Int32) (n : Nat) : mT_splitCount N sc (n + 1) 0 [] = some sc := rfl
def mF_splits (N : Nat) (nr : Nat → Int32) : Nat → Nat → List Int32 → (Nat → Int32) → Int32 → (Nat → Int32) → Int32 → Int32 → Option (Int32 × (Nat → Int32) × Int32 × (Nat → Int32) × Int32 × Int32)
  | n + 1, 0, [x1], ss, sc, ns, nc, wh => (mG_has N n 0 [x1]).bind fun r11 => (if r11 = 0 then some ((-1 : Int32), ss, sc, ns, nc, wh) else (mF_treeOf N nr n 0 [x1] ss sc ns nc wh).bind fun (ss_13, sc_13, ns_13, nc_13, wh_13) => (mT_splitCount N sc_13 n 0 []).bind fun r14 => some (r14, ss_13, sc_13, ns_13, nc_13, wh_13))
  | _, _, _, _, _, _, _, _ => none
theorem mF_splits_z (N : Nat) (nr : Nat → Int32) (b : Nat) (l : List Int32) (ss : Nat → Int32) (sc : Int32) (ns : Nat → Int32) (nc : Int32) (wh : Int32) : mF_splits N nr 0 b l ss sc ns nc wh = none := by first | rfl | (cases b <;> rfl) | simp [mF_splits]
theorem mF_splits_e0 (N : Nat) (nr : Nat → Int32) (n : Nat) (x1 : Int32) (ss : Nat → Int32) (sc : Int32) (ns : Nat → Int32) (nc : Int32) (wh : Int32) : mF_splits N nr (n + 1) 0 [x1] ss sc ns nc wh = (mG_has N n 0 [x1]).bind fun r11 => (if r11 = 0 then some ((-1 : Int32), ss, sc, ns, nc, wh) else (mF_treeOf N nr n 0 [x1] ss sc ns nc wh).bind fun (ss_13, sc_13, ns_13, nc_13, wh_13) => (mT_splitCount N sc_13 n 0 []).bind fun r14 => some (r14, ss_13, sc_13, ns_13, nc_13, wh_13)) := rfl
def mT_nodeCount (N : Nat) (nc : Int32) : Nat → Nat → List Int32 → Option Int32
  | n + 1, 0, [] => some nc
  | _, _, _ => none
theorem mT_nodeCount_z (N : Nat) (nc : Int32) (b : Nat) (l : List Int32) : mT_nodeCount N nc 0 b l = none := by first | rfl | (cases b <;> rfl) | simp [mT_nodeCount]
theorem mT_nodeCount_e0 (N : Nat) (nc : Int32) (n : Nat) : mT_nodeCount N nc (n + 1) 0 [] = some nc := rfl
def mF_strong (N : Nat) (nr : Nat → Int32) : Nat → Nat → List Int32 → (Nat → Int32) → Int32 → (Nat → Int32) → Int32 → Int32 → Option (Int32 × (Nat → Int32) × Int32 × (Nat → Int32) × Int32 × Int32)
  | n + 1, 0, [x1], ss, sc, ns, nc, wh => (mG_has N n 0 [x1]).bind fun r11 => (if r11 = 0 then some ((-1 : Int32), ss, sc, ns, nc, wh) else (mF_treeOf N nr n 0 [x1] ss sc ns nc wh).bind fun (ss_13, sc_13, ns_13, nc_13, wh_13) => (mT_nodeCount N nc_13 n 0 []).bind fun r14 => some ((r14 - 1), ss_13, sc_13, ns_13, nc_13, wh_13))
  | _, _, _, _, _, _, _, _ => none
theorem mF_strong_z (N : Nat) (nr : Nat → Int32) (b : Nat) (l : List Int32) (ss : Nat → Int32) (sc : Int32) (ns : Nat → Int32) (nc : Int32) (wh : Int32) : mF_strong N nr 0 b l ss sc ns nc wh = none := by first | rfl | (cases b <;> rfl) | simp [mF_strong]
theorem mF_strong_e0 (N : Nat) (nr : Nat → Int32) (n : Nat) (x1 : Int32) (ss : Nat → Int32) (sc : Int32) (ns : Nat → Int32) (nc : Int32) (wh : Int32) : mF_strong N nr (n + 1) 0 [x1] ss sc ns nc wh = (mG_has N n 0 [x1]).bind fun r11 => (if r11 = 0 then some ((-1 : Int32), ss, sc, ns, nc, wh) else (mF_treeOf N nr n 0 [x1] ss sc ns nc wh).bind fun (ss_13, sc_13, ns_13, nc_13, wh_13) => (mT_nodeCount N nc_13 n 0 []).bind fun r14 => some ((r14 - 1), ss_13, sc_13, ns_13, nc_13, wh_13)) := rfl
def mF_hasNode (N : Nat) (nr : Nat → Int32) : Nat → Nat → List Int32 → (Nat → Int32) → Int32 → (Nat → Int32) → Int32 → Int32 → Option (Int32 × (Nat → Int32) × Int32 × (Nat → Int32) × Int32 × Int32)
  | n + 1, 0, [x1, x2], ss, sc, ns, nc, wh => (mG_has N n 0 [x1]).bind fun r11 => (if r11 = 0 then some ((0 : Int32), ss, sc, ns, nc, wh) else (if x2 < 0 then some ((0 : Int32), ss, sc, ns, nc, wh) else (mF_treeOf N nr n 0 [x1] ss sc ns nc wh).bind fun (ss_14, sc_14, ns_14, nc_14, wh_14) => (mT_nodeCount N nc_14 n 0 []).bind fun r15 => (if r15 ≤ x2 then some ((0 : Int32), ss_14, sc_14, ns_14, nc_14, wh_14) else some ((1 : Int32), ss_14, sc_14, ns_14, nc_14, wh_14))))
  | _, _, _, _, _, _, _, _ => none
theorem mF_hasNode_z (N : Nat) (nr : Nat → Int32) (b : Nat) (l : List Int32) (ss : Nat → Int32) (sc : Int32) (ns : Nat → Int32) (nc : Int32) (wh : Int32) : mF_hasNode N nr 0 b l ss sc ns nc wh = none := by first | rfl | (cases b <;> rfl) | simp [mF_hasNode]
theorem mF_hasNode_e0 (N : Nat) (nr : Nat → Int32) (n : Nat) (x1 x2 : Int32) (ss : Nat → Int32) (sc : Int32) (ns : Nat → Int32) (nc : Int32) (wh : Int32) : mF_hasNode N nr (n + 1) 0 [x1, x2] ss sc ns nc wh = (mG_has N n 0 [x1]).bind fun r11 => (if r11 = 0 then some ((0 : Int32), ss, sc, ns, nc, wh) else (if x2 < 0 then some ((0 : Int32), ss, sc, ns, nc, wh) else (mF_treeOf N nr n 0 [x1] ss sc ns nc wh).bind fun (ss_14, sc_14, ns_14, nc_14, wh_14) => (mT_nodeCount N nc_14 n 0 []).bind fun r15 => (if r15 ≤ x2 then some ((0 : Int32), ss_14, sc_14, ns_14, nc_14, wh_14) else some ((1 : Int32), ss_14, sc_14, ns_14, nc_14, wh_14)))) := rfl
def mT_nodeSet (N : Nat) (ns : Nat → Int32) : Nat → Nat → List Int32 → Option Int32
  | n + 1, 0, [x1] => kg x1 (2 ^ (N - 1)) (some (ns x1.toNatClampNeg))
  | _, _, _ => none
theorem mT_nodeSet_z (N : Nat) (ns : Nat → Int32) (b : Nat) (l : List Int32) : mT_nodeSet N ns 0 b l = none := by first | rfl | (cases b <;> rfl) | simp [mT_nodeSet]
theorem mT_nodeSet_e0 (N : Nat) (ns : Nat → Int32) (n : Nat) (x1 : Int32) : mT_nodeSet N ns (n + 1) 0 [x1] = kg x1 (2 ^ (N - 1)) (some (ns x1.toNatClampNeg)) := rfl
def mF_set (N : Nat) (nr : Nat → Int32) : Nat → Nat → List Int32 → (Nat → Int32) → Int32 → (Nat → Int32) → Int32 → Int32 → Option (Int32 × (Nat → Int32) × Int32 × (Nat → Int32) × Int32 × Int32)
  | n + 1, 0, [x1, x2], ss, sc, ns, nc, wh => (mF_hasNode N nr n 0 [x1, x2] ss sc ns nc wh).bind fun (r11, ss_11, sc_11, ns_11, nc_11, wh_11) => (if r11 = 0 then some ((-1 : Int32), ss_11, sc_11, ns_11, nc_11, wh_11) else (mT_nodeSet N ns_11 n 0 [x2]).bind fun r13 => some (r13, ss_11, sc_11, ns_11, nc_11, wh_11))
  | _, _, _, _, _, _, _, _ => none
theorem mF_set_z (N : Nat) (nr : Nat → Int32) (b : Nat) (l : List Int32) (ss : Nat → Int32) (sc : Int32) (ns : Nat → Int32) (nc : Int32) (wh : Int32) : mF_set N nr 0 b l ss sc ns nc wh = none := by first | rfl | (cases b <;> rfl) | simp [mF_set]
theorem mF_set_e0 (N : Nat) (nr : Nat → Int32) (n : Nat) (x1 x2 : Int32) (ss : Nat → Int32) (sc : Int32) (ns : Nat → Int32) (nc : Int32) (wh : Int32) : mF_set N nr (n + 1) 0 [x1, x2] ss sc ns nc wh = (mF_hasNode N nr n 0 [x1, x2] ss sc ns nc wh).bind fun (r11, ss_11, sc_11, ns_11, nc_11, wh_11) => (if r11 = 0 then some ((-1 : Int32), ss_11, sc_11, ns_11, nc_11, wh_11) else (mT_nodeSet N ns_11 n 0 [x2]).bind fun r13 => some (r13, ss_11, sc_11, ns_11, nc_11, wh_11)) := rfl
def mT_partWith (N : Nat) (ns : Nat → Int32) (nc : Int32) (wh : Int32) : Nat → Nat → List Int32 → Option Int32
  | n + 1, 0, [x1, x2] => kg x1 (2 ^ (N - 1)) (kl (ns x1.toNatClampNeg) fun x3_12 => (mF_contains n 0 [x3_12, x2]).bind fun r13 => (if r13 = 0 then some (wh &&& (x3_12 ^^^ (-1))) else kl ((1 : Int32) <<< (x2 &&& 31)) fun x4_15 => mT_partWith N ns nc wh n 1 [x2, x3_12, x4_15, 1]))
  | n + 1, 1, [x2, x3, x4, x5] => (if nc ≤ x5 then some x4 else kg x5 (2 ^ (N - 1)) (kl (ns x5.toNatClampNeg) fun x6_113 => (mF_contains n 0 [x6_113, x2]).bind fun r114 => (if r114 = 0 then mT_partWith N ns nc wh n 1 [x2, x3, x4, (x5 + 1)] else (if x6_113 = x3 then mT_partWith N ns nc wh n 1 [x2, x3, x4, (x5 + 1)] else (if (x6_113 &&& (x3 ^^^ (-1))) = 0 then mT_partWith N ns nc wh n 1 [x2, x3, x6_113, (x5 + 1)] else mT_partWith N ns nc wh n 1 [x2, x3, x4, (x5 + 1)])))))
  | _, _, _ => none
theorem mT_partWith_z (N : Nat) (ns : Nat → Int32) (nc : Int32) (wh : Int32) (b : Nat) (l : List Int32) : mT_partWith N ns nc wh 0 b l = none := by first | rfl | (cases b <;> rfl) | simp [mT_partWith]
theorem mT_partWith_e0 (N : Nat) (ns : Nat → Int32) (nc : Int32) (wh : Int32) (n : Nat) (x1 x2 : Int32) : mT_partWith N ns nc wh (n + 1) 0 [x1, x2] = kg x1 (2 ^ (N - 1)) (kl (ns x1.toNatClampNeg) fun x3_12 => (mF_contains n 0 [x3_12, x2]).bind fun r13 => (if r13 = 0 then some (wh &&& (x3_12 ^^^ (-1))) else kl ((1 : Int32) <<< (x2 &&& 31)) fun x4_15 => mT_partWith N ns nc wh n 1 [x2, x3_12, x4_15, 1])) := rfl
theorem mT_partWith_e1 (N : Nat) (ns : Nat → Int32) (nc : Int32) (wh : Int32) (n : Nat) (x2 x3 x4 x5 : Int32) : mT_partWith N ns nc wh (n + 1) 1 [x2, x3, x4, x5] = (if nc ≤ x5 then some x4 else kg x5 (2 ^ (N - 1)) (kl (ns x5.toNatClampNeg) fun x6_113 => (mF_contains n 0 [x6_113, x2]).bind fun r114 => (if r114 = 0 then mT_partWith N ns nc wh n 1 [x2, x3, x4, (x5 + 1)] else (if x6_113 = x3 then mT_partWith N ns nc wh n 1 [x2, x3, x4, (x5 + 1)] else (if (x6_113 &&& (x3 ^^^ (-1))) = 0 then mT_partWith N ns nc wh n 1 [x2, x3, x6_113, (x5 + 1)] else mT_partWith N ns nc wh n 1 [x2, x3, x4, (x5 + 1)]))))) := rfl
def mT_addPart (N : Nat) : Nat → Nat → List Int32 → (Nat → Int32) → Int32 → Option ((Nat → Int32) × Int32)
  | n + 1, 0, [x1], ps, pn => mT_addPart N n 1 [x1, pn] ps pn
  | n + 1, 1, [x1, x2], ps, pn => (if x2 ≤ 0 then mT_addPart N n 2 [x1, x2] ps pn else kg (x2 - 1) N ((if (ps (x2 - 1).toNatClampNeg) ≤ x1 then mT_addPart N n 2 [x1, x2] ps pn else kg (x2 - 1) N (kg x2 N (mT_addPart N n 1 [x1, (x2 + (-1))] (upd ps x2.toNatClampNeg (ps (x2 - 1).toNatClampNeg)) pn)))))
  | n + 1, 2, [x1, x2], ps, pn => kg x2 N (some ((upd ps x2.toNatClampNeg x1), (pn + 1)))
  | _, _, _, _, _ => none
theorem mT_addPart_z (N : Nat) (b : Nat) (l : List Int32) (ps : Nat → Int32) (pn : Int32) : mT_addPart N 0 b l ps pn = none := by first | rfl | (cases b <;> rfl) | simp [mT_addPart]
theorem mT_addPart_e0 (N : Nat) (n : Nat) (x1 : Int32) (ps : Nat → Int32) (pn : Int32) : mT_addPart N (n + 1) 0 [x1] ps pn = mT_addPart N n 1 [x1, pn] ps pn := rfl
theorem mT_addPart_e1 (N : Nat) (n : Nat) (x1 x2 : Int32) (ps : Nat → Int32) (pn : Int32) : mT_addPart N (n + 1) 1 [x1, x2] ps pn = (if x2 ≤ 0 then mT_addPart N n 2 [x1, x2] ps pn else kg (x2 - 1) N ((if (ps (x2 - 1).toNatClampNeg) ≤ x1 then mT_addPart N n 2 [x1, x2] ps pn else kg (x2 - 1) N (kg x2 N (mT_addPart N n 1 [x1, (x2 + (-1))] (upd ps x2.toNatClampNeg (ps (x2 - 1).toNatClampNeg)) pn))))) := rfl
theorem mT_addPart_e2 (N : Nat) (n : Nat) (x1 x2 : Int32) (ps : Nat → Int32) (pn : Int32) : mT_addPart N (n + 1) 2 [x1, x2] ps pn = kg x2 N (some ((upd ps x2.toNatClampNeg x1), (pn + 1))) := rfl
def mT_findParts (N : Nat) (ns : Nat → Int32) (nc : Int32) (wh : Int32) : Nat → Nat → List Int32 → (Nat → Int32) → Int32 → Option ((Nat → Int32) × Int32)
  | n + 1, 0, [x1], ps, pn => mT_findParts N ns nc wh n 1 [x1, wh, 0] ps 0
  | n + 1, 1, [x1, x2, x3], ps, pn => (mG_size N n 0 []).bind fun r111 => (if r111 ≤ x3 then some (ps, pn) else (mF_contains n 0 [x2, x3]).bind fun r113 => (if r113 = 0 then mT_findParts N ns nc wh n 1 [x1, x2, (x3 + 1)] ps pn else (mT_partWith N ns nc wh n 0 [x1, x3]).bind fun r115 => kl (x2 &&& (r115 ^^^ (-1))) fun x2_116 => (mT_addPart N n 0 [r115] ps pn).bind fun (ps_117, pn_117) => mT_findParts N ns nc wh n 1 [x1, x2_116, (x3 + 1)] ps_117 pn_117))
  | _, _, _, _, _ => none
theorem mT_findParts_z (N : Nat) (ns : Nat → Int32) (nc : Int32) (wh : Int32) (b : Nat) (l : List Int32) (ps : Nat → Int32) (pn : Int32) : mT_findParts N ns nc wh 0 b l ps pn = none := by first | rfl | (cases b <;> rfl) | simp [mT_findParts]
theorem mT_findParts_e0 (N : Nat) (ns : Nat → Int32) (nc : Int32) (wh : Int32) (n : Nat) (x1 : Int32) (ps : Nat → Int32) (pn : Int32) : mT_findParts N ns nc wh (n + 1) 0 [x1] ps pn = mT_findParts N ns nc wh n 1 [x1, wh, 0] ps 0 := rfl
theorem mT_findParts_e1 (N : Nat) (ns : Nat → Int32) (nc : Int32) (wh : Int32) (n : Nat) (x1 x2 x3 : Int32) (ps : Nat → Int32) (pn : Int32) : mT_findParts N ns nc wh (n + 1) 1 [x1, x2, x3] ps pn = (mG_size N n 0 []).bind fun r111 => (if r111 ≤ x3 then some (ps, pn) else (mF_contains n 0 [x2, x3]).bind fun r113 => (if r113 = 0 then mT_findParts N ns nc wh n 1 [x1, x2, (x3 + 1)] ps pn else (mT_partWith N ns nc wh n 0 [x1, x3]).bind fun r115 => kl (x2 &&& (r115 ^^^ (-1))) fun x2_116 => (mT_addPart N n 0 [r115] ps pn).bind fun (ps_117, pn_117) => mT_findParts N ns nc wh n 1 [x1, x2_116, (x3 + 1)] ps_117 pn_117)) := rfl
def mG_joined (N : Nat) (nr : Nat → Int32) : Nat → Nat → List Int32 → Option Int32
  | n + 1, 0, [x1, x2] => (mG_nearToAny N nr n 0 [x1, x2]).bind fun r11 => (if r11 = 0 then some (0 : Int32) else some (1 : Int32))
  | _, _, _ => none
theorem mG_joined_z (N : Nat) (nr : Nat → Int32) (b : Nat) (l : List Int32) : mG_joined N nr 0 b l = none := by first | rfl | (cases b <;> rfl) | simp [mG_joined]
theorem mG_joined_e0 (N : Nat) (nr : Nat → Int32) (n : Nat) (x1 x2 : Int32) : mG_joined N nr (n + 1) 0 [x1, x2] = (mG_nearToAny N nr n 0 [x1, x2]).bind fun r11 => (if r11 = 0 then some (0 : Int32) else some (1 : Int32)) := rfl
def mT_findJoins (N : Nat) (nr : Nat → Int32) (ns : Nat → Int32) (nc : Int32) (wh : Int32) : Nat → Nat → List Int32 → (Nat → Int32) → (Nat → Int32) → Int32 → Int32 → Option ((Nat → Int32) × (Nat → Int32) × Int32 × Int32)
  | n + 1, 0, [x1], ps, dg, pn, pj => (mT_findParts N ns nc wh n 0 [x1] ps pn).bind fun (ps_11, pn_11) => mT_findJoins N nr ns nc wh n 1 [0] ps_11 dg pn_11 0
  | n + 1, 1, [x2], ps, dg, pn, pj => (if pn ≤ x2 then some (ps, dg, pn, pj) else kg x2 N (mT_findJoins N nr ns nc wh n 2 [x2, 0] ps (upd dg x2.toNatClampNeg 0) pn pj))
  | n + 1, 2, [x2, x3], ps, dg, pn, pj => (if x2 ≤ x3 then mT_findJoins N nr ns nc wh n 1 [(x2 + 1)] ps dg pn pj else kg x2 N (kg x3 N ((mG_joined N nr n 0 [(ps x2.toNatClampNeg), (ps x3.toNatClampNeg)]).bind fun r214 => (if r214 = 0 then mT_findJoins N nr ns nc wh n 2 [x2, (x3 + 1)] ps dg pn pj else kg x2 N (kg x2 N (kg x3 N (kg x3 N (mT_findJoins N nr ns nc wh n 2 [x2, (x3 + 1)] ps (upd (upd dg x2.toNatClampNeg ((dg x2.toNatClampNeg) + 1)) x3.toNatClampNeg (((upd dg x2.toNatClampNeg ((dg x2.toNatClampNeg) + 1)) x3.toNatClampNeg) + 1)) pn (pj + 1)))))))))
  | _, _, _, _, _, _, _ => none
theorem mT_findJoins_z (N : Nat) (nr : Nat → Int32) (ns : Nat → Int32) (nc : Int32) (wh : Int32) (b : Nat) (l : List Int32) (ps : Nat → Int32) (dg : Nat → Int32) (pn : Int32) (pj : Int32) : mT_findJoins N nr ns nc wh 0 b l ps dg pn pj = none := by first | rfl | (cases b <;> rfl) | simp [mT_findJoins]
theorem mT_findJoins_e0 (N : Nat) (nr : Nat → Int32) (ns : Nat → Int32) (nc : Int32) (wh : Int32) (n : Nat) (x1 : Int32) (ps : Nat → Int32) (dg : Nat → Int32) (pn : Int32) (pj : Int32) : mT_findJoins N nr ns nc wh (n + 1) 0 [x1] ps dg pn pj = (mT_findParts N ns nc wh n 0 [x1] ps pn).bind fun (ps_11, pn_11) => mT_findJoins N nr ns nc wh n 1 [0] ps_11 dg pn_11 0 := rfl
theorem mT_findJoins_e1 (N : Nat) (nr : Nat → Int32) (ns : Nat → Int32) (nc : Int32) (wh : Int32) (n : Nat) (x2 : Int32) (ps : Nat → Int32) (dg : Nat → Int32) (pn : Int32) (pj : Int32) : mT_findJoins N nr ns nc wh (n + 1) 1 [x2] ps dg pn pj = (if pn ≤ x2 then some (ps, dg, pn, pj) else kg x2 N (mT_findJoins N nr ns nc wh n 2 [x2, 0] ps (upd dg x2.toNatClampNeg 0) pn pj)) := rfl
theorem mT_findJoins_e2 (N : Nat) (nr : Nat → Int32) (ns : Nat → Int32) (nc : Int32) (wh : Int32) (n : Nat) (x2 x3 : Int32) (ps : Nat → Int32) (dg : Nat → Int32) (pn : Int32) (pj : Int32) : mT_findJoins N nr ns nc wh (n + 1) 2 [x2, x3] ps dg pn pj = (if x2 ≤ x3 then mT_findJoins N nr ns nc wh n 1 [(x2 + 1)] ps dg pn pj else kg x2 N (kg x3 N ((mG_joined N nr n 0 [(ps x2.toNatClampNeg), (ps x3.toNatClampNeg)]).bind fun r214 => (if r214 = 0 then mT_findJoins N nr ns nc wh n 2 [x2, (x3 + 1)] ps dg pn pj else kg x2 N (kg x2 N (kg x3 N (kg x3 N (mT_findJoins N nr ns nc wh n 2 [x2, (x3 + 1)] ps (upd (upd dg x2.toNatClampNeg ((dg x2.toNatClampNeg) + 1)) x3.toNatClampNeg (((upd dg x2.toNatClampNeg ((dg x2.toNatClampNeg) + 1)) x3.toNatClampNeg) + 1)) pn (pj + 1))))))))) := rfl
def mT_centreIndex (N : Nat) (dg : Nat → Int32) (pn : Int32) (pj : Int32) : Nat → Nat → List Int32 → Option Int32
  | n + 1, 0, [] => mT_centreIndex N dg pn pj n 1 [0]
  | n + 1, 1, [x1] => (if pn ≤ x1 then some (-1 : Int32) else kg x1 N ((if (dg x1.toNatClampNeg) = (pn - 1) then (if pj = (pn - 1) then some x1 else mT_centreIndex N dg pn pj n 1 [(x1 + 1)]) else mT_centreIndex N dg pn pj n 1 [(x1 + 1)])))
  | _, _, _ => none
theorem mT_centreIndex_z (N : Nat) (dg : Nat → Int32) (pn : Int32) (pj : Int32) (b : Nat) (l : List Int32) : mT_centreIndex N dg pn pj 0 b l = none := by first | rfl | (cases b <;> rfl) | simp [mT_centreIndex]
theorem mT_centreIndex_e0 (N : Nat) (dg : Nat → Int32) (pn : Int32) (pj : Int32) (n : Nat) : mT_centreIndex N dg pn pj (n + 1) 0 [] = mT_centreIndex N dg pn pj n 1 [0] := rfl
theorem mT_centreIndex_e1 (N : Nat) (dg : Nat → Int32) (pn : Int32) (pj : Int32) (n : Nat) (x1 : Int32) : mT_centreIndex N dg pn pj (n + 1) 1 [x1] = (if pn ≤ x1 then some (-1 : Int32) else kg x1 N ((if (dg x1.toNatClampNeg) = (pn - 1) then (if pj = (pn - 1) then some x1 else mT_centreIndex N dg pn pj n 1 [(x1 + 1)]) else mT_centreIndex N dg pn pj n 1 [(x1 + 1)]))) := rfl
def mT_nodeKind (N : Nat) (nr : Nat → Int32) (ns : Nat → Int32) (nc : Int32) (wh : Int32) : Nat → Nat → List Int32 → (Nat → Int32) → (Nat → Int32) → Int32 → Int32 → Option (Int32 × (Nat → Int32) × (Nat → Int32) × Int32 × Int32)
  | n + 1, 0, [x1], ps, dg, pn, pj => (mT_findJoins N nr ns nc wh n 0 [x1] ps dg pn pj).bind fun (ps_11, dg_11, pn_11, pj_11) => (if pj_11 = ((pn_11 * (pn_11 - 1)) / 2) then some ((1 : Int32), ps_11, dg_11, pn_11, pj_11) else (mT_centreIndex N dg_11 pn_11 pj_11 n 0 []).bind fun r13 => (if r13 = (-1) then some ((3 : Int32), ps_11, dg_11, pn_11, pj_11) else some ((2 : Int32), ps_11, dg_11, pn_11, pj_11)))
  | _, _, _, _, _, _, _ => none
theorem mT_nodeKind_z (N : Nat) (nr : Nat → Int32) (ns : Nat → Int32) (nc : Int32) (wh : Int32) (b : Nat) (l : List Int32) (ps : Nat → Int32) (dg : Nat → Int32) (pn : Int32) (pj : Int32) : mT_nodeKind N nr ns nc wh 0 b l ps dg pn pj = none := by first | rfl | (cases b <;> rfl) | simp [mT_nodeKind]
theorem mT_nodeKind_e0 (N : Nat) (nr : Nat → Int32) (ns : Nat → Int32) (nc : Int32) (wh : Int32) (n : Nat) (x1 : Int32) (ps : Nat → Int32) (dg : Nat → Int32) (pn : Int32) (pj : Int32) : mT_nodeKind N nr ns nc wh (n + 1) 0 [x1] ps dg pn pj = (mT_findJoins N nr ns nc wh n 0 [x1] ps dg pn pj).bind fun (ps_11, dg_11, pn_11, pj_11) => (if pj_11 = ((pn_11 * (pn_11 - 1)) / 2) then some ((1 : Int32), ps_11, dg_11, pn_11, pj_11) else (mT_centreIndex N dg_11 pn_11 pj_11 n 0 []).bind fun r13 => (if r13 = (-1) then some ((3 : Int32), ps_11, dg_11, pn_11, pj_11) else some ((2 : Int32), ps_11, dg_11, pn_11, pj_11))) := rfl
def mF_kind (N : Nat) (nr : Nat → Int32) : Nat → Nat → List Int32 → (Nat → Int32) → Int32 → (Nat → Int32) → Int32 → (Nat → Int32) → (Nat → Int32) → Int32 → Int32 → Int32 → Option (Int32 × (Nat → Int32) × Int32 × (Nat → Int32) × Int32 × (Nat → Int32) × (Nat → Int32) × Int32 × Int32 × Int32)
  | n + 1, 0, [x1, x2], ss, sc, ns, nc, ps, dg, pn, pj, wh => (mF_hasNode N nr n 0 [x1, x2] ss sc ns nc wh).bind fun (r11, ss_11, sc_11, ns_11, nc_11, wh_11) => (if r11 = 0 then some ((-1 : Int32), ss_11, sc_11, ns_11, nc_11, ps, dg, pn, pj, wh_11) else (mT_nodeKind N nr ns_11 nc_11 wh_11 n 0 [x2] ps dg pn pj).bind fun (r13, ps_13, dg_13, pn_13, pj_13) => some (r13, ss_11, sc_11, ns_11, nc_11, ps_13, dg_13, pn_13, pj_13, wh_11))
  | _, _, _, _, _, _, _, _, _, _, _, _ => none
theorem mF_kind_z (N : Nat) (nr : Nat → Int32) (b : Nat) (l : List Int32) (ss : Nat → Int32) (sc : Int32) (ns : Nat → Int32) (nc : Int32) (ps : Nat → Int32) (dg : Nat → Int32) (pn : Int32) (pj : Int32) (wh : Int32) : mF_kind N nr 0 b l ss sc ns nc ps dg pn pj wh = none := by first | rfl | (cases b <;> rfl) | simp [mF_kind]
theorem mF_kind_e0 (N : Nat) (nr : Nat → Int32) (n : Nat) (x1 x2 : Int32) (ss : Nat → Int32) (sc : Int32) (ns : Nat → Int32) (nc : Int32) (ps : Nat → Int32) (dg : Nat → Int32) (pn : Int32) (pj : Int32) (wh : Int32) : mF_kind N nr (n + 1) 0 [x1, x2] ss sc ns nc ps dg pn pj wh = (mF_hasNode N nr n 0 [x1, x2] ss sc ns nc wh).bind fun (r11, ss_11, sc_11, ns_11, nc_11, wh_11) => (if r11 = 0 then some ((-1 : Int32), ss_11, sc_11, ns_11, nc_11, ps, dg, pn, pj, wh_11) else (mT_nodeKind N nr ns_11 nc_11 wh_11 n 0 [x2] ps dg pn pj).bind fun (r13, ps_13, dg_13, pn_13, pj_13) => some (r13, ss_11, sc_11, ns_11, nc_11, ps_13, dg_13, pn_13, pj_13, wh_11)) := rfl
def mT_partCount (N : Nat) (ns : Nat → Int32) (nc : Int32) (wh : Int32) : Nat → Nat → List Int32 → (Nat → Int32) → Int32 → Option (Int32 × (Nat → Int32) × Int32)
  | n + 1, 0, [x1], ps, pn => (mT_findParts N ns nc wh n 0 [x1] ps pn).bind fun (ps_11, pn_11) => some (pn_11, ps_11, pn_11)
  | _, _, _, _, _ => none
theorem mT_partCount_z (N : Nat) (ns : Nat → Int32) (nc : Int32) (wh : Int32) (b : Nat) (l : List Int32) (ps : Nat → Int32) (pn : Int32) : mT_partCount N ns nc wh 0 b l ps pn = none := by first | rfl | (cases b <;> rfl) | simp [mT_partCount]
theorem mT_partCount_e0 (N : Nat) (ns : Nat → Int32) (nc : Int32) (wh : Int32) (n : Nat) (x1 : Int32) (ps : Nat → Int32) (pn : Int32) : mT_partCount N ns nc wh (n + 1) 0 [x1] ps pn = (mT_findParts N ns nc wh n 0 [x1] ps pn).bind fun (ps_11, pn_11) => some (pn_11, ps_11, pn_11) := rfl
def mF_parts (N : Nat) (nr : Nat → Int32) : Nat → Nat → List Int32 → (Nat → Int32) → Int32 → (Nat → Int32) → Int32 → (Nat → Int32) → Int32 → Int32 → Option (Int32 × (Nat → Int32) × Int32 × (Nat → Int32) × Int32 × (Nat → Int32) × Int32 × Int32)
  | n + 1, 0, [x1, x2], ss, sc, ns, nc, ps, pn, wh => (mF_hasNode N nr n 0 [x1, x2] ss sc ns nc wh).bind fun (r11, ss_11, sc_11, ns_11, nc_11, wh_11) => (if r11 = 0 then some ((-1 : Int32), ss_11, sc_11, ns_11, nc_11, ps, pn, wh_11) else (mT_partCount N ns_11 nc_11 wh_11 n 0 [x2] ps pn).bind fun (r13, ps_13, pn_13) => some (r13, ss_11, sc_11, ns_11, nc_11, ps_13, pn_13, wh_11))
  | _, _, _, _, _, _, _, _, _, _ => none
theorem mF_parts_z (N : Nat) (nr : Nat → Int32) (b : Nat) (l : List Int32) (ss : Nat → Int32) (sc : Int32) (ns : Nat → Int32) (nc : Int32) (ps : Nat → Int32) (pn : Int32) (wh : Int32) : mF_parts N nr 0 b l ss sc ns nc ps pn wh = none := by first | rfl | (cases b <;> rfl) | simp [mF_parts]
theorem mF_parts_e0 (N : Nat) (nr : Nat → Int32) (n : Nat) (x1 x2 : Int32) (ss : Nat → Int32) (sc : Int32) (ns : Nat → Int32) (nc : Int32) (ps : Nat → Int32) (pn : Int32) (wh : Int32) : mF_parts N nr (n + 1) 0 [x1, x2] ss sc ns nc ps pn wh = (mF_hasNode N nr n 0 [x1, x2] ss sc ns nc wh).bind fun (r11, ss_11, sc_11, ns_11, nc_11, wh_11) => (if r11 = 0 then some ((-1 : Int32), ss_11, sc_11, ns_11, nc_11, ps, pn, wh_11) else (mT_partCount N ns_11 nc_11 wh_11 n 0 [x2] ps pn).bind fun (r13, ps_13, pn_13) => some (r13, ss_11, sc_11, ns_11, nc_11, ps_13, pn_13, wh_11)) := rfl
def mT_partSet (N : Nat) (ns : Nat → Int32) (nc : Int32) (wh : Int32) : Nat → Nat → List Int32 → (Nat → Int32) → Int32 → Option (Int32 × (Nat → Int32) × Int32)
  | n + 1, 0, [x1, x2], ps, pn => (mT_findParts N ns nc wh n 0 [x1] ps pn).bind fun (ps_11, pn_11) => (if x2 < 0 then some ((-1 : Int32), ps_11, pn_11) else (if pn_11 ≤ x2 then some ((-1 : Int32), ps_11, pn_11) else kg x2 N (some ((ps_11 x2.toNatClampNeg), ps_11, pn_11))))
  | _, _, _, _, _ => none
theorem mT_partSet_z (N : Nat) (ns : Nat → Int32) (nc : Int32) (wh : Int32) (b : Nat) (l : List Int32) (ps : Nat → Int32) (pn : Int32) : mT_partSet N ns nc wh 0 b l ps pn = none := by first | rfl | (cases b <;> rfl) | simp [mT_partSet]
theorem mT_partSet_e0 (N : Nat) (ns : Nat → Int32) (nc : Int32) (wh : Int32) (n : Nat) (x1 x2 : Int32) (ps : Nat → Int32) (pn : Int32) : mT_partSet N ns nc wh (n + 1) 0 [x1, x2] ps pn = (mT_findParts N ns nc wh n 0 [x1] ps pn).bind fun (ps_11, pn_11) => (if x2 < 0 then some ((-1 : Int32), ps_11, pn_11) else (if pn_11 ≤ x2 then some ((-1 : Int32), ps_11, pn_11) else kg x2 N (some ((ps_11 x2.toNatClampNeg), ps_11, pn_11)))) := rfl
def mF_part (N : Nat) (nr : Nat → Int32) : Nat → Nat → List Int32 → (Nat → Int32) → Int32 → (Nat → Int32) → Int32 → (Nat → Int32) → Int32 → Int32 → Option (Int32 × (Nat → Int32) × Int32 × (Nat → Int32) × Int32 × (Nat → Int32) × Int32 × Int32)
  | n + 1, 0, [x1, x2, x3], ss, sc, ns, nc, ps, pn, wh => (mF_hasNode N nr n 0 [x1, x2] ss sc ns nc wh).bind fun (r11, ss_11, sc_11, ns_11, nc_11, wh_11) => (if r11 = 0 then some ((-1 : Int32), ss_11, sc_11, ns_11, nc_11, ps, pn, wh_11) else (mT_partSet N ns_11 nc_11 wh_11 n 0 [x2, x3] ps pn).bind fun (r13, ps_13, pn_13) => some (r13, ss_11, sc_11, ns_11, nc_11, ps_13, pn_13, wh_11))
  | _, _, _, _, _, _, _, _, _, _ => none
theorem mF_part_z (N : Nat) (nr : Nat → Int32) (b : Nat) (l : List Int32) (ss : Nat → Int32) (sc : Int32) (ns : Nat → Int32) (nc : Int32) (ps : Nat → Int32) (pn : Int32) (wh : Int32) : mF_part N nr 0 b l ss sc ns nc ps pn wh = none := by first | rfl | (cases b <;> rfl) | simp [mF_part]
theorem mF_part_e0 (N : Nat) (nr : Nat → Int32) (n : Nat) (x1 x2 x3 : Int32) (ss : Nat → Int32) (sc : Int32) (ns : Nat → Int32) (nc : Int32) (ps : Nat → Int32) (pn : Int32) (wh : Int32) : mF_part N nr (n + 1) 0 [x1, x2, x3] ss sc ns nc ps pn wh = (mF_hasNode N nr n 0 [x1, x2] ss sc ns nc wh).bind fun (r11, ss_11, sc_11, ns_11, nc_11, wh_11) => (if r11 = 0 then some ((-1 : Int32), ss_11, sc_11, ns_11, nc_11, ps, pn, wh_11) else (mT_partSet N ns_11 nc_11 wh_11 n 0 [x2, x3] ps pn).bind fun (r13, ps_13, pn_13) => some (r13, ss_11, sc_11, ns_11, nc_11, ps_13, pn_13, wh_11)) := rfl
def mT_centreSet (N : Nat) (nr : Nat → Int32) (ns : Nat → Int32) (nc : Int32) (wh : Int32) : Nat → Nat → List Int32 → (Nat → Int32) → (Nat → Int32) → Int32 → Int32 → Option (Int32 × (Nat → Int32) × (Nat → Int32) × Int32 × Int32)
  | n + 1, 0, [x1], ps, dg, pn, pj => (mT_nodeKind N nr ns nc wh n 0 [x1] ps dg pn pj).bind fun (r11, ps_11, dg_11, pn_11, pj_11) => (if r11 = 2 then (mT_centreIndex N dg_11 pn_11 pj_11 n 0 []).bind fun r13 => kg r13 N (some ((ps_11 r13.toNatClampNeg), ps_11, dg_11, pn_11, pj_11)) else some ((-1 : Int32), ps_11, dg_11, pn_11, pj_11))
  | _, _, _, _, _, _, _ => none
theorem mT_centreSet_z (N : Nat) (nr : Nat → Int32) (ns : Nat → Int32) (nc : Int32) (wh : Int32) (b : Nat) (l : List Int32) (ps : Nat → Int32) (dg : Nat → Int32) (pn : Int32) (pj : Int32) : mT_centreSet N nr ns nc wh 0 b l ps dg pn pj = none := by first | rfl | (cases b <;> rfl) | simp [mT_centreSet]
theorem mT_centreSet_e0 (N : Nat) (nr : Nat → Int32) (ns : Nat → Int32) (nc : Int32) (wh : Int32) (n : Nat) (x1 : Int32) (ps : Nat → Int32) (dg : Nat → Int32) (pn : Int32) (pj : Int32) : mT_centreSet N nr ns nc wh (n + 1) 0 [x1] ps dg pn pj = (mT_nodeKind N nr ns nc wh n 0 [x1] ps dg pn pj).bind fun (r11, ps_11, dg_11, pn_11, pj_11) => (if r11 = 2 then (mT_centreIndex N dg_11 pn_11 pj_11 n 0 []).bind fun r13 => kg r13 N (some ((ps_11 r13.toNatClampNeg), ps_11, dg_11, pn_11, pj_11)) else some ((-1 : Int32), ps_11, dg_11, pn_11, pj_11)) := rfl
def mF_centre (N : Nat) (nr : Nat → Int32) : Nat → Nat → List Int32 → (Nat → Int32) → Int32 → (Nat → Int32) → Int32 → (Nat → Int32) → (Nat → Int32) → Int32 → Int32 → Int32 → Option (Int32 × (Nat → Int32) × Int32 × (Nat → Int32) × Int32 × (Nat → Int32) × (Nat → Int32) × Int32 × Int32 × Int32)
  | n + 1, 0, [x1, x2], ss, sc, ns, nc, ps, dg, pn, pj, wh => (mF_hasNode N nr n 0 [x1, x2] ss sc ns nc wh).bind fun (r11, ss_11, sc_11, ns_11, nc_11, wh_11) => (if r11 = 0 then some ((-1 : Int32), ss_11, sc_11, ns_11, nc_11, ps, dg, pn, pj, wh_11) else (mT_centreSet N nr ns_11 nc_11 wh_11 n 0 [x2] ps dg pn pj).bind fun (r13, ps_13, dg_13, pn_13, pj_13) => some (r13, ss_11, sc_11, ns_11, nc_11, ps_13, dg_13, pn_13, pj_13, wh_11))
  | _, _, _, _, _, _, _, _, _, _, _, _ => none
theorem mF_centre_z (N : Nat) (nr : Nat → Int32) (b : Nat) (l : List Int32) (ss : Nat → Int32) (sc : Int32) (ns : Nat → Int32) (nc : Int32) (ps : Nat → Int32) (dg : Nat → Int32) (pn : Int32) (pj : Int32) (wh : Int32) : mF_centre N nr 0 b l ss sc ns nc ps dg pn pj wh = none := by first | rfl | (cases b <;> rfl) | simp [mF_centre]
theorem mF_centre_e0 (N : Nat) (nr : Nat → Int32) (n : Nat) (x1 x2 : Int32) (ss : Nat → Int32) (sc : Int32) (ns : Nat → Int32) (nc : Int32) (ps : Nat → Int32) (dg : Nat → Int32) (pn : Int32) (pj : Int32) (wh : Int32) : mF_centre N nr (n + 1) 0 [x1, x2] ss sc ns nc ps dg pn pj wh = (mF_hasNode N nr n 0 [x1, x2] ss sc ns nc wh).bind fun (r11, ss_11, sc_11, ns_11, nc_11, wh_11) => (if r11 = 0 then some ((-1 : Int32), ss_11, sc_11, ns_11, nc_11, ps, dg, pn, pj, wh_11) else (mT_centreSet N nr ns_11 nc_11 wh_11 n 0 [x2] ps dg pn pj).bind fun (r13, ps_13, dg_13, pn_13, pj_13) => some (r13, ss_11, sc_11, ns_11, nc_11, ps_13, dg_13, pn_13, pj_13, wh_11)) := rfl
def mT_links (N : Nat) (nr : Nat → Int32) (ns : Nat → Int32) (nc : Int32) (wh : Int32) : Nat → Nat → List Int32 → Option Int32
  | n + 1, 0, [x1, x2] => mT_links N nr ns nc wh n 1 [x1, x2, 0]
  | n + 1, 1, [x1, x2, x3] => (if nc ≤ x3 then some (1 : Int32) else (mT_partWith N ns nc wh n 0 [x3, x1]).bind fun r112 => (mT_partWith N ns nc wh n 0 [x3, x2]).bind fun r113 => (if r112 = r113 then mT_links N nr ns nc wh n 1 [x1, x2, (x3 + 1)] else (mG_joined N nr n 0 [r112, r113]).bind fun r115 => (if r115 = 0 then some (0 : Int32) else mT_links N nr ns nc wh n 1 [x1, x2, (x3 + 1)])))
  | _, _, _ => none
theorem mT_links_z (N : Nat) (nr : Nat → Int32) (ns : Nat → Int32) (nc : Int32) (wh : Int32) (b : Nat) (l : List Int32) : mT_links N nr ns nc wh 0 b l = none := by first | rfl | (cases b <;> rfl) | simp [mT_links]
theorem mT_links_e0 (N : Nat) (nr : Nat → Int32) (ns : Nat → Int32) (nc : Int32) (wh : Int32) (n : Nat) (x1 x2 : Int32) : mT_links N nr ns nc wh (n + 1) 0 [x1, x2] = mT_links N nr ns nc wh n 1 [x1, x2, 0] := rfl
theorem mT_links_e1 (N : Nat) (nr : Nat → Int32) (ns : Nat → Int32) (nc : Int32) (wh : Int32) (n : Nat) (x1 x2 x3 : Int32) : mT_links N nr ns nc wh (n + 1) 1 [x1, x2, x3] = (if nc ≤ x3 then some (1 : Int32) else (mT_partWith N ns nc wh n 0 [x3, x1]).bind fun r112 => (mT_partWith N ns nc wh n 0 [x3, x2]).bind fun r113 => (if r112 = r113 then mT_links N nr ns nc wh n 1 [x1, x2, (x3 + 1)] else (mG_joined N nr n 0 [r112, r113]).bind fun r115 => (if r115 = 0 then some (0 : Int32) else mT_links N nr ns nc wh n 1 [x1, x2, (x3 + 1)]))) := rfl
def mF_linked (N : Nat) (nr : Nat → Int32) : Nat → Nat → List Int32 → (Nat → Int32) → Int32 → (Nat → Int32) → Int32 → Int32 → Option (Int32 × (Nat → Int32) × Int32 × (Nat → Int32) × Int32 × Int32)
  | n + 1, 0, [x1, x2], ss, sc, ns, nc, wh => (mG_has N n 0 [x1]).bind fun r11 => (if r11 = 0 then some ((0 : Int32), ss, sc, ns, nc, wh) else (mG_has N n 0 [x2]).bind fun r13 => (if r13 = 0 then some ((0 : Int32), ss, sc, ns, nc, wh) else (if x1 = x2 then some ((0 : Int32), ss, sc, ns, nc, wh) else (mF_componentOf N nr n 0 [x1]).bind fun r16 => (mF_contains n 0 [r16, x2]).bind fun r17 => (if r17 = 0 then some ((0 : Int32), ss, sc, ns, nc, wh) else (mF_treeOf N nr n 0 [x1] ss sc ns nc wh).bind fun (ss_19, sc_19, ns_19, nc_19, wh_19) => (mT_links N nr ns_19 nc_19 wh_19 n 0 [x1, x2]).bind fun r20 => (if r20 = 0 then some ((0 : Int32), ss_19, sc_19, ns_19, nc_19, wh_19) else some ((1 : Int32), ss_19, sc_19, ns_19, nc_19, wh_19))))))
  | _, _, _, _, _, _, _, _ => none
theorem mF_linked_z (N : Nat) (nr : Nat → Int32) (b : Nat) (l : List Int32) (ss : Nat → Int32) (sc : Int32) (ns : Nat → Int32) (nc : Int32) (wh : Int32) : mF_linked N nr 0 b l ss sc ns nc wh = none := by first | rfl | (cases b <;> rfl) | simp [mF_linked]
theorem mF_linked_e0 (N : Nat) (nr : Nat → Int32) (n : Nat) (x1 x2 : Int32) (ss : Nat → Int32) (sc : Int32) (ns : Nat → Int32) (nc : Int32) (wh : Int32) : mF_linked N nr (n + 1) 0 [x1, x2] ss sc ns nc wh = (mG_has N n 0 [x1]).bind fun r11 => (if r11 = 0 then some ((0 : Int32), ss, sc, ns, nc, wh) else (mG_has N n 0 [x2]).bind fun r13 => (if r13 = 0 then some ((0 : Int32), ss, sc, ns, nc, wh) else (if x1 = x2 then some ((0 : Int32), ss, sc, ns, nc, wh) else (mF_componentOf N nr n 0 [x1]).bind fun r16 => (mF_contains n 0 [r16, x2]).bind fun r17 => (if r17 = 0 then some ((0 : Int32), ss, sc, ns, nc, wh) else (mF_treeOf N nr n 0 [x1] ss sc ns nc wh).bind fun (ss_19, sc_19, ns_19, nc_19, wh_19) => (mT_links N nr ns_19 nc_19 wh_19 n 0 [x1, x2]).bind fun r20 => (if r20 = 0 then some ((0 : Int32), ss_19, sc_19, ns_19, nc_19, wh_19) else some ((1 : Int32), ss_19, sc_19, ns_19, nc_19, wh_19)))))) := rfl
def mG_areTwins (N : Nat) (nr : Nat → Int32) : Nat → Nat → List Int32 → Option Int32
  | n + 1, 0, [x1, x2, x3] => kl ((x3 &&& (((1 : Int32) <<< (x1 &&& 31)) ^^^ (-1))) &&& (((1 : Int32) <<< (x2 &&& 31)) ^^^ (-1))) fun x4_11 => kg x1 N (kg x2 N ((if ((nr x1.toNatClampNeg) &&& x4_11) = ((nr x2.toNatClampNeg) &&& x4_11) then some (1 : Int32) else some (0 : Int32))))
  | _, _, _ => none
theorem mG_areTwins_z (N : Nat) (nr : Nat → Int32) (b : Nat) (l : List Int32) : mG_areTwins N nr 0 b l = none := by first | rfl | (cases b <;> rfl) | simp [mG_areTwins]
theorem mG_areTwins_e0 (N : Nat) (nr : Nat → Int32) (n : Nat) (x1 x2 x3 : Int32) : mG_areTwins N nr (n + 1) 0 [x1, x2, x3] = kl ((x3 &&& (((1 : Int32) <<< (x1 &&& 31)) ^^^ (-1))) &&& (((1 : Int32) <<< (x2 &&& 31)) ^^^ (-1))) fun x4_11 => kg x1 N (kg x2 N ((if ((nr x1.toNatClampNeg) &&& x4_11) = ((nr x2.toNatClampNeg) &&& x4_11) then some (1 : Int32) else some (0 : Int32)))) := rfl
def mE_stepAt (N : Nat) (nr : Nat → Int32) (lf : Int32) : Nat → Nat → List Int32 → Option Int32
  | n + 1, 0, [x1] => (mG_nearInside N nr n 0 [x1, lf]).bind fun r11 => (mJ_bitCount n 0 [r11]).bind fun r12 => (if r12 = 1 then mE_stepAt N nr lf n 1 [x1, r11, 1] else mE_stepAt N nr lf n 1 [x1, r11, 0])
  | n + 1, 1, [x1, x2, y0] => mE_stepAt N nr lf n 2 [x1, x2, y0, 0]
  | n + 1, 2, [x1, x2, x3, x4] => (mG_size N n 0 []).bind fun r211 => (if r211 ≤ x4 then some (-1 : Int32) else (mF_contains n 0 [x2, x4]).bind fun r213 => (if x3 = 0 then mE_stepAt N nr lf n 3 [x1, x2, x3, x4, r213] else (if r213 = 0 then mE_stepAt N nr lf n 3 [x1, x2, x3, x4, r213] else some (x1 + (16 * x4)))))
  | n + 1, 3, [x1, x2, x3, x4, x5] => (if x3 = 0 then (if x4 = x1 then mE_stepAt N nr lf n 2 [x1, x2, x3, (x4 + 1)] else (mF_contains n 0 [lf, x4]).bind fun r313 => (if r313 = 0 then mE_stepAt N nr lf n 2 [x1, x2, x3, (x4 + 1)] else (mG_areTwins N nr n 0 [x1, x4, lf]).bind fun r315 => (if r315 = 0 then mE_stepAt N nr lf n 2 [x1, x2, x3, (x4 + 1)] else (if x5 = 0 then some ((x1 + (16 * x4)) + 256) else some ((x1 + (16 * x4)) + 512))))) else mE_stepAt N nr lf n 2 [x1, x2, x3, (x4 + 1)])
  | _, _, _ => none
theorem mE_stepAt_z (N : Nat) (nr : Nat → Int32) (lf : Int32) (b : Nat) (l : List Int32) : mE_stepAt N nr lf 0 b l = none := by first | rfl | (cases b <;> rfl) | simp [mE_stepAt]
theorem mE_stepAt_e0 (N : Nat) (nr : Nat → Int32) (lf : Int32) (n : Nat) (x1 : Int32) : mE_stepAt N nr lf (n + 1) 0 [x1] = (mG_nearInside N nr n 0 [x1, lf]).bind fun r11 => (mJ_bitCount n 0 [r11]).bind fun r12 => (if r12 = 1 then mE_stepAt N nr lf n 1 [x1, r11, 1] else mE_stepAt N nr lf n 1 [x1, r11, 0]) := rfl
theorem mE_stepAt_e1 (N : Nat) (nr : Nat → Int32) (lf : Int32) (n : Nat) (x1 x2 y0 : Int32) : mE_stepAt N nr lf (n + 1) 1 [x1, x2, y0] = mE_stepAt N nr lf n 2 [x1, x2, y0, 0] := rfl
theorem mE_stepAt_e2 (N : Nat) (nr : Nat → Int32) (lf : Int32) (n : Nat) (x1 x2 x3 x4 : Int32) : mE_stepAt N nr lf (n + 1) 2 [x1, x2, x3, x4] = (mG_size N n 0 []).bind fun r211 => (if r211 ≤ x4 then some (-1 : Int32) else (mF_contains n 0 [x2, x4]).bind fun r213 => (if x3 = 0 then mE_stepAt N nr lf n 3 [x1, x2, x3, x4, r213] else (if r213 = 0 then mE_stepAt N nr lf n 3 [x1, x2, x3, x4, r213] else some (x1 + (16 * x4))))) := rfl
theorem mE_stepAt_e3 (N : Nat) (nr : Nat → Int32) (lf : Int32) (n : Nat) (x1 x2 x3 x4 x5 : Int32) : mE_stepAt N nr lf (n + 1) 3 [x1, x2, x3, x4, x5] = (if x3 = 0 then (if x4 = x1 then mE_stepAt N nr lf n 2 [x1, x2, x3, (x4 + 1)] else (mF_contains n 0 [lf, x4]).bind fun r313 => (if r313 = 0 then mE_stepAt N nr lf n 2 [x1, x2, x3, (x4 + 1)] else (mG_areTwins N nr n 0 [x1, x4, lf]).bind fun r315 => (if r315 = 0 then mE_stepAt N nr lf n 2 [x1, x2, x3, (x4 + 1)] else (if x5 = 0 then some ((x1 + (16 * x4)) + 256) else some ((x1 + (16 * x4)) + 512))))) else mE_stepAt N nr lf n 2 [x1, x2, x3, (x4 + 1)]) := rfl
def mE_nextStep (N : Nat) (nr : Nat → Int32) (lf : Int32) : Nat → Nat → List Int32 → Option Int32
  | n + 1, 0, [] => (mG_size N n 0 []).bind fun r11 => kl (r11 - 1) fun x1_12 => mE_nextStep N nr lf n 1 [x1_12]
  | n + 1, 1, [x1] => (if x1 < 0 then some (-1 : Int32) else (mF_contains n 0 [lf, x1]).bind fun r112 => (if r112 = 0 then mE_nextStep N nr lf n 2 [x1, (-1)] else (mE_stepAt N nr lf n 0 [x1]).bind fun r114 => mE_nextStep N nr lf n 2 [x1, r114]))
  | n + 1, 2, [x1, y0] => (if y0 = (-1) then mE_nextStep N nr lf n 1 [(x1 + (-1))] else some y0)
  | _, _, _ => none
theorem mE_nextStep_z (N : Nat) (nr : Nat → Int32) (lf : Int32) (b : Nat) (l : List Int32) : mE_nextStep N nr lf 0 b l = none := by first | rfl | (cases b <;> rfl) | simp [mE_nextStep]
theorem mE_nextStep_e0 (N : Nat) (nr : Nat → Int32) (lf : Int32) (n : Nat) : mE_nextStep N nr lf (n + 1) 0 [] = (mG_size N n 0 []).bind fun r11 => kl (r11 - 1) fun x1_12 => mE_nextStep N nr lf n 1 [x1_12] := rfl
theorem mE_nextStep_e1 (N : Nat) (nr : Nat → Int32) (lf : Int32) (n : Nat) (x1 : Int32) : mE_nextStep N nr lf (n + 1) 1 [x1] = (if x1 < 0 then some (-1 : Int32) else (mF_contains n 0 [lf, x1]).bind fun r112 => (if r112 = 0 then mE_nextStep N nr lf n 2 [x1, (-1)] else (mE_stepAt N nr lf n 0 [x1]).bind fun r114 => mE_nextStep N nr lf n 2 [x1, r114])) := rfl
theorem mE_nextStep_e2 (N : Nat) (nr : Nat → Int32) (lf : Int32) (n : Nat) (x1 y0 : Int32) : mE_nextStep N nr lf (n + 1) 2 [x1, y0] = (if y0 = (-1) then mE_nextStep N nr lf n 1 [(x1 + (-1))] else some y0) := rfl
def mE_run (N : Nat) (nr : Nat → Int32) : Nat → Nat → List Int32 → (Nat → Int32) → Int32 → Int32 → Option ((Nat → Int32) × Int32 × Int32)
  | n + 1, 0, [x1], st, sn, lf => (mE_nextStep N nr x1 n 0 []).bind fun r11 => mE_run N nr n 1 [r11] st 0 x1
  | n + 1, 1, [x2], st, sn, lf => (if x2 = (-1) then some (st, sn, lf) else (if (nI N) ≤ sn then some (st, sn, lf) else kg sn N ((mE_nextStep N nr (lf &&& (((1 : Int32) <<< ((x2 - x2 / 16 * 16) &&& 31)) ^^^ (-1))) n 0 []).bind fun r114 => mE_run N nr n 1 [r114] (upd st sn.toNatClampNeg x2) (sn + 1) (lf &&& (((1 : Int32) <<< ((x2 - x2 / 16 * 16) &&& 31)) ^^^ (-1))))))
  | _, _, _, _, _, _ => none
theorem mE_run_z (N : Nat) (nr : Nat → Int32) (b : Nat) (l : List Int32) (st : Nat → Int32) (sn : Int32) (lf : Int32) : mE_run N nr 0 b l st sn lf = none := by first | rfl | (cases b <;> rfl) | simp [mE_run]
theorem mE_run_e0 (N : Nat) (nr : Nat → Int32) (n : Nat) (x1 : Int32) (st : Nat → Int32) (sn : Int32) (lf : Int32) : mE_run N nr (n + 1) 0 [x1] st sn lf = (mE_nextStep N nr x1 n 0 []).bind fun r11 => mE_run N nr n 1 [r11] st 0 x1 := rfl
theorem mE_run_e1 (N : Nat) (nr : Nat → Int32) (n : Nat) (x2 : Int32) (st : Nat → Int32) (sn : Int32) (lf : Int32) : mE_run N nr (n + 1) 1 [x2] st sn lf = (if x2 = (-1) then some (st, sn, lf) else (if (nI N) ≤ sn then some (st, sn, lf) else kg sn N ((mE_nextStep N nr (lf &&& (((1 : Int32) <<< ((x2 - x2 / 16 * 16) &&& 31)) ^^^ (-1))) n 0 []).bind fun r114 => mE_run N nr n 1 [r114] (upd st sn.toNatClampNeg x2) (sn + 1) (lf &&& (((1 : Int32) <<< ((x2 - x2 / 16 * 16) &&& 31)) ^^^ (-1)))))) := rfl
def mE_clears (N : Nat) (nr : Nat → Int32) : Nat → Nat → List Int32 → (Nat → Int32) → Int32 → Int32 → Option (Int32 × (Nat → Int32) × Int32 × Int32)
  | n + 1, 0, [x1], st, sn, lf => mE_clears N nr n 1 [x1, x1, 0] st sn lf
  | n + 1, 1, [x1, x2, x3], st, sn, lf => (mG_size N n 0 []).bind fun r111 => (if r111 ≤ x3 then some ((1 : Int32), st, sn, lf) else (mF_contains n 0 [x2, x3]).bind fun r113 => (if r113 = 0 then mE_clears N nr n 1 [x1, x2, (x3 + 1)] st sn lf else (mG_reached N nr n 0 [x3, x1]).bind fun r115 => kl (x2 &&& (r115 ^^^ (-1))) fun x2_116 => (mE_run N nr n 0 [r115] st sn lf).bind fun (st_117, sn_117, lf_117) => (mJ_bitCount n 0 [lf_117]).bind fun r118 => (if r118 = 1 then mE_clears N nr n 1 [x1, x2_116, (x3 + 1)] st_117 sn_117 lf_117 else some ((0 : Int32), st_117, sn_117, lf_117))))
  | _, _, _, _, _, _ => none
theorem mE_clears_z (N : Nat) (nr : Nat → Int32) (b : Nat) (l : List Int32) (st : Nat → Int32) (sn : Int32) (lf : Int32) : mE_clears N nr 0 b l st sn lf = none := by first | rfl | (cases b <;> rfl) | simp [mE_clears]
theorem mE_clears_e0 (N : Nat) (nr : Nat → Int32) (n : Nat) (x1 : Int32) (st : Nat → Int32) (sn : Int32) (lf : Int32) : mE_clears N nr (n + 1) 0 [x1] st sn lf = mE_clears N nr n 1 [x1, x1, 0] st sn lf := rfl
theorem mE_clears_e1 (N : Nat) (nr : Nat → Int32) (n : Nat) (x1 x2 x3 : Int32) (st : Nat → Int32) (sn : Int32) (lf : Int32) : mE_clears N nr (n + 1) 1 [x1, x2, x3] st sn lf = (mG_size N n 0 []).bind fun r111 => (if r111 ≤ x3 then some ((1 : Int32), st, sn, lf) else (mF_contains n 0 [x2, x3]).bind fun r113 => (if r113 = 0 then mE_clears N nr n 1 [x1, x2, (x3 + 1)] st sn lf else (mG_reached N nr n 0 [x3, x1]).bind fun r115 => kl (x2 &&& (r115 ^^^ (-1))) fun x2_116 => (mE_run N nr n 0 [r115] st sn lf).bind fun (st_117, sn_117, lf_117) => (mJ_bitCount n 0 [lf_117]).bind fun r118 => (if r118 = 1 then mE_clears N nr n 1 [x1, x2_116, (x3 + 1)] st_117 sn_117 lf_117 else some ((0 : Int32), st_117, sn_117, lf_117)))) := rfl
def mF_hereditary (N : Nat) (nr : Nat → Int32) : Nat → Nat → List Int32 → (Nat → Int32) → Int32 → Int32 → Option (Int32 × (Nat → Int32) × Int32 × Int32)
  | n + 1, 0, [x1], st, sn, lf => (mG_has N n 0 [x1]).bind fun r11 => (if r11 = 0 then some ((0 : Int32), st, sn, lf) else (mF_componentOf N nr n 0 [x1]).bind fun r13 => (mE_clears N nr n 0 [r13] st sn lf).bind fun (r14, st_14, sn_14, lf_14) => (if r14 = 0 then some ((0 : Int32), st_14, sn_14, lf_14) else some ((1 : Int32), st_14, sn_14, lf_14)))
  | _, _, _, _, _, _ => none
theorem mF_hereditary_z (N : Nat) (nr : Nat → Int32) (b : Nat) (l : List Int32) (st : Nat → Int32) (sn : Int32) (lf : Int32) : mF_hereditary N nr 0 b l st sn lf = none := by first | rfl | (cases b <;> rfl) | simp [mF_hereditary]
theorem mF_hereditary_e0 (N : Nat) (nr : Nat → Int32) (n : Nat) (x1 : Int32) (st : Nat → Int32) (sn : Int32) (lf : Int32) : mF_hereditary N nr (n + 1) 0 [x1] st sn lf = (mG_has N n 0 [x1]).bind fun r11 => (if r11 = 0 then some ((0 : Int32), st, sn, lf) else (mF_componentOf N nr n 0 [x1]).bind fun r13 => (mE_clears N nr n 0 [r13] st sn lf).bind fun (r14, st_14, sn_14, lf_14) => (if r14 = 0 then some ((0 : Int32), st_14, sn_14, lf_14) else some ((1 : Int32), st_14, sn_14, lf_14))) := rfl
def mE_stepOf (N : Nat) (nr : Nat → Int32) : Nat → Nat → List Int32 → (Nat → Int32) → Int32 → Int32 → Option (Int32 × (Nat → Int32) × Int32 × Int32)
  | n + 1, 0, [x1, x2], st, sn, lf => (mE_run N nr n 0 [x1] st sn lf).bind fun (st_11, sn_11, lf_11) => (if x2 < 0 then some ((-1 : Int32), st_11, sn_11, lf_11) else (if sn_11 ≤ x2 then some ((-1 : Int32), st_11, sn_11, lf_11) else kg x2 N (some ((st_11 x2.toNatClampNeg), st_11, sn_11, lf_11))))
  | _, _, _, _, _, _ => none
theorem mE_stepOf_z (N : Nat) (nr : Nat → Int32) (b : Nat) (l : List Int32) (st : Nat → Int32) (sn : Int32) (lf : Int32) : mE_stepOf N nr 0 b l st sn lf = none := by first | rfl | (cases b <;> rfl) | simp [mE_stepOf]
theorem mE_stepOf_e0 (N : Nat) (nr : Nat → Int32) (n : Nat) (x1 x2 : Int32) (st : Nat → Int32) (sn : Int32) (lf : Int32) : mE_stepOf N nr (n + 1) 0 [x1, x2] st sn lf = (mE_run N nr n 0 [x1] st sn lf).bind fun (st_11, sn_11, lf_11) => (if x2 < 0 then some ((-1 : Int32), st_11, sn_11, lf_11) else (if sn_11 ≤ x2 then some ((-1 : Int32), st_11, sn_11, lf_11) else kg x2 N (some ((st_11 x2.toNatClampNeg), st_11, sn_11, lf_11)))) := rfl
def mF_step (N : Nat) (nr : Nat → Int32) : Nat → Nat → List Int32 → (Nat → Int32) → Int32 → Int32 → Option (Int32 × (Nat → Int32) × Int32 × Int32)
  | n + 1, 0, [x1, x2], st, sn, lf => (mG_has N n 0 [x1]).bind fun r11 => (if r11 = 0 then some ((-1 : Int32), st, sn, lf) else (mF_componentOf N nr n 0 [x1]).bind fun r13 => (mE_stepOf N nr n 0 [r13, x2] st sn lf).bind fun (r14, st_14, sn_14, lf_14) => some (r14, st_14, sn_14, lf_14))
  | _, _, _, _, _, _ => none
theorem mF_step_z (N : Nat) (nr : Nat → Int32) (b : Nat) (l : List Int32) (st : Nat → Int32) (sn : Int32) (lf : Int32) : mF_step N nr 0 b l st sn lf = none := by first | rfl | (cases b <;> rfl) | simp [mF_step]
theorem mF_step_e0 (N : Nat) (nr : Nat → Int32) (n : Nat) (x1 x2 : Int32) (st : Nat → Int32) (sn : Int32) (lf : Int32) : mF_step N nr (n + 1) 0 [x1, x2] st sn lf = (mG_has N n 0 [x1]).bind fun r11 => (if r11 = 0 then some ((-1 : Int32), st, sn, lf) else (mF_componentOf N nr n 0 [x1]).bind fun r13 => (mE_stepOf N nr n 0 [r13, x2] st sn lf).bind fun (r14, st_14, sn_14, lf_14) => some (r14, st_14, sn_14, lf_14)) := rfl
def mE_obstructionIn (N : Nat) (nr : Nat → Int32) : Nat → Nat → List Int32 → (Nat → Int32) → Int32 → Int32 → Option (Int32 × (Nat → Int32) × Int32 × Int32)
  | n + 1, 0, [x1], st, sn, lf => (mE_clears N nr n 0 [x1] st sn lf).bind fun (r11, st_11, sn_11, lf_11) => (if r11 = 0 then mE_obstructionIn N nr n 1 [x1, 0] st_11 sn_11 lf_11 else some ((-1 : Int32), st_11, sn_11, lf_11))
  | n + 1, 1, [x2, x3], st, sn, lf => (mG_size N n 0 []).bind fun r111 => (if r111 ≤ x3 then some (x2, st, sn, lf) else kl (x2 &&& (((1 : Int32) <<< (x3 &&& 31)) ^^^ (-1))) fun x4_113 => (mF_contains n 0 [x2, x3]).bind fun r114 => (if r114 = 0 then mE_obstructionIn N nr n 1 [x2, (x3 + 1)] st sn lf else (mE_clears N nr n 0 [x4_113] st sn lf).bind fun (r116, st_116, sn_116, lf_116) => (if r116 = 0 then mE_obstructionIn N nr n 1 [x4_113, (x3 + 1)] st_116 sn_116 lf_116 else mE_obstructionIn N nr n 1 [x2, (x3 + 1)] st_116 sn_116 lf_116)))
  | _, _, _, _, _, _ => none
theorem mE_obstructionIn_z (N : Nat) (nr : Nat → Int32) (b : Nat) (l : List Int32) (st : Nat → Int32) (sn : Int32) (lf : Int32) : mE_obstructionIn N nr 0 b l st sn lf = none := by first | rfl | (cases b <;> rfl) | simp [mE_obstructionIn]
theorem mE_obstructionIn_e0 (N : Nat) (nr : Nat → Int32) (n : Nat) (x1 : Int32) (st : Nat → Int32) (sn : Int32) (lf : Int32) : mE_obstructionIn N nr (n + 1) 0 [x1] st sn lf = (mE_clears N nr n 0 [x1] st sn lf).bind fun (r11, st_11, sn_11, lf_11) => (if r11 = 0 then mE_obstructionIn N nr n 1 [x1, 0] st_11 sn_11 lf_11 else some ((-1 : Int32), st_11, sn_11, lf_11)) := rfl
theorem mE_obstructionIn_e1 (N : Nat) (nr : Nat → Int32) (n : Nat) (x2 x3 : Int32) (st : Nat → Int32) (sn : Int32) (lf : Int32) : mE_obstructionIn N nr (n + 1) 1 [x2, x3] st sn lf = (mG_size N n 0 []).bind fun r111 => (if r111 ≤ x3 then some (x2, st, sn, lf) else kl (x2 &&& (((1 : Int32) <<< (x3 &&& 31)) ^^^ (-1))) fun x4_113 => (mF_contains n 0 [x2, x3]).bind fun r114 => (if r114 = 0 then mE_obstructionIn N nr n 1 [x2, (x3 + 1)] st sn lf else (mE_clears N nr n 0 [x4_113] st sn lf).bind fun (r116, st_116, sn_116, lf_116) => (if r116 = 0 then mE_obstructionIn N nr n 1 [x4_113, (x3 + 1)] st_116 sn_116 lf_116 else mE_obstructionIn N nr n 1 [x2, (x3 + 1)] st_116 sn_116 lf_116))) := rfl
def mF_obstruction (N : Nat) (nr : Nat → Int32) : Nat → Nat → List Int32 → (Nat → Int32) → Int32 → Int32 → Option (Int32 × (Nat → Int32) × Int32 × Int32)
  | n + 1, 0, [x1], st, sn, lf => (mG_has N n 0 [x1]).bind fun r11 => (if r11 = 0 then some ((-1 : Int32), st, sn, lf) else (mF_componentOf N nr n 0 [x1]).bind fun r13 => (mE_obstructionIn N nr n 0 [r13] st sn lf).bind fun (r14, st_14, sn_14, lf_14) => some (r14, st_14, sn_14, lf_14))
  | _, _, _, _, _, _ => none
theorem mF_obstruction_z (N : Nat) (nr : Nat → Int32) (b : Nat) (l : List Int32) (st : Nat → Int32) (sn : Int32) (lf : Int32) : mF_obstruction N nr 0 b l st sn lf = none := by first | rfl | (cases b <;> rfl) | simp [mF_obstruction]
theorem mF_obstruction_e0 (N : Nat) (nr : Nat → Int32) (n : Nat) (x1 : Int32) (st : Nat → Int32) (sn : Int32) (lf : Int32) : mF_obstruction N nr (n + 1) 0 [x1] st sn lf = (mG_has N n 0 [x1]).bind fun r11 => (if r11 = 0 then some ((-1 : Int32), st, sn, lf) else (mF_componentOf N nr n 0 [x1]).bind fun r13 => (mE_obstructionIn N nr n 0 [r13] st sn lf).bind fun (r14, st_14, sn_14, lf_14) => some (r14, st_14, sn_14, lf_14)) := rfl
def mG_edgesInside (N : Nat) (nr : Nat → Int32) : Nat → Nat → List Int32 → Option Int32
  | n + 1, 0, [x1] => mG_edgesInside N nr n 1 [x1, 0, 0]
  | n + 1, 1, [x1, x2, x3] => (if (nI N) ≤ x3 then some (x2 / 2) else (mF_contains n 0 [x1, x3]).bind fun r112 => (if r112 = 0 then mG_edgesInside N nr n 1 [x1, x2, (x3 + 1)] else kg x3 N ((mJ_bitCount n 0 [((nr x3.toNatClampNeg) &&& x1)]).bind fun r115 => kl (x2 + r115) fun x2_116 => mG_edgesInside N nr n 1 [x1, x2_116, (x3 + 1)])))
  | _, _, _ => none
theorem mG_edgesInside_z (N : Nat) (nr : Nat → Int32) (b : Nat) (l : List Int32) : mG_edgesInside N nr 0 b l = none := by first | rfl | (cases b <;> rfl) | simp [mG_edgesInside]
theorem mG_edgesInside_e0 (N : Nat) (nr : Nat → Int32) (n : Nat) (x1 : Int32) : mG_edgesInside N nr (n + 1) 0 [x1] = mG_edgesInside N nr n 1 [x1, 0, 0] := rfl
theorem mG_edgesInside_e1 (N : Nat) (nr : Nat → Int32) (n : Nat) (x1 x2 x3 : Int32) : mG_edgesInside N nr (n + 1) 1 [x1, x2, x3] = (if (nI N) ≤ x3 then some (x2 / 2) else (mF_contains n 0 [x1, x3]).bind fun r112 => (if r112 = 0 then mG_edgesInside N nr n 1 [x1, x2, (x3 + 1)] else kg x3 N ((mJ_bitCount n 0 [((nr x3.toNatClampNeg) &&& x1)]).bind fun r115 => kl (x2 + r115) fun x2_116 => mG_edgesInside N nr n 1 [x1, x2_116, (x3 + 1)]))) := rfl
def mF_obstacleKind : Nat → Nat → List Int32 → Option Int32
  | n + 1, 0, [x0, x1] => (if x1 = x0 then some (1 : Int32) else (if x0 = 6 then some (4 : Int32) else (if x1 = 6 then some (2 : Int32) else some (3 : Int32))))
  | _, _, _ => none
theorem mF_obstacleKind_z (b : Nat) (l : List Int32) : mF_obstacleKind  0 b l = none := by first | rfl | (cases b <;> rfl) | simp [mF_obstacleKind]
theorem mF_obstacleKind_e0 (n : Nat) (x0 x1 : Int32) : mF_obstacleKind  (n + 1) 0 [x0, x1] = (if x1 = x0 then some (1 : Int32) else (if x0 = 6 then some (4 : Int32) else (if x1 = 6 then some (2 : Int32) else some (3 : Int32)))) := rfl
def mF_obstacle (N : Nat) (nr : Nat → Int32) : Nat → Nat → List Int32 → (Nat → Int32) → Int32 → Int32 → Option (Int32 × (Nat → Int32) × Int32 × Int32)
  | n + 1, 0, [x1], st, sn, lf => (mG_has N n 0 [x1]).bind fun r11 => (if r11 = 0 then mF_obstacle N nr n 1 [(-1)] st sn lf else (mF_componentOf N nr n 0 [x1]).bind fun r13 => (mE_obstructionIn N nr n 0 [r13] st sn lf).bind fun (r14, st_14, sn_14, lf_14) => mF_obstacle N nr n 1 [r14] st_14 sn_14 lf_14)
  | n + 1, 1, [y0], st, sn, lf => (if y0 = (-1) then some ((-1 : Int32), st, sn, lf) else (mJ_bitCount n 0 [y0]).bind fun r112 => (mG_edgesInside N nr n 0 [y0]).bind fun r113 => (mF_obstacleKind n 0 [r112, r113]).bind fun r114 => some (r114, st, sn, lf))
  | _, _, _, _, _, _ => none
theorem mF_obstacle_z (N : Nat) (nr : Nat → Int32) (b : Nat) (l : List Int32) (st : Nat → Int32) (sn : Int32) (lf : Int32) : mF_obstacle N nr 0 b l st sn lf = none := by first | rfl | (cases b <;> rfl) | simp [mF_obstacle]
theorem mF_obstacle_e0 (N : Nat) (nr : Nat → Int32) (n : Nat) (x1 : Int32) (st : Nat → Int32) (sn : Int32) (lf : Int32) : mF_obstacle N nr (n + 1) 0 [x1] st sn lf = (mG_has N n 0 [x1]).bind fun r11 => (if r11 = 0 then mF_obstacle N nr n 1 [(-1)] st sn lf else (mF_componentOf N nr n 0 [x1]).bind fun r13 => (mE_obstructionIn N nr n 0 [r13] st sn lf).bind fun (r14, st_14, sn_14, lf_14) => mF_obstacle N nr n 1 [r14] st_14 sn_14 lf_14) := rfl
theorem mF_obstacle_e1 (N : Nat) (nr : Nat → Int32) (n : Nat) (y0 : Int32) (st : Nat → Int32) (sn : Int32) (lf : Int32) : mF_obstacle N nr (n + 1) 1 [y0] st sn lf = (if y0 = (-1) then some ((-1 : Int32), st, sn, lf) else (mJ_bitCount n 0 [y0]).bind fun r112 => (mG_edgesInside N nr n 0 [y0]).bind fun r113 => (mF_obstacleKind n 0 [r112, r113]).bind fun r114 => some (r114, st, sn, lf)) := rfl
def mC_largestApart (N : Nat) (nr : Nat → Int32) : Nat → Nat → List Int32 → Option Int32
  | n + 1, 0, [x1] => mC_largestApart N nr n 1 [x1, 0, 1]
  | n + 1, 1, [x1, x2, x3] => (if x1 < x3 then some x2 else (if (x3 &&& (x1 ^^^ (-1))) = 0 then (mJ_bitCount n 0 [x3]).bind fun r113 => (mJ_bitCount n 0 [x2]).bind fun r114 => (if r113 ≤ r114 then mC_largestApart N nr n 1 [x1, x2, (x3 + 1)] else (mG_joined N nr n 0 [x3, x3]).bind fun r116 => (if r116 = 0 then mC_largestApart N nr n 1 [x1, x3, (x3 + 1)] else mC_largestApart N nr n 1 [x1, x2, (x3 + 1)])) else mC_largestApart N nr n 1 [x1, x2, (x3 + 1)]))
  | _, _, _ => none
theorem mC_largestApart_z (N : Nat) (nr : Nat → Int32) (b : Nat) (l : List Int32) : mC_largestApart N nr 0 b l = none := by first | rfl | (cases b <;> rfl) | simp [mC_largestApart]
theorem mC_largestApart_e0 (N : Nat) (nr : Nat → Int32) (n : Nat) (x1 : Int32) : mC_largestApart N nr (n + 1) 0 [x1] = mC_largestApart N nr n 1 [x1, 0, 1] := rfl
theorem mC_largestApart_e1 (N : Nat) (nr : Nat → Int32) (n : Nat) (x1 x2 x3 : Int32) : mC_largestApart N nr (n + 1) 1 [x1, x2, x3] = (if x1 < x3 then some x2 else (if (x3 &&& (x1 ^^^ (-1))) = 0 then (mJ_bitCount n 0 [x3]).bind fun r113 => (mJ_bitCount n 0 [x2]).bind fun r114 => (if r113 ≤ r114 then mC_largestApart N nr n 1 [x1, x2, (x3 + 1)] else (mG_joined N nr n 0 [x3, x3]).bind fun r116 => (if r116 = 0 then mC_largestApart N nr n 1 [x1, x3, (x3 + 1)] else mC_largestApart N nr n 1 [x1, x2, (x3 + 1)])) else mC_largestApart N nr n 1 [x1, x2, (x3 + 1)])) := rfl
def mF_apart (N : Nat) (nr : Nat → Int32) : Nat → Nat → List Int32 → (Nat → Int32) → Int32 → Int32 → Option (Int32 × (Nat → Int32) × Int32 × Int32)
  | n + 1, 0, [x1], st, sn, lf => (mF_hereditary N nr n 0 [x1] st sn lf).bind fun (r11, st_11, sn_11, lf_11) => (if r11 = 0 then some ((-1 : Int32), st_11, sn_11, lf_11) else (mF_componentOf N nr n 0 [x1]).bind fun r13 => (mC_largestApart N nr n 0 [r13]).bind fun r14 => (mJ_bitCount n 0 [r14]).bind fun r15 => some (r15, st_11, sn_11, lf_11))
  | _, _, _, _, _, _ => none
theorem mF_apart_z (N : Nat) (nr : Nat → Int32) (b : Nat) (l : List Int32) (st : Nat → Int32) (sn : Int32) (lf : Int32) : mF_apart N nr 0 b l st sn lf = none := by first | rfl | (cases b <;> rfl) | simp [mF_apart]
theorem mF_apart_e0 (N : Nat) (nr : Nat → Int32) (n : Nat) (x1 : Int32) (st : Nat → Int32) (sn : Int32) (lf : Int32) : mF_apart N nr (n + 1) 0 [x1] st sn lf = (mF_hereditary N nr n 0 [x1] st sn lf).bind fun (r11, st_11, sn_11, lf_11) => (if r11 = 0 then some ((-1 : Int32), st_11, sn_11, lf_11) else (mF_componentOf N nr n 0 [x1]).bind fun r13 => (mC_largestApart N nr n 0 [r13]).bind fun r14 => (mJ_bitCount n 0 [r14]).bind fun r15 => some (r15, st_11, sn_11, lf_11)) := rfl
def mF_chosen (N : Nat) (nr : Nat → Int32) : Nat → Nat → List Int32 → (Nat → Int32) → Int32 → Int32 → Option (Int32 × (Nat → Int32) × Int32 × Int32)
  | n + 1, 0, [x1], st, sn, lf => (mF_hereditary N nr n 0 [x1] st sn lf).bind fun (r11, st_11, sn_11, lf_11) => (if r11 = 0 then some ((-1 : Int32), st_11, sn_11, lf_11) else (mF_componentOf N nr n 0 [x1]).bind fun r13 => (mC_largestApart N nr n 0 [r13]).bind fun r14 => some (r14, st_11, sn_11, lf_11))
  | _, _, _, _, _, _ => none
theorem mF_chosen_z (N : Nat) (nr : Nat → Int32) (b : Nat) (l : List Int32) (st : Nat → Int32) (sn : Int32) (lf : Int32) : mF_chosen N nr 0 b l st sn lf = none := by first | rfl | (cases b <;> rfl) | simp [mF_chosen]
theorem mF_chosen_e0 (N : Nat) (nr : Nat → Int32) (n : Nat) (x1 : Int32) (st : Nat → Int32) (sn : Int32) (lf : Int32) : mF_chosen N nr (n + 1) 0 [x1] st sn lf = (mF_hereditary N nr n 0 [x1] st sn lf).bind fun (r11, st_11, sn_11, lf_11) => (if r11 = 0 then some ((-1 : Int32), st_11, sn_11, lf_11) else (mF_componentOf N nr n 0 [x1]).bind fun r13 => (mC_largestApart N nr n 0 [r13]).bind fun r14 => some (r14, st_11, sn_11, lf_11)) := rfl
def mC_fewestWith (N : Nat) (nr : Nat → Int32) (fw : Nat → Int32) : Nat → Nat → List Int32 → Option Int32
  | n + 1, 0, [x1, x2] => (mG_nearInside N nr n 0 [x1, x2]).bind fun r11 => kg x2 (2 ^ N) (kl (1 + (fw x2.toNatClampNeg)) fun x4_13 => mC_fewestWith N nr fw n 1 [x2, r11, x4_13, r11])
  | n + 1, 1, [x2, x3, x4, x5] => (if x5 ≤ 0 then some x4 else kg x5 (2 ^ N) ((if (fw x5.toNatClampNeg) = 1 then kg (x2 &&& (x5 ^^^ (-1))) (2 ^ N) (kl (if (1 + (fw (x2 &&& (x5 ^^^ (-1))).toNatClampNeg)) < x4 then (1 + (fw (x2 &&& (x5 ^^^ (-1))).toNatClampNeg)) else x4) fun x4_115 => mC_fewestWith N nr fw n 2 [x2, x3, x4_115, x5]) else mC_fewestWith N nr fw n 2 [x2, x3, x4, x5])))
  | n + 1, 2, [x2, x3, x4, x5] => kl ((x5 - 1) &&& x3) fun x5_211 => mC_fewestWith N nr fw n 1 [x2, x3, x4, x5_211]
  | _, _, _ => none
theorem mC_fewestWith_z (N : Nat) (nr : Nat → Int32) (fw : Nat → Int32) (b : Nat) (l : List Int32) : mC_fewestWith N nr fw 0 b l = none := by first | rfl | (cases b <;> rfl) | simp [mC_fewestWith]
theorem mC_fewestWith_e0 (N : Nat) (nr : Nat → Int32) (fw : Nat → Int32) (n : Nat) (x1 x2 : Int32) : mC_fewestWith N nr fw (n + 1) 0 [x1, x2] = (mG_nearInside N nr n 0 [x1, x2]).bind fun r11 => kg x2 (2 ^ N) (kl (1 + (fw x2.toNatClampNeg)) fun x4_13 => mC_fewestWith N nr fw n 1 [x2, r11, x4_13, r11]) := rfl
theorem mC_fewestWith_e1 (N : Nat) (nr : Nat → Int32) (fw : Nat → Int32) (n : Nat) (x2 x3 x4 x5 : Int32) : mC_fewestWith N nr fw (n + 1) 1 [x2, x3, x4, x5] = (if x5 ≤ 0 then some x4 else kg x5 (2 ^ N) ((if (fw x5.toNatClampNeg) = 1 then kg (x2 &&& (x5 ^^^ (-1))) (2 ^ N) (kl (if (1 + (fw (x2 &&& (x5 ^^^ (-1))).toNatClampNeg)) < x4 then (1 + (fw (x2 &&& (x5 ^^^ (-1))).toNatClampNeg)) else x4) fun x4_115 => mC_fewestWith N nr fw n 2 [x2, x3, x4_115, x5]) else mC_fewestWith N nr fw n 2 [x2, x3, x4, x5]))) := rfl
theorem mC_fewestWith_e2 (N : Nat) (nr : Nat → Int32) (fw : Nat → Int32) (n : Nat) (x2 x3 x4 x5 : Int32) : mC_fewestWith N nr fw (n + 1) 2 [x2, x3, x4, x5] = kl ((x5 - 1) &&& x3) fun x5_211 => mC_fewestWith N nr fw n 1 [x2, x3, x4, x5_211] := rfl
def mC_coverWith (N : Nat) (nr : Nat → Int32) : Nat → Nat → List Int32 → (Nat → Int32) → Option (Nat → Int32)
  | n + 1, 0, [x1, x2], fw => mC_coverWith N nr n 1 [x1, x2, 0] fw
  | n + 1, 1, [x1, x2, x3], fw => (if x2 < x3 then some fw else (if (x3 &&& (x2 ^^^ (-1))) = 0 then (mC_fewestWith N nr fw n 0 [x1, x3]).bind fun r113 => kg (x3 ||| ((1 : Int32) <<< (x1 &&& 31))) (2 ^ N) (mC_coverWith N nr n 1 [x1, x2, (x3 + 1)] (upd fw (x3 ||| ((1 : Int32) <<< (x1 &&& 31))).toNatClampNeg r113)) else mC_coverWith N nr n 1 [x1, x2, (x3 + 1)] fw))
  | _, _, _, _ => none
theorem mC_coverWith_z (N : Nat) (nr : Nat → Int32) (b : Nat) (l : List Int32) (fw : Nat → Int32) : mC_coverWith N nr 0 b l fw = none := by first | rfl | (cases b <;> rfl) | simp [mC_coverWith]
theorem mC_coverWith_e0 (N : Nat) (nr : Nat → Int32) (n : Nat) (x1 x2 : Int32) (fw : Nat → Int32) : mC_coverWith N nr (n + 1) 0 [x1, x2] fw = mC_coverWith N nr n 1 [x1, x2, 0] fw := rfl
theorem mC_coverWith_e1 (N : Nat) (nr : Nat → Int32) (n : Nat) (x1 x2 x3 : Int32) (fw : Nat → Int32) : mC_coverWith N nr (n + 1) 1 [x1, x2, x3] fw = (if x2 < x3 then some fw else (if (x3 &&& (x2 ^^^ (-1))) = 0 then (mC_fewestWith N nr fw n 0 [x1, x3]).bind fun r113 => kg (x3 ||| ((1 : Int32) <<< (x1 &&& 31))) (2 ^ N) (mC_coverWith N nr n 1 [x1, x2, (x3 + 1)] (upd fw (x3 ||| ((1 : Int32) <<< (x1 &&& 31))).toNatClampNeg r113)) else mC_coverWith N nr n 1 [x1, x2, (x3 + 1)] fw)) := rfl
def mC_fewestCliques (N : Nat) (nr : Nat → Int32) : Nat → Nat → List Int32 → (Nat → Int32) → Option (Int32 × (Nat → Int32))
  | n + 1, 0, [x1], fw => mC_fewestCliques N nr n 1 [x1, 0, 0] fw
  | n + 1, 1, [x1, x2, x3], fw => (mG_size N n 0 []).bind fun r111 => (if r111 ≤ x3 then kg x1 (2 ^ N) (some ((fw x1.toNatClampNeg), fw)) else (mF_contains n 0 [x1, x3]).bind fun r114 => (if r114 = 0 then mC_fewestCliques N nr n 1 [x1, x2, (x3 + 1)] fw else (mC_coverWith N nr n 0 [x3, x2] fw).bind fun fw_116 => kl (x2 ||| ((1 : Int32) <<< (x3 &&& 31))) fun x2_117 => mC_fewestCliques N nr n 1 [x1, x2_117, (x3 + 1)] fw_116))
  | _, _, _, _ => none
theorem mC_fewestCliques_z (N : Nat) (nr : Nat → Int32) (b : Nat) (l : List Int32) (fw : Nat → Int32) : mC_fewestCliques N nr 0 b l fw = none := by first | rfl | (cases b <;> rfl) | simp [mC_fewestCliques]
theorem mC_fewestCliques_e0 (N : Nat) (nr : Nat → Int32) (n : Nat) (x1 : Int32) (fw : Nat → Int32) : mC_fewestCliques N nr (n + 1) 0 [x1] fw = mC_fewestCliques N nr n 1 [x1, 0, 0] fw := rfl
theorem mC_fewestCliques_e1 (N : Nat) (nr : Nat → Int32) (n : Nat) (x1 x2 x3 : Int32) (fw : Nat → Int32) : mC_fewestCliques N nr (n + 1) 1 [x1, x2, x3] fw = (mG_size N n 0 []).bind fun r111 => (if r111 ≤ x3 then kg x1 (2 ^ N) (some ((fw x1.toNatClampNeg), fw)) else (mF_contains n 0 [x1, x3]).bind fun r114 => (if r114 = 0 then mC_fewestCliques N nr n 1 [x1, x2, (x3 + 1)] fw else (mC_coverWith N nr n 0 [x3, x2] fw).bind fun fw_116 => kl (x2 ||| ((1 : Int32) <<< (x3 &&& 31))) fun x2_117 => mC_fewestCliques N nr n 1 [x1, x2_117, (x3 + 1)] fw_116)) := rfl
def mF_cover (N : Nat) (nr : Nat → Int32) : Nat → Nat → List Int32 → (Nat → Int32) → Int32 → Int32 → (Nat → Int32) → Option (Int32 × (Nat → Int32) × Int32 × Int32 × (Nat → Int32))
  | n + 1, 0, [x1], st, sn, lf, fw => (mF_hereditary N nr n 0 [x1] st sn lf).bind fun (r11, st_11, sn_11, lf_11) => (if r11 = 0 then some ((-1 : Int32), st_11, sn_11, lf_11, fw) else (mF_componentOf N nr n 0 [x1]).bind fun r13 => (mC_fewestCliques N nr n 0 [r13] fw).bind fun (r14, fw_14) => some (r14, st_11, sn_11, lf_11, fw_14))
  | _, _, _, _, _, _, _ => none
theorem mF_cover_z (N : Nat) (nr : Nat → Int32) (b : Nat) (l : List Int32) (st : Nat → Int32) (sn : Int32) (lf : Int32) (fw : Nat → Int32) : mF_cover N nr 0 b l st sn lf fw = none := by first | rfl | (cases b <;> rfl) | simp [mF_cover]
theorem mF_cover_e0 (N : Nat) (nr : Nat → Int32) (n : Nat) (x1 : Int32) (st : Nat → Int32) (sn : Int32) (lf : Int32) (fw : Nat → Int32) : mF_cover N nr (n + 1) 0 [x1] st sn lf fw = (mF_hereditary N nr n 0 [x1] st sn lf).bind fun (r11, st_11, sn_11, lf_11) => (if r11 = 0 then some ((-1 : Int32), st_11, sn_11, lf_11, fw) else (mF_componentOf N nr n 0 [x1]).bind fun r13 => (mC_fewestCliques N nr n 0 [r13] fw).bind fun (r14, fw_14) => some (r14, st_11, sn_11, lf_11, fw_14)) := rfl
def mM_vertices (N : Nat) : Nat → Nat → List Int32 → Option Int32
  | n + 1, 0, [] => some (nI N)
  | _, _, _ => none
theorem mM_vertices_z (N : Nat) (b : Nat) (l : List Int32) : mM_vertices N 0 b l = none := by first | rfl | (cases b <;> rfl) | simp [mM_vertices]
theorem mM_vertices_e0 (N : Nat) (n : Nat) : mM_vertices N (n + 1) 0 [] = some (nI N) := rfl
def mM_is (N : Nat) : Nat → Nat → List Int32 → Option Int32
  | n + 1, 0, [x1] => (if x1 < 0 then some (0 : Int32) else (if (nI N) ≤ x1 then some (0 : Int32) else some (1 : Int32)))
  | _, _, _ => none
theorem mM_is_z (N : Nat) (b : Nat) (l : List Int32) : mM_is N 0 b l = none := by first | rfl | (cases b <;> rfl) | simp [mM_is]
theorem mM_is_e0 (N : Nat) (n : Nat) (x1 : Int32) : mM_is N (n + 1) 0 [x1] = (if x1 < 0 then some (0 : Int32) else (if (nI N) ≤ x1 then some (0 : Int32) else some (1 : Int32))) := rfl
def mM_size : Nat → Nat → List Int32 → Option Int32
  | n + 1, 0, [x0] => mM_size n 1 [x0, 0, 0]
  | n + 1, 1, [x0, x1, x2] => (if 9 ≤ x2 then some x1 else kl (x1 + ((x0 >>> (x2 &&& 31)) &&& 1)) fun x1_112 => mM_size n 1 [x0, x1_112, (x2 + 1)])
  | _, _, _ => none
theorem mM_size_z (b : Nat) (l : List Int32) : mM_size  0 b l = none := by first | rfl | (cases b <;> rfl) | simp [mM_size]
theorem mM_size_e0 (n : Nat) (x0 : Int32) : mM_size  (n + 1) 0 [x0] = mM_size n 1 [x0, 0, 0] := rfl
theorem mM_size_e1 (n : Nat) (x0 x1 x2 : Int32) : mM_size  (n + 1) 1 [x0, x1, x2] = (if 9 ≤ x2 then some x1 else kl (x1 + ((x0 >>> (x2 &&& 31)) &&& 1)) fun x1_112 => mM_size n 1 [x0, x1_112, (x2 + 1)]) := rfl
def mM_least : Nat → Nat → List Int32 → Option Int32
  | n + 1, 0, [x0] => mM_least n 1 [x0, 0]
  | n + 1, 1, [x0, x1] => (if 9 ≤ x1 then some x1 else (if ((x0 >>> (x1 &&& 31)) &&& 1) = 0 then mM_least n 1 [x0, (x1 + 1)] else some x1))
  | _, _, _ => none
theorem mM_least_z (b : Nat) (l : List Int32) : mM_least  0 b l = none := by first | rfl | (cases b <;> rfl) | simp [mM_least]
theorem mM_least_e0 (n : Nat) (x0 : Int32) : mM_least  (n + 1) 0 [x0] = mM_least n 1 [x0, 0] := rfl
theorem mM_least_e1 (n : Nat) (x0 x1 : Int32) : mM_least  (n + 1) 1 [x0, x1] = (if 9 ≤ x1 then some x1 else (if ((x0 >>> (x1 &&& 31)) &&& 1) = 0 then mM_least n 1 [x0, (x1 + 1)] else some x1)) := rfl
def mM_flip (N : Nat) : Nat → Nat → List Int32 → (Nat → Int32) → Option (Int32 × (Nat → Int32))
  | n + 1, 0, [x1, x2], mr => (mM_is N n 0 [x1]).bind fun r11 => (if r11 = 0 then some ((0 : Int32), mr) else (mM_is N n 0 [x2]).bind fun r13 => (if r13 = 0 then some ((0 : Int32), mr) else (if x1 = x2 then some ((0 : Int32), mr) else kg x1 9 (kg x1 9 (kg x2 9 (kg x2 9 (kg x1 9 ((if ((((upd (upd mr x1.toNatClampNeg ((mr x1.toNatClampNeg) ^^^ ((1 : Int32) <<< (x2 &&& 31)))) x2.toNatClampNeg (((upd mr x1.toNatClampNeg ((mr x1.toNatClampNeg) ^^^ ((1 : Int32) <<< (x2 &&& 31)))) x2.toNatClampNeg) ^^^ ((1 : Int32) <<< (x1 &&& 31)))) x1.toNatClampNeg) >>> (x2 &&& 31)) &&& 1) = 1 then some ((1 : Int32), (upd (upd mr x1.toNatClampNeg ((mr x1.toNatClampNeg) ^^^ ((1 : Int32) <<< (x2 &&& 31)))) x2.toNatClampNeg (((upd mr x1.toNatClampNeg ((mr x1.toNatClampNeg) ^^^ ((1 : Int32) <<< (x2 &&& 31)))) x2.toNatClampNeg) ^^^ ((1 : Int32) <<< (x1 &&& 31))))) else some ((0 : Int32), (upd (upd mr x1.toNatClampNeg ((mr x1.toNatClampNeg) ^^^ ((1 : Int32) <<< (x2 &&& 31)))) x2.toNatClampNeg (((upd mr x1.toNatClampNeg ((mr x1.toNatClampNeg) ^^^ ((1 : Int32) <<< (x2 &&& 31)))) x2.toNatClampNeg) ^^^ ((1 : Int32) <<< (x1 &&& 31))))))))))))))
  | _, _, _, _ => none
theorem mM_flip_z (N : Nat) (b : Nat) (l : List Int32) (mr : Nat → Int32) : mM_flip N 0 b l mr = none := by first | rfl | (cases b <;> rfl) | simp [mM_flip]
theorem mM_flip_e0 (N : Nat) (n : Nat) (x1 x2 : Int32) (mr : Nat → Int32) : mM_flip N (n + 1) 0 [x1, x2] mr = (mM_is N n 0 [x1]).bind fun r11 => (if r11 = 0 then some ((0 : Int32), mr) else (mM_is N n 0 [x2]).bind fun r13 => (if r13 = 0 then some ((0 : Int32), mr) else (if x1 = x2 then some ((0 : Int32), mr) else kg x1 9 (kg x1 9 (kg x2 9 (kg x2 9 (kg x1 9 ((if ((((upd (upd mr x1.toNatClampNeg ((mr x1.toNatClampNeg) ^^^ ((1 : Int32) <<< (x2 &&& 31)))) x2.toNatClampNeg (((upd mr x1.toNatClampNeg ((mr x1.toNatClampNeg) ^^^ ((1 : Int32) <<< (x2 &&& 31)))) x2.toNatClampNeg) ^^^ ((1 : Int32) <<< (x1 &&& 31)))) x1.toNatClampNeg) >>> (x2 &&& 31)) &&& 1) = 1 then some ((1 : Int32), (upd (upd mr x1.toNatClampNeg ((mr x1.toNatClampNeg) ^^^ ((1 : Int32) <<< (x2 &&& 31)))) x2.toNatClampNeg (((upd mr x1.toNatClampNeg ((mr x1.toNatClampNeg) ^^^ ((1 : Int32) <<< (x2 &&& 31)))) x2.toNatClampNeg) ^^^ ((1 : Int32) <<< (x1 &&& 31))))) else some ((0 : Int32), (upd (upd mr x1.toNatClampNeg ((mr x1.toNatClampNeg) ^^^ ((1 : Int32) <<< (x2 &&& 31)))) x2.toNatClampNeg (((upd mr x1.toNatClampNeg ((mr x1.toNatClampNeg) ^^^ ((1 : Int32) <<< (x2 &&& 31)))) x2.toNatClampNeg) ^^^ ((1 : Int32) <<< (x1 &&& 31)))))))))))))) := rfl
def mM_neighbours (N : Nat) (mr : Nat → Int32) : Nat → Nat → List Int32 → Option Int32
  | n + 1, 0, [x1, x2] => (mM_is N n 0 [x1]).bind fun r11 => (if r11 = 0 then some (0 : Int32) else (mM_is N n 0 [x2]).bind fun r13 => (if r13 = 0 then some (0 : Int32) else kg x1 9 ((if (((mr x1.toNatClampNeg) >>> (x2 &&& 31)) &&& 1) = 1 then some (1 : Int32) else some (0 : Int32)))))
  | _, _, _ => none
theorem mM_neighbours_z (N : Nat) (mr : Nat → Int32) (b : Nat) (l : List Int32) : mM_neighbours N mr 0 b l = none := by first | rfl | (cases b <;> rfl) | simp [mM_neighbours]
theorem mM_neighbours_e0 (N : Nat) (mr : Nat → Int32) (n : Nat) (x1 x2 : Int32) : mM_neighbours N mr (n + 1) 0 [x1, x2] = (mM_is N n 0 [x1]).bind fun r11 => (if r11 = 0 then some (0 : Int32) else (mM_is N n 0 [x2]).bind fun r13 => (if r13 = 0 then some (0 : Int32) else kg x1 9 ((if (((mr x1.toNatClampNeg) >>> (x2 &&& 31)) &&& 1) = 1 then some (1 : Int32) else some (0 : Int32))))) := rfl
def mM_within (N : Nat) (mr : Nat → Int32) : Nat → Nat → List Int32 → Option Int32
  | n + 1, 0, [x1, x2] => kl ((1 : Int32) <<< (x1 &&& 31)) fun x3_11 => mM_within N mr n 1 [x2, x3_11, 0]
  | n + 1, 1, [x2, x3, x4] => (if 9 ≤ x4 then some x3 else mM_within N mr n 2 [x2, x3, x4, 0])
  | n + 1, 2, [x2, x3, x4, x5] => (if (nI N) ≤ x5 then mM_within N mr n 1 [x2, x3, (x4 + 1)] else (if ((x3 >>> (x5 &&& 31)) &&& 1) = 1 then kg x5 9 (kl (x3 ||| ((mr x5.toNatClampNeg) &&& x2)) fun x3_214 => mM_within N mr n 2 [x2, x3_214, x4, (x5 + 1)]) else mM_within N mr n 2 [x2, x3, x4, (x5 + 1)]))
  | _, _, _ => none
theorem mM_within_z (N : Nat) (mr : Nat → Int32) (b : Nat) (l : List Int32) : mM_within N mr 0 b l = none := by first | rfl | (cases b <;> rfl) | simp [mM_within]
theorem mM_within_e0 (N : Nat) (mr : Nat → Int32) (n : Nat) (x1 x2 : Int32) : mM_within N mr (n + 1) 0 [x1, x2] = kl ((1 : Int32) <<< (x1 &&& 31)) fun x3_11 => mM_within N mr n 1 [x2, x3_11, 0] := rfl
theorem mM_within_e1 (N : Nat) (mr : Nat → Int32) (n : Nat) (x2 x3 x4 : Int32) : mM_within N mr (n + 1) 1 [x2, x3, x4] = (if 9 ≤ x4 then some x3 else mM_within N mr n 2 [x2, x3, x4, 0]) := rfl
theorem mM_within_e2 (N : Nat) (mr : Nat → Int32) (n : Nat) (x2 x3 x4 x5 : Int32) : mM_within N mr (n + 1) 2 [x2, x3, x4, x5] = (if (nI N) ≤ x5 then mM_within N mr n 1 [x2, x3, (x4 + 1)] else (if ((x3 >>> (x5 &&& 31)) &&& 1) = 1 then kg x5 9 (kl (x3 ||| ((mr x5.toNatClampNeg) &&& x2)) fun x3_214 => mM_within N mr n 2 [x2, x3_214, x4, (x5 + 1)]) else mM_within N mr n 2 [x2, x3, x4, (x5 + 1)])) := rfl
def mM_component (N : Nat) (mr : Nat → Int32) : Nat → Nat → List Int32 → Option Int32
  | n + 1, 0, [x1] => (mM_is N n 0 [x1]).bind fun r11 => (if r11 = 0 then some (0 : Int32) else (mM_within N mr n 0 [x1, (((1 : Int32) <<< ((nI N) &&& 31)) - 1)]).bind fun r13 => some r13)
  | _, _, _ => none
theorem mM_component_z (N : Nat) (mr : Nat → Int32) (b : Nat) (l : List Int32) : mM_component N mr 0 b l = none := by first | rfl | (cases b <;> rfl) | simp [mM_component]
theorem mM_component_e0 (N : Nat) (mr : Nat → Int32) (n : Nat) (x1 : Int32) : mM_component N mr (n + 1) 0 [x1] = (mM_is N n 0 [x1]).bind fun r11 => (if r11 = 0 then some (0 : Int32) else (mM_within N mr n 0 [x1, (((1 : Int32) <<< ((nI N) &&& 31)) - 1)]).bind fun r13 => some r13) := rfl
def mM_complete (N : Nat) (mr : Nat → Int32) : Nat → Nat → List Int32 → Option Int32
  | n + 1, 0, [x1, x2] => mM_complete N mr n 1 [x1, x2, 0, 1, 0]
  | n + 1, 1, [x1, x2, x3, x4, x5] => (if (nI N) ≤ x5 then kz x4 (some x4) else (if ((x1 >>> (x5 &&& 31)) &&& 1) = 1 then kg x5 9 (mM_complete N mr n 2 [x1, x2, x3, x4, x5, ((mr x5.toNatClampNeg) &&& x2)]) else mM_complete N mr n 2 [x1, x2, x3, x4, x5, 0]))
  | n + 1, 2, [x1, x2, x3, x4, x5, y0] => (if x4 = 0 then mM_complete N mr n 4 [x1, x2, x3, x5, y0] else (if y0 = 0 then mM_complete N mr n 3 [x1, x2, x3, x5, y0] else (if x3 = 0 then mM_complete N mr n 3 [x1, x2, x3, x5, y0] else (if y0 = x3 then mM_complete N mr n 3 [x1, x2, x3, x5, y0] else mM_complete N mr n 4 [x1, x2, x3, x5, y0]))))
  | n + 1, 3, [x1, x2, x3, x5, x6] => mM_complete N mr n 5 [x1, x2, x3, x5, x6, 1]
  | n + 1, 4, [x1, x2, x3, x5, x6] => mM_complete N mr n 5 [x1, x2, x3, x5, x6, 0]
  | n + 1, 5, [x1, x2, x3, x5, x6, y0] => (if x6 = 0 then mM_complete N mr n 1 [x1, x2, x3, y0, (x5 + 1)] else mM_complete N mr n 1 [x1, x2, x6, y0, (x5 + 1)])
  | _, _, _ => none
theorem mM_complete_z (N : Nat) (mr : Nat → Int32) (b : Nat) (l : List Int32) : mM_complete N mr 0 b l = none := by first | rfl | (cases b <;> rfl) | simp [mM_complete]
theorem mM_complete_e0 (N : Nat) (mr : Nat → Int32) (n : Nat) (x1 x2 : Int32) : mM_complete N mr (n + 1) 0 [x1, x2] = mM_complete N mr n 1 [x1, x2, 0, 1, 0] := rfl
theorem mM_complete_e1 (N : Nat) (mr : Nat → Int32) (n : Nat) (x1 x2 x3 x4 x5 : Int32) : mM_complete N mr (n + 1) 1 [x1, x2, x3, x4, x5] = (if (nI N) ≤ x5 then kz x4 (some x4) else (if ((x1 >>> (x5 &&& 31)) &&& 1) = 1 then kg x5 9 (mM_complete N mr n 2 [x1, x2, x3, x4, x5, ((mr x5.toNatClampNeg) &&& x2)]) else mM_complete N mr n 2 [x1, x2, x3, x4, x5, 0])) := rfl
theorem mM_complete_e2 (N : Nat) (mr : Nat → Int32) (n : Nat) (x1 x2 x3 x4 x5 y0 : Int32) : mM_complete N mr (n + 1) 2 [x1, x2, x3, x4, x5, y0] = (if x4 = 0 then mM_complete N mr n 4 [x1, x2, x3, x5, y0] else (if y0 = 0 then mM_complete N mr n 3 [x1, x2, x3, x5, y0] else (if x3 = 0 then mM_complete N mr n 3 [x1, x2, x3, x5, y0] else (if y0 = x3 then mM_complete N mr n 3 [x1, x2, x3, x5, y0] else mM_complete N mr n 4 [x1, x2, x3, x5, y0])))) := rfl
theorem mM_complete_e3 (N : Nat) (mr : Nat → Int32) (n : Nat) (x1 x2 x3 x5 x6 : Int32) : mM_complete N mr (n + 1) 3 [x1, x2, x3, x5, x6] = mM_complete N mr n 5 [x1, x2, x3, x5, x6, 1] := rfl
theorem mM_complete_e4 (N : Nat) (mr : Nat → Int32) (n : Nat) (x1 x2 x3 x5 x6 : Int32) : mM_complete N mr (n + 1) 4 [x1, x2, x3, x5, x6] = mM_complete N mr n 5 [x1, x2, x3, x5, x6, 0] := rfl
theorem mM_complete_e5 (N : Nat) (mr : Nat → Int32) (n : Nat) (x1 x2 x3 x5 x6 y0 : Int32) : mM_complete N mr (n + 1) 5 [x1, x2, x3, x5, x6, y0] = (if x6 = 0 then mM_complete N mr n 1 [x1, x2, x3, y0, (x5 + 1)] else mM_complete N mr n 1 [x1, x2, x6, y0, (x5 + 1)]) := rfl
def mM_cross : Nat → Nat → List Int32 → Option Int32
  | n + 1, 0, [x0, x1] => (if (x0 &&& x1) = 0 then some (0 : Int32) else (if (x0 &&& (x1 ^^^ (-1))) = 0 then some (0 : Int32) else (if (x1 &&& (x0 ^^^ (-1))) = 0 then some (0 : Int32) else some (1 : Int32))))
  | _, _, _ => none
theorem mM_cross_z (b : Nat) (l : List Int32) : mM_cross  0 b l = none := by first | rfl | (cases b <;> rfl) | simp [mM_cross]
theorem mM_cross_e0 (n : Nat) (x0 x1 : Int32) : mM_cross  (n + 1) 0 [x0, x1] = (if (x0 &&& x1) = 0 then some (0 : Int32) else (if (x0 &&& (x1 ^^^ (-1))) = 0 then some (0 : Int32) else (if (x1 &&& (x0 ^^^ (-1))) = 0 then some (0 : Int32) else some (1 : Int32)))) := rfl
def mM_find (N : Nat) (mr : Nat → Int32) : Nat → Nat → List Int32 → Int32 → (Nat → Int32) → Int32 → (Nat → Int32) → Option (Int32 × (Nat → Int32) × Int32 × (Nat → Int32))
  | n + 1, 0, [x1], zn, zs, tn, ts => (mM_least n 0 [x1]).bind fun r11 => kl ((1 : Int32) <<< (r11 &&& 31)) fun x2_12 => mM_find N mr n 1 [x1, x2_12, 0] 0 zs tn ts
  | n + 1, 1, [x1, x2, x3], zn, zs, tn, ts => (if 512 ≤ x3 then mM_find N mr n 4 [0] zn zs 0 ts else (if (x3 &&& (x1 ^^^ (-1))) = 0 then (if (x3 &&& x2) = 0 then (mM_size n 0 [x3]).bind fun r114 => (if r114 < 2 then mM_find N mr n 2 [x1, x2, x3] zn zs tn ts else (mM_size n 0 [(x1 &&& (x3 ^^^ (-1)))]).bind fun r116 => (if r116 < 2 then mM_find N mr n 2 [x1, x2, x3] zn zs tn ts else mM_find N mr n 3 [x1, x2, x3, 1] zn zs tn ts)) else mM_find N mr n 2 [x1, x2, x3] zn zs tn ts) else mM_find N mr n 2 [x1, x2, x3] zn zs tn ts))
  | n + 1, 2, [x1, x2, x3], zn, zs, tn, ts => mM_find N mr n 3 [x1, x2, x3, 0] zn zs tn ts
  | n + 1, 3, [x1, x2, x3, y0], zn, zs, tn, ts => (if y0 = 0 then mM_find N mr n 1 [x1, x2, (x3 + 1)] zn zs tn ts else (mM_complete N mr n 0 [x3, (x1 &&& (x3 ^^^ (-1)))]).bind fun r312 => (if r312 = 0 then mM_find N mr n 1 [x1, x2, (x3 + 1)] zn zs tn ts else kg zn 256 (mM_find N mr n 1 [x1, x2, (x3 + 1)] (zn + 1) (upd zs zn.toNatClampNeg x3) tn ts)))
  | n + 1, 4, [x3], zn, zs, tn, ts => (if zn ≤ x3 then some (zn, zs, tn, ts) else mM_find N mr n 5 [x3, 1, 0] zn zs tn ts)
  | n + 1, 5, [x3, x4, x5], zn, zs, tn, ts => (if zn ≤ x5 then (if x4 = 0 then mM_find N mr n 4 [(x3 + 1)] zn zs tn ts else kg x3 256 (kg tn 256 (mM_find N mr n 4 [(x3 + 1)] zn zs (tn + 1) (upd ts tn.toNatClampNeg (zs x3.toNatClampNeg))))) else (if x4 = 0 then mM_find N mr n 6 [x3, x5] zn zs tn ts else kg x3 256 (kg x5 256 ((mM_cross n 0 [(zs x3.toNatClampNeg), (zs x5.toNatClampNeg)]).bind fun r518 => (if r518 = 0 then mM_find N mr n 5 [x3, 1, (x5 + 1)] zn zs tn ts else mM_find N mr n 6 [x3, x5] zn zs tn ts)))))
  | n + 1, 6, [x3, x5], zn, zs, tn, ts => mM_find N mr n 5 [x3, 0, (x5 + 1)] zn zs tn ts
  | _, _, _, _, _, _, _ => none
theorem mM_find_z (N : Nat) (mr : Nat → Int32) (b : Nat) (l : List Int32) (zn : Int32) (zs : Nat → Int32) (tn : Int32) (ts : Nat → Int32) : mM_find N mr 0 b l zn zs tn ts = none := by first | rfl | (cases b <;> rfl) | simp [mM_find]
theorem mM_find_e0 (N : Nat) (mr : Nat → Int32) (n : Nat) (x1 : Int32) (zn : Int32) (zs : Nat → Int32) (tn : Int32) (ts : Nat → Int32) : mM_find N mr (n + 1) 0 [x1] zn zs tn ts = (mM_least n 0 [x1]).bind fun r11 => kl ((1 : Int32) <<< (r11 &&& 31)) fun x2_12 => mM_find N mr n 1 [x1, x2_12, 0] 0 zs tn ts := rfl
theorem mM_find_e1 (N : Nat) (mr : Nat → Int32) (n : Nat) (x1 x2 x3 : Int32) (zn : Int32) (zs : Nat → Int32) (tn : Int32) (ts : Nat → Int32) : mM_find N mr (n + 1) 1 [x1, x2, x3] zn zs tn ts = (if 512 ≤ x3 then mM_find N mr n 4 [0] zn zs 0 ts else (if (x3 &&& (x1 ^^^ (-1))) = 0 then (if (x3 &&& x2) = 0 then (mM_size n 0 [x3]).bind fun r114 => (if r114 < 2 then mM_find N mr n 2 [x1, x2, x3] zn zs tn ts else (mM_size n 0 [(x1 &&& (x3 ^^^ (-1)))]).bind fun r116 => (if r116 < 2 then mM_find N mr n 2 [x1, x2, x3] zn zs tn ts else mM_find N mr n 3 [x1, x2, x3, 1] zn zs tn ts)) else mM_find N mr n 2 [x1, x2, x3] zn zs tn ts) else mM_find N mr n 2 [x1, x2, x3] zn zs tn ts)) := rfl
theorem mM_find_e2 (N : Nat) (mr : Nat → Int32) (n : Nat) (x1 x2 x3 : Int32) (zn : Int32) (zs : Nat → Int32) (tn : Int32) (ts : Nat → Int32) : mM_find N mr (n + 1) 2 [x1, x2, x3] zn zs tn ts = mM_find N mr n 3 [x1, x2, x3, 0] zn zs tn ts := rfl
theorem mM_find_e3 (N : Nat) (mr : Nat → Int32) (n : Nat) (x1 x2 x3 y0 : Int32) (zn : Int32) (zs : Nat → Int32) (tn : Int32) (ts : Nat → Int32) : mM_find N mr (n + 1) 3 [x1, x2, x3, y0] zn zs tn ts = (if y0 = 0 then mM_find N mr n 1 [x1, x2, (x3 + 1)] zn zs tn ts else (mM_complete N mr n 0 [x3, (x1 &&& (x3 ^^^ (-1)))]).bind fun r312 => (if r312 = 0 then mM_find N mr n 1 [x1, x2, (x3 + 1)] zn zs tn ts else kg zn 256 (mM_find N mr n 1 [x1, x2, (x3 + 1)] (zn + 1) (upd zs zn.toNatClampNeg x3) tn ts))) := rfl
theorem mM_find_e4 (N : Nat) (mr : Nat → Int32) (n : Nat) (x3 : Int32) (zn : Int32) (zs : Nat → Int32) (tn : Int32) (ts : Nat → Int32) : mM_find N mr (n + 1) 4 [x3] zn zs tn ts = (if zn ≤ x3 then some (zn, zs, tn, ts) else mM_find N mr n 5 [x3, 1, 0] zn zs tn ts) := rfl
theorem mM_find_e5 (N : Nat) (mr : Nat → Int32) (n : Nat) (x3 x4 x5 : Int32) (zn : Int32) (zs : Nat → Int32) (tn : Int32) (ts : Nat → Int32) : mM_find N mr (n + 1) 5 [x3, x4, x5] zn zs tn ts = (if zn ≤ x5 then (if x4 = 0 then mM_find N mr n 4 [(x3 + 1)] zn zs tn ts else kg x3 256 (kg tn 256 (mM_find N mr n 4 [(x3 + 1)] zn zs (tn + 1) (upd ts tn.toNatClampNeg (zs x3.toNatClampNeg))))) else (if x4 = 0 then mM_find N mr n 6 [x3, x5] zn zs tn ts else kg x3 256 (kg x5 256 ((mM_cross n 0 [(zs x3.toNatClampNeg), (zs x5.toNatClampNeg)]).bind fun r518 => (if r518 = 0 then mM_find N mr n 5 [x3, 1, (x5 + 1)] zn zs tn ts else mM_find N mr n 6 [x3, x5] zn zs tn ts))))) := rfl
theorem mM_find_e6 (N : Nat) (mr : Nat → Int32) (n : Nat) (x3 x5 : Int32) (zn : Int32) (zs : Nat → Int32) (tn : Int32) (ts : Nat → Int32) : mM_find N mr (n + 1) 6 [x3, x5] zn zs tn ts = mM_find N mr n 5 [x3, 0, (x5 + 1)] zn zs tn ts := rfl
def mM_splits (N : Nat) (mr : Nat → Int32) : Nat → Nat → List Int32 → Int32 → (Nat → Int32) → Int32 → (Nat → Int32) → Option (Int32 × Int32 × (Nat → Int32) × Int32 × (Nat → Int32))
  | n + 1, 0, [x1], zn, zs, tn, ts => (mM_is N n 0 [x1]).bind fun r11 => (if r11 = 0 then some ((-1 : Int32), zn, zs, tn, ts) else (mM_component N mr n 0 [x1]).bind fun r13 => (mM_find N mr n 0 [r13] zn zs tn ts).bind fun (zn_14, zs_14, tn_14, ts_14) => some (zn_14, zn_14, zs_14, tn_14, ts_14))
  | _, _, _, _, _, _, _ => none
theorem mM_splits_z (N : Nat) (mr : Nat → Int32) (b : Nat) (l : List Int32) (zn : Int32) (zs : Nat → Int32) (tn : Int32) (ts : Nat → Int32) : mM_splits N mr 0 b l zn zs tn ts = none := by first | rfl | (cases b <;> rfl) | simp [mM_splits]
theorem mM_splits_e0 (N : Nat) (mr : Nat → Int32) (n : Nat) (x1 : Int32) (zn : Int32) (zs : Nat → Int32) (tn : Int32) (ts : Nat → Int32) : mM_splits N mr (n + 1) 0 [x1] zn zs tn ts = (mM_is N n 0 [x1]).bind fun r11 => (if r11 = 0 then some ((-1 : Int32), zn, zs, tn, ts) else (mM_component N mr n 0 [x1]).bind fun r13 => (mM_find N mr n 0 [r13] zn zs tn ts).bind fun (zn_14, zs_14, tn_14, ts_14) => some (zn_14, zn_14, zs_14, tn_14, ts_14)) := rfl
def mM_strong (N : Nat) (mr : Nat → Int32) : Nat → Nat → List Int32 → Int32 → (Nat → Int32) → Int32 → (Nat → Int32) → Option (Int32 × Int32 × (Nat → Int32) × Int32 × (Nat → Int32))
  | n + 1, 0, [x1], zn, zs, tn, ts => (mM_is N n 0 [x1]).bind fun r11 => (if r11 = 0 then some ((-1 : Int32), zn, zs, tn, ts) else (mM_component N mr n 0 [x1]).bind fun r13 => (mM_find N mr n 0 [r13] zn zs tn ts).bind fun (zn_14, zs_14, tn_14, ts_14) => some (tn_14, zn_14, zs_14, tn_14, ts_14))
  | _, _, _, _, _, _, _ => none
theorem mM_strong_z (N : Nat) (mr : Nat → Int32) (b : Nat) (l : List Int32) (zn : Int32) (zs : Nat → Int32) (tn : Int32) (ts : Nat → Int32) : mM_strong N mr 0 b l zn zs tn ts = none := by first | rfl | (cases b <;> rfl) | simp [mM_strong]
theorem mM_strong_e0 (N : Nat) (mr : Nat → Int32) (n : Nat) (x1 : Int32) (zn : Int32) (zs : Nat → Int32) (tn : Int32) (ts : Nat → Int32) : mM_strong N mr (n + 1) 0 [x1] zn zs tn ts = (mM_is N n 0 [x1]).bind fun r11 => (if r11 = 0 then some ((-1 : Int32), zn, zs, tn, ts) else (mM_component N mr n 0 [x1]).bind fun r13 => (mM_find N mr n 0 [r13] zn zs tn ts).bind fun (zn_14, zs_14, tn_14, ts_14) => some (tn_14, zn_14, zs_14, tn_14, ts_14)) := rfl
def mM_nodeSet (N : Nat) (mr : Nat → Int32) : Nat → Nat → List Int32 → Int32 → (Nat → Int32) → Int32 → (Nat → Int32) → Option (Int32 × Int32 × (Nat → Int32) × Int32 × (Nat → Int32))
  | n + 1, 0, [x1, x2], zn, zs, tn, ts => (mM_is N n 0 [x1]).bind fun r11 => (if r11 = 0 then some ((-1 : Int32), zn, zs, tn, ts) else (if 0 ≤ x2 then (mM_component N mr n 0 [x1]).bind fun r14 => (mM_find N mr n 0 [r14] zn zs tn ts).bind fun (zn_15, zs_15, tn_15, ts_15) => (if x2 = 0 then some (r14, zn_15, zs_15, tn_15, ts_15) else (if tn_15 < x2 then some ((-1 : Int32), zn_15, zs_15, tn_15, ts_15) else kg (x2 - 1) 256 (some ((ts_15 (x2 - 1).toNatClampNeg), zn_15, zs_15, tn_15, ts_15)))) else some ((-1 : Int32), zn, zs, tn, ts)))
  | _, _, _, _, _, _, _ => none
theorem mM_nodeSet_z (N : Nat) (mr : Nat → Int32) (b : Nat) (l : List Int32) (zn : Int32) (zs : Nat → Int32) (tn : Int32) (ts : Nat → Int32) : mM_nodeSet N mr 0 b l zn zs tn ts = none := by first | rfl | (cases b <;> rfl) | simp [mM_nodeSet]
theorem mM_nodeSet_e0 (N : Nat) (mr : Nat → Int32) (n : Nat) (x1 x2 : Int32) (zn : Int32) (zs : Nat → Int32) (tn : Int32) (ts : Nat → Int32) : mM_nodeSet N mr (n + 1) 0 [x1, x2] zn zs tn ts = (mM_is N n 0 [x1]).bind fun r11 => (if r11 = 0 then some ((-1 : Int32), zn, zs, tn, ts) else (if 0 ≤ x2 then (mM_component N mr n 0 [x1]).bind fun r14 => (mM_find N mr n 0 [r14] zn zs tn ts).bind fun (zn_15, zs_15, tn_15, ts_15) => (if x2 = 0 then some (r14, zn_15, zs_15, tn_15, ts_15) else (if tn_15 < x2 then some ((-1 : Int32), zn_15, zs_15, tn_15, ts_15) else kg (x2 - 1) 256 (some ((ts_15 (x2 - 1).toNatClampNeg), zn_15, zs_15, tn_15, ts_15)))) else some ((-1 : Int32), zn, zs, tn, ts))) := rfl
def mM_set (N : Nat) (mr : Nat → Int32) : Nat → Nat → List Int32 → Int32 → (Nat → Int32) → Int32 → (Nat → Int32) → Option (Int32 × Int32 × (Nat → Int32) × Int32 × (Nat → Int32))
  | n + 1, 0, [x1, x2], zn, zs, tn, ts => (mM_nodeSet N mr n 0 [x1, x2] zn zs tn ts).bind fun (r11, zn_11, zs_11, tn_11, ts_11) => some (r11, zn_11, zs_11, tn_11, ts_11)
  | _, _, _, _, _, _, _ => none
theorem mM_set_z (N : Nat) (mr : Nat → Int32) (b : Nat) (l : List Int32) (zn : Int32) (zs : Nat → Int32) (tn : Int32) (ts : Nat → Int32) : mM_set N mr 0 b l zn zs tn ts = none := by first | rfl | (cases b <;> rfl) | simp [mM_set]
theorem mM_set_e0 (N : Nat) (mr : Nat → Int32) (n : Nat) (x1 x2 : Int32) (zn : Int32) (zs : Nat → Int32) (tn : Int32) (ts : Nat → Int32) : mM_set N mr (n + 1) 0 [x1, x2] zn zs tn ts = (mM_nodeSet N mr n 0 [x1, x2] zn zs tn ts).bind fun (r11, zn_11, zs_11, tn_11, ts_11) => some (r11, zn_11, zs_11, tn_11, ts_11) := rfl
def mM_inside : Nat → Nat → List Int32 → Option Int32
  | n + 1, 0, [x0, x1] => (if x0 = x1 then some (0 : Int32) else (if (x0 &&& (x1 ^^^ (-1))) = 0 then some (1 : Int32) else some (0 : Int32)))
  | _, _, _ => none
theorem mM_inside_z (b : Nat) (l : List Int32) : mM_inside  0 b l = none := by first | rfl | (cases b <;> rfl) | simp [mM_inside]
theorem mM_inside_e0 (n : Nat) (x0 x1 : Int32) : mM_inside  (n + 1) 0 [x0, x1] = (if x0 = x1 then some (0 : Int32) else (if (x0 &&& (x1 ^^^ (-1))) = 0 then some (1 : Int32) else some (0 : Int32))) := rfl
def mM_isPart (N : Nat) (tn : Int32) (ts : Nat → Int32) : Nat → Nat → List Int32 → Option Int32
  | n + 1, 0, [x1, x2, x3, x4] => (if x4 = 0 then (if x1 = (x3 &&& (x2 ^^^ (-1))) then some (1 : Int32) else mM_isPart N tn ts n 1 [x1, x2]) else mM_isPart N tn ts n 1 [x1, x2])
  | n + 1, 1, [x1, x2] => (mM_size n 0 [x1]).bind fun r111 => (if r111 = 1 then (if (x1 &&& x2) = 0 then mM_isPart N tn ts n 2 [x1, x2] else mM_isPart N tn ts n 3 [x1, x2, 1]) else mM_isPart N tn ts n 2 [x1, x2])
  | n + 1, 2, [x1, x2] => mM_isPart N tn ts n 3 [x1, x2, 0]
  | n + 1, 3, [x1, x2, y0] => mM_isPart N tn ts n 4 [x1, x2, y0, 0, 0, 0]
  | n + 1, 4, [x1, x2, x5, x6, x7, x8] => (if tn ≤ x8 then (if x5 = 0 then (if x6 = 0 then some (0 : Int32) else mM_isPart N tn ts n 10 [x7]) else mM_isPart N tn ts n 10 [x7]) else kg x8 256 ((mM_inside n 0 [(ts x8.toNatClampNeg), x2]).bind fun r415 => (if x6 = 0 then (if r415 = 0 then mM_isPart N tn ts n 6 [x1, x2, x5, x7, x8, r415] else kg x8 256 ((if (ts x8.toNatClampNeg) = x1 then mM_isPart N tn ts n 5 [x1, x2, x5, x7, x8, r415] else mM_isPart N tn ts n 6 [x1, x2, x5, x7, x8, r415]))) else mM_isPart N tn ts n 5 [x1, x2, x5, x7, x8, r415])))
  | n + 1, 5, [x1, x2, x5, x7, x8, x9] => mM_isPart N tn ts n 7 [x1, x2, x5, x7, x8, x9, 1]
  | n + 1, 6, [x1, x2, x5, x7, x8, x9] => mM_isPart N tn ts n 7 [x1, x2, x5, x7, x8, x9, 0]
  | n + 1, 7, [x1, x2, x5, x7, x8, x9, y0] => (if x7 = 0 then (if x9 = 0 then mM_isPart N tn ts n 9 [x1, x2, x5, y0, x8] else kg x8 256 ((mM_inside n 0 [x1, (ts x8.toNatClampNeg)]).bind fun r714 => (if r714 = 0 then mM_isPart N tn ts n 9 [x1, x2, x5, y0, x8] else mM_isPart N tn ts n 8 [x1, x2, x5, y0, x8]))) else mM_isPart N tn ts n 8 [x1, x2, x5, y0, x8])
  | n + 1, 8, [x1, x2, x5, x6, x8] => mM_isPart N tn ts n 4 [x1, x2, x5, x6, 1, (x8 + 1)]
  | n + 1, 9, [x1, x2, x5, x6, x8] => mM_isPart N tn ts n 4 [x1, x2, x5, x6, 0, (x8 + 1)]
  | n + 1, 10, [x7] => (if x7 = 0 then some (1 : Int32) else some (0 : Int32))
  | _, _, _ => none
theorem mM_isPart_z (N : Nat) (tn : Int32) (ts : Nat → Int32) (b : Nat) (l : List Int32) : mM_isPart N tn ts 0 b l = none := by first | rfl | (cases b <;> rfl) | simp [mM_isPart]
theorem mM_isPart_e0 (N : Nat) (tn : Int32) (ts : Nat → Int32) (n : Nat) (x1 x2 x3 x4 : Int32) : mM_isPart N tn ts (n + 1) 0 [x1, x2, x3, x4] = (if x4 = 0 then (if x1 = (x3 &&& (x2 ^^^ (-1))) then some (1 : Int32) else mM_isPart N tn ts n 1 [x1, x2]) else mM_isPart N tn ts n 1 [x1, x2]) := rfl
theorem mM_isPart_e1 (N : Nat) (tn : Int32) (ts : Nat → Int32) (n : Nat) (x1 x2 : Int32) : mM_isPart N tn ts (n + 1) 1 [x1, x2] = (mM_size n 0 [x1]).bind fun r111 => (if r111 = 1 then (if (x1 &&& x2) = 0 then mM_isPart N tn ts n 2 [x1, x2] else mM_isPart N tn ts n 3 [x1, x2, 1]) else mM_isPart N tn ts n 2 [x1, x2]) := rfl
theorem mM_isPart_e2 (N : Nat) (tn : Int32) (ts : Nat → Int32) (n : Nat) (x1 x2 : Int32) : mM_isPart N tn ts (n + 1) 2 [x1, x2] = mM_isPart N tn ts n 3 [x1, x2, 0] := rfl
theorem mM_isPart_e3 (N : Nat) (tn : Int32) (ts : Nat → Int32) (n : Nat) (x1 x2 y0 : Int32) : mM_isPart N tn ts (n + 1) 3 [x1, x2, y0] = mM_isPart N tn ts n 4 [x1, x2, y0, 0, 0, 0] := rfl
theorem mM_isPart_e4 (N : Nat) (tn : Int32) (ts : Nat → Int32) (n : Nat) (x1 x2 x5 x6 x7 x8 : Int32) : mM_isPart N tn ts (n + 1) 4 [x1, x2, x5, x6, x7, x8] = (if tn ≤ x8 then (if x5 = 0 then (if x6 = 0 then some (0 : Int32) else mM_isPart N tn ts n 10 [x7]) else mM_isPart N tn ts n 10 [x7]) else kg x8 256 ((mM_inside n 0 [(ts x8.toNatClampNeg), x2]).bind fun r415 => (if x6 = 0 then (if r415 = 0 then mM_isPart N tn ts n 6 [x1, x2, x5, x7, x8, r415] else kg x8 256 ((if (ts x8.toNatClampNeg) = x1 then mM_isPart N tn ts n 5 [x1, x2, x5, x7, x8, r415] else mM_isPart N tn ts n 6 [x1, x2, x5, x7, x8, r415]))) else mM_isPart N tn ts n 5 [x1, x2, x5, x7, x8, r415]))) := rfl
theorem mM_isPart_e5 (N : Nat) (tn : Int32) (ts : Nat → Int32) (n : Nat) (x1 x2 x5 x7 x8 x9 : Int32) : mM_isPart N tn ts (n + 1) 5 [x1, x2, x5, x7, x8, x9] = mM_isPart N tn ts n 7 [x1, x2, x5, x7, x8, x9, 1] := rfl
theorem mM_isPart_e6 (N : Nat) (tn : Int32) (ts : Nat → Int32) (n : Nat) (x1 x2 x5 x7 x8 x9 : Int32) : mM_isPart N tn ts (n + 1) 6 [x1, x2, x5, x7, x8, x9] = mM_isPart N tn ts n 7 [x1, x2, x5, x7, x8, x9, 0] := rfl
theorem mM_isPart_e7 (N : Nat) (tn : Int32) (ts : Nat → Int32) (n : Nat) (x1 x2 x5 x7 x8 x9 y0 : Int32) : mM_isPart N tn ts (n + 1) 7 [x1, x2, x5, x7, x8, x9, y0] = (if x7 = 0 then (if x9 = 0 then mM_isPart N tn ts n 9 [x1, x2, x5, y0, x8] else kg x8 256 ((mM_inside n 0 [x1, (ts x8.toNatClampNeg)]).bind fun r714 => (if r714 = 0 then mM_isPart N tn ts n 9 [x1, x2, x5, y0, x8] else mM_isPart N tn ts n 8 [x1, x2, x5, y0, x8]))) else mM_isPart N tn ts n 8 [x1, x2, x5, y0, x8]) := rfl
theorem mM_isPart_e8 (N : Nat) (tn : Int32) (ts : Nat → Int32) (n : Nat) (x1 x2 x5 x6 x8 : Int32) : mM_isPart N tn ts (n + 1) 8 [x1, x2, x5, x6, x8] = mM_isPart N tn ts n 4 [x1, x2, x5, x6, 1, (x8 + 1)] := rfl
theorem mM_isPart_e9 (N : Nat) (tn : Int32) (ts : Nat → Int32) (n : Nat) (x1 x2 x5 x6 x8 : Int32) : mM_isPart N tn ts (n + 1) 9 [x1, x2, x5, x6, x8] = mM_isPart N tn ts n 4 [x1, x2, x5, x6, 0, (x8 + 1)] := rfl
theorem mM_isPart_e10 (N : Nat) (tn : Int32) (ts : Nat → Int32) (n : Nat) (x7 : Int32) : mM_isPart N tn ts (n + 1) 10 [x7] = (if x7 = 0 then some (1 : Int32) else some (0 : Int32)) := rfl
def mM_open (N : Nat) (mr : Nat → Int32) : Nat → Nat → List Int32 → Int32 → (Nat → Int32) → Int32 → (Nat → Int32) → Int32 → (Nat → Int32) → Option (Int32 × Int32 × (Nat → Int32) × Int32 × (Nat → Int32) × Int32 × (Nat → Int32))
  | n + 1, 0, [x1, x2], zn, zs, tn, ts, yn, ys => (mM_nodeSet N mr n 0 [x1, x2] zn zs tn ts).bind fun (r11, zn_11, zs_11, tn_11, ts_11) => (if r11 = (-1) then some ((0 : Int32), zn_11, zs_11, tn_11, ts_11, yn, ys) else (mM_component N mr n 0 [x1]).bind fun r13 => mM_open N mr n 1 [x2, r11, r13, 1] zn_11 zs_11 tn_11 ts_11 0 ys)
  | n + 1, 1, [x2, x3, x4, x5], zn, zs, tn, ts, yn, ys => (if 512 ≤ x5 then some ((1 : Int32), zn, zs, tn, ts, yn, ys) else (if x2 = 0 then mM_open N mr n 2 [x2, x3, x4, x5, 1, x4, x3, x5] zn zs tn ts yn ys else mM_open N mr n 2 [x2, x3, x4, x5, 0, x4, x3, x5] zn zs tn ts yn ys))
  | n + 1, 2, [x2, x3, x4, x5, y0, y1, y2, y3], zn, zs, tn, ts, yn, ys => (mM_isPart N tn ts n 0 [y3, y2, y1, y0]).bind fun r211 => (if r211 = 0 then mM_open N mr n 1 [x2, x3, x4, (x5 + 1)] zn zs tn ts yn ys else kg yn 16 (mM_open N mr n 1 [x2, x3, x4, (x5 + 1)] zn zs tn ts (yn + 1) (upd ys yn.toNatClampNeg x5)))
  | _, _, _, _, _, _, _, _, _ => none
theorem mM_open_z (N : Nat) (mr : Nat → Int32) (b : Nat) (l : List Int32) (zn : Int32) (zs : Nat → Int32) (tn : Int32) (ts : Nat → Int32) (yn : Int32) (ys : Nat → Int32) : mM_open N mr 0 b l zn zs tn ts yn ys = none := by first | rfl | (cases b <;> rfl) | simp [mM_open]
theorem mM_open_e0 (N : Nat) (mr : Nat → Int32) (n : Nat) (x1 x2 : Int32) (zn : Int32) (zs : Nat → Int32) (tn : Int32) (ts : Nat → Int32) (yn : Int32) (ys : Nat → Int32) : mM_open N mr (n + 1) 0 [x1, x2] zn zs tn ts yn ys = (mM_nodeSet N mr n 0 [x1, x2] zn zs tn ts).bind fun (r11, zn_11, zs_11, tn_11, ts_11) => (if r11 = (-1) then some ((0 : Int32), zn_11, zs_11, tn_11, ts_11, yn, ys) else (mM_component N mr n 0 [x1]).bind fun r13 => mM_open N mr n 1 [x2, r11, r13, 1] zn_11 zs_11 tn_11 ts_11 0 ys) := rfl
theorem mM_open_e1 (N : Nat) (mr : Nat → Int32) (n : Nat) (x2 x3 x4 x5 : Int32) (zn : Int32) (zs : Nat → Int32) (tn : Int32) (ts : Nat → Int32) (yn : Int32) (ys : Nat → Int32) : mM_open N mr (n + 1) 1 [x2, x3, x4, x5] zn zs tn ts yn ys = (if 512 ≤ x5 then some ((1 : Int32), zn, zs, tn, ts, yn, ys) else (if x2 = 0 then mM_open N mr n 2 [x2, x3, x4, x5, 1, x4, x3, x5] zn zs tn ts yn ys else mM_open N mr n 2 [x2, x3, x4, x5, 0, x4, x3, x5] zn zs tn ts yn ys)) := rfl
theorem mM_open_e2 (N : Nat) (mr : Nat → Int32) (n : Nat) (x2 x3 x4 x5 y0 y1 y2 y3 : Int32) (zn : Int32) (zs : Nat → Int32) (tn : Int32) (ts : Nat → Int32) (yn : Int32) (ys : Nat → Int32) : mM_open N mr (n + 1) 2 [x2, x3, x4, x5, y0, y1, y2, y3] zn zs tn ts yn ys = (mM_isPart N tn ts n 0 [y3, y2, y1, y0]).bind fun r211 => (if r211 = 0 then mM_open N mr n 1 [x2, x3, x4, (x5 + 1)] zn zs tn ts yn ys else kg yn 16 (mM_open N mr n 1 [x2, x3, x4, (x5 + 1)] zn zs tn ts (yn + 1) (upd ys yn.toNatClampNeg x5))) := rfl
def mM_joined (N : Nat) (mr : Nat → Int32) : Nat → Nat → List Int32 → Option Int32
  | n + 1, 0, [x1, x2] => mM_joined N mr n 1 [x1, x2, 0, 0]
  | n + 1, 1, [x1, x2, x3, x4] => (if (nI N) ≤ x4 then kz x3 (some x3) else (if x3 = 0 then (if ((x1 >>> (x4 &&& 31)) &&& 1) = 1 then kg x4 9 ((if ((mr x4.toNatClampNeg) &&& x2) = 0 then mM_joined N mr n 3 [x1, x2, x4] else mM_joined N mr n 2 [x1, x2, x4])) else mM_joined N mr n 3 [x1, x2, x4]) else mM_joined N mr n 2 [x1, x2, x4]))
  | n + 1, 2, [x1, x2, x4] => mM_joined N mr n 1 [x1, x2, 1, (x4 + 1)]
  | n + 1, 3, [x1, x2, x4] => mM_joined N mr n 1 [x1, x2, 0, (x4 + 1)]
  | _, _, _ => none
theorem mM_joined_z (N : Nat) (mr : Nat → Int32) (b : Nat) (l : List Int32) : mM_joined N mr 0 b l = none := by first | rfl | (cases b <;> rfl) | simp [mM_joined]
theorem mM_joined_e0 (N : Nat) (mr : Nat → Int32) (n : Nat) (x1 x2 : Int32) : mM_joined N mr (n + 1) 0 [x1, x2] = mM_joined N mr n 1 [x1, x2, 0, 0] := rfl
theorem mM_joined_e1 (N : Nat) (mr : Nat → Int32) (n : Nat) (x1 x2 x3 x4 : Int32) : mM_joined N mr (n + 1) 1 [x1, x2, x3, x4] = (if (nI N) ≤ x4 then kz x3 (some x3) else (if x3 = 0 then (if ((x1 >>> (x4 &&& 31)) &&& 1) = 1 then kg x4 9 ((if ((mr x4.toNatClampNeg) &&& x2) = 0 then mM_joined N mr n 3 [x1, x2, x4] else mM_joined N mr n 2 [x1, x2, x4])) else mM_joined N mr n 3 [x1, x2, x4]) else mM_joined N mr n 2 [x1, x2, x4])) := rfl
theorem mM_joined_e2 (N : Nat) (mr : Nat → Int32) (n : Nat) (x1 x2 x4 : Int32) : mM_joined N mr (n + 1) 2 [x1, x2, x4] = mM_joined N mr n 1 [x1, x2, 1, (x4 + 1)] := rfl
theorem mM_joined_e3 (N : Nat) (mr : Nat → Int32) (n : Nat) (x1 x2 x4 : Int32) : mM_joined N mr (n + 1) 3 [x1, x2, x4] = mM_joined N mr n 1 [x1, x2, 0, (x4 + 1)] := rfl
def mM_links (N : Nat) (mr : Nat → Int32) (yn : Int32) (ys : Nat → Int32) : Nat → Nat → List Int32 → Option Int32
  | n + 1, 0, [x1] => mM_links N mr yn ys n 1 [x1, 0, 0]
  | n + 1, 1, [x1, x2, x3] => (if yn ≤ x3 then some x2 else (if x3 = x1 then mM_links N mr yn ys n 2 [x1, x3, x2] else kg x1 16 (kg x3 16 ((mM_joined N mr n 0 [(ys x1.toNatClampNeg), (ys x3.toNatClampNeg)]).bind fun r115 => (if r115 = 0 then mM_links N mr yn ys n 2 [x1, x3, x2] else mM_links N mr yn ys n 3 [x1, x3, 1, x2])))))
  | n + 1, 2, [x1, x3, y0] => mM_links N mr yn ys n 3 [x1, x3, 0, y0]
  | n + 1, 3, [x1, x3, y0, y1] => kl (y1 + y0) fun x2_311 => mM_links N mr yn ys n 1 [x1, x2_311, (x3 + 1)]
  | _, _, _ => none
theorem mM_links_z (N : Nat) (mr : Nat → Int32) (yn : Int32) (ys : Nat → Int32) (b : Nat) (l : List Int32) : mM_links N mr yn ys 0 b l = none := by first | rfl | (cases b <;> rfl) | simp [mM_links]
theorem mM_links_e0 (N : Nat) (mr : Nat → Int32) (yn : Int32) (ys : Nat → Int32) (n : Nat) (x1 : Int32) : mM_links N mr yn ys (n + 1) 0 [x1] = mM_links N mr yn ys n 1 [x1, 0, 0] := rfl
theorem mM_links_e1 (N : Nat) (mr : Nat → Int32) (yn : Int32) (ys : Nat → Int32) (n : Nat) (x1 x2 x3 : Int32) : mM_links N mr yn ys (n + 1) 1 [x1, x2, x3] = (if yn ≤ x3 then some x2 else (if x3 = x1 then mM_links N mr yn ys n 2 [x1, x3, x2] else kg x1 16 (kg x3 16 ((mM_joined N mr n 0 [(ys x1.toNatClampNeg), (ys x3.toNatClampNeg)]).bind fun r115 => (if r115 = 0 then mM_links N mr yn ys n 2 [x1, x3, x2] else mM_links N mr yn ys n 3 [x1, x3, 1, x2]))))) := rfl
theorem mM_links_e2 (N : Nat) (mr : Nat → Int32) (yn : Int32) (ys : Nat → Int32) (n : Nat) (x1 x3 y0 : Int32) : mM_links N mr yn ys (n + 1) 2 [x1, x3, y0] = mM_links N mr yn ys n 3 [x1, x3, 0, y0] := rfl
theorem mM_links_e3 (N : Nat) (mr : Nat → Int32) (yn : Int32) (ys : Nat → Int32) (n : Nat) (x1 x3 y0 y1 : Int32) : mM_links N mr yn ys (n + 1) 3 [x1, x3, y0, y1] = kl (y1 + y0) fun x2_311 => mM_links N mr yn ys n 1 [x1, x2_311, (x3 + 1)] := rfl
def mM_middle (N : Nat) (mr : Nat → Int32) (yn : Int32) (ys : Nat → Int32) : Nat → Nat → List Int32 → Option Int32
  | n + 1, 0, [] => mM_middle N mr yn ys n 1 [0, (-1), 0]
  | n + 1, 1, [x1, x2, x3] => (if yn ≤ x3 then (if x1 = (yn * (yn - 1)) then some (-2 : Int32) else (if x2 = (-1) then some (-1 : Int32) else (if x1 = (2 * (yn - 1)) then some x2 else some (-1 : Int32)))) else (mM_links N mr yn ys n 0 [x3]).bind fun r115 => kl (x1 + r115) fun x1_116 => (mM_links N mr yn ys n 0 [x3]).bind fun r117 => (if r117 = (yn - 1) then (if x2 = (-1) then mM_middle N mr yn ys n 1 [x1_116, x3, (x3 + 1)] else mM_middle N mr yn ys n 2 [x1_116, x2, x3]) else mM_middle N mr yn ys n 2 [x1_116, x2, x3]))
  | n + 1, 2, [x1, x2, x3] => mM_middle N mr yn ys n 1 [x1, x2, (x3 + 1)]
  | _, _, _ => none
theorem mM_middle_z (N : Nat) (mr : Nat → Int32) (yn : Int32) (ys : Nat → Int32) (b : Nat) (l : List Int32) : mM_middle N mr yn ys 0 b l = none := by first | rfl | (cases b <;> rfl) | simp [mM_middle]
theorem mM_middle_e0 (N : Nat) (mr : Nat → Int32) (yn : Int32) (ys : Nat → Int32) (n : Nat) : mM_middle N mr yn ys (n + 1) 0 [] = mM_middle N mr yn ys n 1 [0, (-1), 0] := rfl
theorem mM_middle_e1 (N : Nat) (mr : Nat → Int32) (yn : Int32) (ys : Nat → Int32) (n : Nat) (x1 x2 x3 : Int32) : mM_middle N mr yn ys (n + 1) 1 [x1, x2, x3] = (if yn ≤ x3 then (if x1 = (yn * (yn - 1)) then some (-2 : Int32) else (if x2 = (-1) then some (-1 : Int32) else (if x1 = (2 * (yn - 1)) then some x2 else some (-1 : Int32)))) else (mM_links N mr yn ys n 0 [x3]).bind fun r115 => kl (x1 + r115) fun x1_116 => (mM_links N mr yn ys n 0 [x3]).bind fun r117 => (if r117 = (yn - 1) then (if x2 = (-1) then mM_middle N mr yn ys n 1 [x1_116, x3, (x3 + 1)] else mM_middle N mr yn ys n 2 [x1_116, x2, x3]) else mM_middle N mr yn ys n 2 [x1_116, x2, x3])) := rfl
theorem mM_middle_e2 (N : Nat) (mr : Nat → Int32) (yn : Int32) (ys : Nat → Int32) (n : Nat) (x1 x2 x3 : Int32) : mM_middle N mr yn ys (n + 1) 2 [x1, x2, x3] = mM_middle N mr yn ys n 1 [x1, x2, (x3 + 1)] := rfl
def mM_kind (N : Nat) (mr : Nat → Int32) : Nat → Nat → List Int32 → Int32 → (Nat → Int32) → Int32 → (Nat → Int32) → Int32 → (Nat → Int32) → Option (Int32 × Int32 × (Nat → Int32) × Int32 × (Nat → Int32) × Int32 × (Nat → Int32))
  | n + 1, 0, [x1, x2], zn, zs, tn, ts, yn, ys => (mM_open N mr n 0 [x1, x2] zn zs tn ts yn ys).bind fun (r11, zn_11, zs_11, tn_11, ts_11, yn_11, ys_11) => (if r11 = 0 then some ((-1 : Int32), zn_11, zs_11, tn_11, ts_11, yn_11, ys_11) else (mM_middle N mr yn_11 ys_11 n 0 []).bind fun r13 => (if r13 = (-2) then some ((1 : Int32), zn_11, zs_11, tn_11, ts_11, yn_11, ys_11) else (if r13 = (-1) then some ((3 : Int32), zn_11, zs_11, tn_11, ts_11, yn_11, ys_11) else some ((2 : Int32), zn_11, zs_11, tn_11, ts_11, yn_11, ys_11))))
  | _, _, _, _, _, _, _, _, _ => none
theorem mM_kind_z (N : Nat) (mr : Nat → Int32) (b : Nat) (l : List Int32) (zn : Int32) (zs : Nat → Int32) (tn : Int32) (ts : Nat → Int32) (yn : Int32) (ys : Nat → Int32) : mM_kind N mr 0 b l zn zs tn ts yn ys = none := by first | rfl | (cases b <;> rfl) | simp [mM_kind]
theorem mM_kind_e0 (N : Nat) (mr : Nat → Int32) (n : Nat) (x1 x2 : Int32) (zn : Int32) (zs : Nat → Int32) (tn : Int32) (ts : Nat → Int32) (yn : Int32) (ys : Nat → Int32) : mM_kind N mr (n + 1) 0 [x1, x2] zn zs tn ts yn ys = (mM_open N mr n 0 [x1, x2] zn zs tn ts yn ys).bind fun (r11, zn_11, zs_11, tn_11, ts_11, yn_11, ys_11) => (if r11 = 0 then some ((-1 : Int32), zn_11, zs_11, tn_11, ts_11, yn_11, ys_11) else (mM_middle N mr yn_11 ys_11 n 0 []).bind fun r13 => (if r13 = (-2) then some ((1 : Int32), zn_11, zs_11, tn_11, ts_11, yn_11, ys_11) else (if r13 = (-1) then some ((3 : Int32), zn_11, zs_11, tn_11, ts_11, yn_11, ys_11) else some ((2 : Int32), zn_11, zs_11, tn_11, ts_11, yn_11, ys_11)))) := rfl
def mM_parts (N : Nat) (mr : Nat → Int32) : Nat → Nat → List Int32 → Int32 → (Nat → Int32) → Int32 → (Nat → Int32) → Int32 → (Nat → Int32) → Option (Int32 × Int32 × (Nat → Int32) × Int32 × (Nat → Int32) × Int32 × (Nat → Int32))
  | n + 1, 0, [x1, x2], zn, zs, tn, ts, yn, ys => (mM_open N mr n 0 [x1, x2] zn zs tn ts yn ys).bind fun (r11, zn_11, zs_11, tn_11, ts_11, yn_11, ys_11) => (if r11 = 0 then some ((-1 : Int32), zn_11, zs_11, tn_11, ts_11, yn_11, ys_11) else some (yn_11, zn_11, zs_11, tn_11, ts_11, yn_11, ys_11))
  | _, _, _, _, _, _, _, _, _ => none
theorem mM_parts_z (N : Nat) (mr : Nat → Int32) (b : Nat) (l : List Int32) (zn : Int32) (zs : Nat → Int32) (tn : Int32) (ts : Nat → Int32) (yn : Int32) (ys : Nat → Int32) : mM_parts N mr 0 b l zn zs tn ts yn ys = none := by first | rfl | (cases b <;> rfl) | simp [mM_parts]
theorem mM_parts_e0 (N : Nat) (mr : Nat → Int32) (n : Nat) (x1 x2 : Int32) (zn : Int32) (zs : Nat → Int32) (tn : Int32) (ts : Nat → Int32) (yn : Int32) (ys : Nat → Int32) : mM_parts N mr (n + 1) 0 [x1, x2] zn zs tn ts yn ys = (mM_open N mr n 0 [x1, x2] zn zs tn ts yn ys).bind fun (r11, zn_11, zs_11, tn_11, ts_11, yn_11, ys_11) => (if r11 = 0 then some ((-1 : Int32), zn_11, zs_11, tn_11, ts_11, yn_11, ys_11) else some (yn_11, zn_11, zs_11, tn_11, ts_11, yn_11, ys_11)) := rfl
def mM_part (N : Nat) (mr : Nat → Int32) : Nat → Nat → List Int32 → Int32 → (Nat → Int32) → Int32 → (Nat → Int32) → Int32 → (Nat → Int32) → Option (Int32 × Int32 × (Nat → Int32) × Int32 × (Nat → Int32) × Int32 × (Nat → Int32))
  | n + 1, 0, [x1, x2, x3], zn, zs, tn, ts, yn, ys => (mM_open N mr n 0 [x1, x2] zn zs tn ts yn ys).bind fun (r11, zn_11, zs_11, tn_11, ts_11, yn_11, ys_11) => (if r11 = 0 then some ((-1 : Int32), zn_11, zs_11, tn_11, ts_11, yn_11, ys_11) else (if x3 < 0 then some ((-1 : Int32), zn_11, zs_11, tn_11, ts_11, yn_11, ys_11) else (if yn_11 ≤ x3 then some ((-1 : Int32), zn_11, zs_11, tn_11, ts_11, yn_11, ys_11) else kg x3 16 (some ((ys_11 x3.toNatClampNeg), zn_11, zs_11, tn_11, ts_11, yn_11, ys_11)))))
  | _, _, _, _, _, _, _, _, _ => none
theorem mM_part_z (N : Nat) (mr : Nat → Int32) (b : Nat) (l : List Int32) (zn : Int32) (zs : Nat → Int32) (tn : Int32) (ts : Nat → Int32) (yn : Int32) (ys : Nat → Int32) : mM_part N mr 0 b l zn zs tn ts yn ys = none := by first | rfl | (cases b <;> rfl) | simp [mM_part]
theorem mM_part_e0 (N : Nat) (mr : Nat → Int32) (n : Nat) (x1 x2 x3 : Int32) (zn : Int32) (zs : Nat → Int32) (tn : Int32) (ts : Nat → Int32) (yn : Int32) (ys : Nat → Int32) : mM_part N mr (n + 1) 0 [x1, x2, x3] zn zs tn ts yn ys = (mM_open N mr n 0 [x1, x2] zn zs tn ts yn ys).bind fun (r11, zn_11, zs_11, tn_11, ts_11, yn_11, ys_11) => (if r11 = 0 then some ((-1 : Int32), zn_11, zs_11, tn_11, ts_11, yn_11, ys_11) else (if x3 < 0 then some ((-1 : Int32), zn_11, zs_11, tn_11, ts_11, yn_11, ys_11) else (if yn_11 ≤ x3 then some ((-1 : Int32), zn_11, zs_11, tn_11, ts_11, yn_11, ys_11) else kg x3 16 (some ((ys_11 x3.toNatClampNeg), zn_11, zs_11, tn_11, ts_11, yn_11, ys_11))))) := rfl
def mM_centre (N : Nat) (mr : Nat → Int32) : Nat → Nat → List Int32 → Int32 → (Nat → Int32) → Int32 → (Nat → Int32) → Int32 → (Nat → Int32) → Option (Int32 × Int32 × (Nat → Int32) × Int32 × (Nat → Int32) × Int32 × (Nat → Int32))
  | n + 1, 0, [x1, x2], zn, zs, tn, ts, yn, ys => (mM_open N mr n 0 [x1, x2] zn zs tn ts yn ys).bind fun (r11, zn_11, zs_11, tn_11, ts_11, yn_11, ys_11) => (if r11 = 0 then some ((-1 : Int32), zn_11, zs_11, tn_11, ts_11, yn_11, ys_11) else (mM_middle N mr yn_11 ys_11 n 0 []).bind fun r13 => (if r13 < 0 then some ((-1 : Int32), zn_11, zs_11, tn_11, ts_11, yn_11, ys_11) else kg r13 16 (some ((ys_11 r13.toNatClampNeg), zn_11, zs_11, tn_11, ts_11, yn_11, ys_11))))
  | _, _, _, _, _, _, _, _, _ => none
theorem mM_centre_z (N : Nat) (mr : Nat → Int32) (b : Nat) (l : List Int32) (zn : Int32) (zs : Nat → Int32) (tn : Int32) (ts : Nat → Int32) (yn : Int32) (ys : Nat → Int32) : mM_centre N mr 0 b l zn zs tn ts yn ys = none := by first | rfl | (cases b <;> rfl) | simp [mM_centre]
theorem mM_centre_e0 (N : Nat) (mr : Nat → Int32) (n : Nat) (x1 x2 : Int32) (zn : Int32) (zs : Nat → Int32) (tn : Int32) (ts : Nat → Int32) (yn : Int32) (ys : Nat → Int32) : mM_centre N mr (n + 1) 0 [x1, x2] zn zs tn ts yn ys = (mM_open N mr n 0 [x1, x2] zn zs tn ts yn ys).bind fun (r11, zn_11, zs_11, tn_11, ts_11, yn_11, ys_11) => (if r11 = 0 then some ((-1 : Int32), zn_11, zs_11, tn_11, ts_11, yn_11, ys_11) else (mM_middle N mr yn_11 ys_11 n 0 []).bind fun r13 => (if r13 < 0 then some ((-1 : Int32), zn_11, zs_11, tn_11, ts_11, yn_11, ys_11) else kg r13 16 (some ((ys_11 r13.toNatClampNeg), zn_11, zs_11, tn_11, ts_11, yn_11, ys_11)))) := rfl
def mM_partOf (N : Nat) (yn : Int32) (ys : Nat → Int32) : Nat → Nat → List Int32 → Option Int32
  | n + 1, 0, [x1] => mM_partOf N yn ys n 1 [x1, 0, 0]
  | n + 1, 1, [x1, x2, x3] => (if yn ≤ x3 then some x2 else kg x3 16 ((if (((ys x3.toNatClampNeg) >>> (x1 &&& 31)) &&& 1) = 1 then mM_partOf N yn ys n 1 [x1, x3, (x3 + 1)] else mM_partOf N yn ys n 1 [x1, x2, (x3 + 1)])))
  | _, _, _ => none
theorem mM_partOf_z (N : Nat) (yn : Int32) (ys : Nat → Int32) (b : Nat) (l : List Int32) : mM_partOf N yn ys 0 b l = none := by first | rfl | (cases b <;> rfl) | simp [mM_partOf]
theorem mM_partOf_e0 (N : Nat) (yn : Int32) (ys : Nat → Int32) (n : Nat) (x1 : Int32) : mM_partOf N yn ys (n + 1) 0 [x1] = mM_partOf N yn ys n 1 [x1, 0, 0] := rfl
theorem mM_partOf_e1 (N : Nat) (yn : Int32) (ys : Nat → Int32) (n : Nat) (x1 x2 x3 : Int32) : mM_partOf N yn ys (n + 1) 1 [x1, x2, x3] = (if yn ≤ x3 then some x2 else kg x3 16 ((if (((ys x3.toNatClampNeg) >>> (x1 &&& 31)) &&& 1) = 1 then mM_partOf N yn ys n 1 [x1, x3, (x3 + 1)] else mM_partOf N yn ys n 1 [x1, x2, (x3 + 1)]))) := rfl
def mM_linked (N : Nat) (mr : Nat → Int32) : Nat → Nat → List Int32 → Int32 → (Nat → Int32) → Int32 → (Nat → Int32) → Int32 → (Nat → Int32) → Option (Int32 × Int32 × (Nat → Int32) × Int32 × (Nat → Int32) × Int32 × (Nat → Int32))
  | n + 1, 0, [x1, x2], zn, zs, tn, ts, yn, ys => (mM_is N n 0 [x1]).bind fun r11 => (if r11 = 0 then some ((0 : Int32), zn, zs, tn, ts, yn, ys) else (mM_is N n 0 [x2]).bind fun r13 => (if r13 = 0 then some ((0 : Int32), zn, zs, tn, ts, yn, ys) else (if x1 = x2 then some ((0 : Int32), zn, zs, tn, ts, yn, ys) else (mM_component N mr n 0 [x1]).bind fun r16 => (if ((r16 >>> (x2 &&& 31)) &&& 1) = 0 then some ((0 : Int32), zn, zs, tn, ts, yn, ys) else (mM_component N mr n 0 [x1]).bind fun r18 => (mM_find N mr n 0 [r18] zn zs tn ts).bind fun (zn_19, zs_19, tn_19, ts_19) => kl (tn_19 + 1) fun x3_20 => mM_linked N mr n 1 [x1, x2, x3_20, 1, 0] zn_19 zs_19 tn_19 ts_19 yn ys))))
  | n + 1, 1, [x1, x2, x3, x4, x5], zn, zs, tn, ts, yn, ys => (if x3 ≤ x5 then kz x4 (some (x4, zn, zs, tn, ts, yn, ys)) else (if x4 = 0 then kz x4 (some (x4, zn, zs, tn, ts, yn, ys)) else (mM_open N mr n 0 [x1, x5] zn zs tn ts yn ys).bind fun (r113, zn_113, zs_113, tn_113, ts_113, yn_113, ys_113) => (mM_partOf N yn_113 ys_113 n 0 [x1]).bind fun r114 => (mM_partOf N yn_113 ys_113 n 0 [x2]).bind fun r115 => (if r113 = 0 then mM_linked N mr n 3 [x1, x2, x3, x5] zn_113 zs_113 tn_113 ts_113 yn_113 ys_113 else (if r114 = r115 then mM_linked N mr n 2 [x1, x2, x3, x5] zn_113 zs_113 tn_113 ts_113 yn_113 ys_113 else kg r114 16 (kg r115 16 ((mM_joined N mr n 0 [(ys_113 r114.toNatClampNeg), (ys_113 r115.toNatClampNeg)]).bind fun r120 => (if r120 = 0 then mM_linked N mr n 3 [x1, x2, x3, x5] zn_113 zs_113 tn_113 ts_113 yn_113 ys_113 else mM_linked N mr n 2 [x1, x2, x3, x5] zn_113 zs_113 tn_113 ts_113 yn_113 ys_113)))))))
  | n + 1, 2, [x1, x2, x3, x5], zn, zs, tn, ts, yn, ys => mM_linked N mr n 1 [x1, x2, x3, 1, (x5 + 1)] zn zs tn ts yn ys
  | n + 1, 3, [x1, x2, x3, x5], zn, zs, tn, ts, yn, ys => mM_linked N mr n 1 [x1, x2, x3, 0, (x5 + 1)] zn zs tn ts yn ys
  | _, _, _, _, _, _, _, _, _ => none
theorem mM_linked_z (N : Nat) (mr : Nat → Int32) (b : Nat) (l : List Int32) (zn : Int32) (zs : Nat → Int32) (tn : Int32) (ts : Nat → Int32) (yn : Int32) (ys : Nat → Int32) : mM_linked N mr 0 b l zn zs tn ts yn ys = none := by first | rfl | (cases b <;> rfl) | simp [mM_linked]
theorem mM_linked_e0 (N : Nat) (mr : Nat → Int32) (n : Nat) (x1 x2 : Int32) (zn : Int32) (zs : Nat → Int32) (tn : Int32) (ts : Nat → Int32) (yn : Int32) (ys : Nat → Int32) : mM_linked N mr (n + 1) 0 [x1, x2] zn zs tn ts yn ys = (mM_is N n 0 [x1]).bind fun r11 => (if r11 = 0 then some ((0 : Int32), zn, zs, tn, ts, yn, ys) else (mM_is N n 0 [x2]).bind fun r13 => (if r13 = 0 then some ((0 : Int32), zn, zs, tn, ts, yn, ys) else (if x1 = x2 then some ((0 : Int32), zn, zs, tn, ts, yn, ys) else (mM_component N mr n 0 [x1]).bind fun r16 => (if ((r16 >>> (x2 &&& 31)) &&& 1) = 0 then some ((0 : Int32), zn, zs, tn, ts, yn, ys) else (mM_component N mr n 0 [x1]).bind fun r18 => (mM_find N mr n 0 [r18] zn zs tn ts).bind fun (zn_19, zs_19, tn_19, ts_19) => kl (tn_19 + 1) fun x3_20 => mM_linked N mr n 1 [x1, x2, x3_20, 1, 0] zn_19 zs_19 tn_19 ts_19 yn ys)))) := rfl
theorem mM_linked_e1 (N : Nat) (mr : Nat → Int32) (n : Nat) (x1 x2 x3 x4 x5 : Int32) (zn : Int32) (zs : Nat → Int32) (tn : Int32) (ts : Nat → Int32) (yn : Int32) (ys : Nat → Int32) : mM_linked N mr (n + 1) 1 [x1, x2, x3, x4, x5] zn zs tn ts yn ys = (if x3 ≤ x5 then kz x4 (some (x4, zn, zs, tn, ts, yn, ys)) else (if x4 = 0 then kz x4 (some (x4, zn, zs, tn, ts, yn, ys)) else (mM_open N mr n 0 [x1, x5] zn zs tn ts yn ys).bind fun (r113, zn_113, zs_113, tn_113, ts_113, yn_113, ys_113) => (mM_partOf N yn_113 ys_113 n 0 [x1]).bind fun r114 => (mM_partOf N yn_113 ys_113 n 0 [x2]).bind fun r115 => (if r113 = 0 then mM_linked N mr n 3 [x1, x2, x3, x5] zn_113 zs_113 tn_113 ts_113 yn_113 ys_113 else (if r114 = r115 then mM_linked N mr n 2 [x1, x2, x3, x5] zn_113 zs_113 tn_113 ts_113 yn_113 ys_113 else kg r114 16 (kg r115 16 ((mM_joined N mr n 0 [(ys_113 r114.toNatClampNeg), (ys_113 r115.toNatClampNeg)]).bind fun r120 => (if r120 = 0 then mM_linked N mr n 3 [x1, x2, x3, x5] zn_113 zs_113 tn_113 ts_113 yn_113 ys_113 else mM_linked N mr n 2 [x1, x2, x3, x5] zn_113 zs_113 tn_113 ts_113 yn_113 ys_113))))))) := rfl
theorem mM_linked_e2 (N : Nat) (mr : Nat → Int32) (n : Nat) (x1 x2 x3 x5 : Int32) (zn : Int32) (zs : Nat → Int32) (tn : Int32) (ts : Nat → Int32) (yn : Int32) (ys : Nat → Int32) : mM_linked N mr (n + 1) 2 [x1, x2, x3, x5] zn zs tn ts yn ys = mM_linked N mr n 1 [x1, x2, x3, 1, (x5 + 1)] zn zs tn ts yn ys := rfl
theorem mM_linked_e3 (N : Nat) (mr : Nat → Int32) (n : Nat) (x1 x2 x3 x5 : Int32) (zn : Int32) (zs : Nat → Int32) (tn : Int32) (ts : Nat → Int32) (yn : Int32) (ys : Nat → Int32) : mM_linked N mr (n + 1) 3 [x1, x2, x3, x5] zn zs tn ts yn ys = mM_linked N mr n 1 [x1, x2, x3, 0, (x5 + 1)] zn zs tn ts yn ys := rfl
def mM_way (N : Nat) (mr : Nat → Int32) : Nat → Nat → List Int32 → Option Int32
  | n + 1, 0, [x1, x2] => kg x1 9 (kl ((mr x1.toNatClampNeg) &&& x2) fun x3_12 => (mM_size n 0 [x3_12]).bind fun r13 => (if r13 = 1 then (mM_least n 0 [x3_12]).bind fun r15 => some r15 else mM_way N mr n 1 [x1, x2, x3_12, 0]))
  | n + 1, 1, [x1, x2, x3, x4] => (if (nI N) ≤ x4 then some (-1 : Int32) else kl (((1 : Int32) <<< (x1 &&& 31)) ||| ((1 : Int32) <<< (x4 &&& 31))) fun x5_112 => (if x4 = x1 then mM_way N mr n 2 [x1, x2, x3, x4] else (if ((x2 >>> (x4 &&& 31)) &&& 1) = 1 then kg x4 9 ((if (x3 &&& (x5_112 ^^^ (-1))) = (((mr x4.toNatClampNeg) &&& x2) &&& (x5_112 ^^^ (-1))) then mM_way N mr n 3 [x1, x2, x3, x4, 1] else mM_way N mr n 2 [x1, x2, x3, x4])) else mM_way N mr n 2 [x1, x2, x3, x4])))
  | n + 1, 2, [x1, x2, x3, x4] => mM_way N mr n 3 [x1, x2, x3, x4, 0]
  | n + 1, 3, [x1, x2, x3, x4, y0] => (if y0 = 0 then mM_way N mr n 1 [x1, x2, x3, (x4 + 1)] else (if ((x3 >>> (x4 &&& 31)) &&& 1) = 1 then some (x4 + 32) else some (x4 + 16)))
  | _, _, _ => none
theorem mM_way_z (N : Nat) (mr : Nat → Int32) (b : Nat) (l : List Int32) : mM_way N mr 0 b l = none := by first | rfl | (cases b <;> rfl) | simp [mM_way]
theorem mM_way_e0 (N : Nat) (mr : Nat → Int32) (n : Nat) (x1 x2 : Int32) : mM_way N mr (n + 1) 0 [x1, x2] = kg x1 9 (kl ((mr x1.toNatClampNeg) &&& x2) fun x3_12 => (mM_size n 0 [x3_12]).bind fun r13 => (if r13 = 1 then (mM_least n 0 [x3_12]).bind fun r15 => some r15 else mM_way N mr n 1 [x1, x2, x3_12, 0])) := rfl
theorem mM_way_e1 (N : Nat) (mr : Nat → Int32) (n : Nat) (x1 x2 x3 x4 : Int32) : mM_way N mr (n + 1) 1 [x1, x2, x3, x4] = (if (nI N) ≤ x4 then some (-1 : Int32) else kl (((1 : Int32) <<< (x1 &&& 31)) ||| ((1 : Int32) <<< (x4 &&& 31))) fun x5_112 => (if x4 = x1 then mM_way N mr n 2 [x1, x2, x3, x4] else (if ((x2 >>> (x4 &&& 31)) &&& 1) = 1 then kg x4 9 ((if (x3 &&& (x5_112 ^^^ (-1))) = (((mr x4.toNatClampNeg) &&& x2) &&& (x5_112 ^^^ (-1))) then mM_way N mr n 3 [x1, x2, x3, x4, 1] else mM_way N mr n 2 [x1, x2, x3, x4])) else mM_way N mr n 2 [x1, x2, x3, x4]))) := rfl
theorem mM_way_e2 (N : Nat) (mr : Nat → Int32) (n : Nat) (x1 x2 x3 x4 : Int32) : mM_way N mr (n + 1) 2 [x1, x2, x3, x4] = mM_way N mr n 3 [x1, x2, x3, x4, 0] := rfl
theorem mM_way_e3 (N : Nat) (mr : Nat → Int32) (n : Nat) (x1 x2 x3 x4 y0 : Int32) : mM_way N mr (n + 1) 3 [x1, x2, x3, x4, y0] = (if y0 = 0 then mM_way N mr n 1 [x1, x2, x3, (x4 + 1)] else (if ((x3 >>> (x4 &&& 31)) &&& 1) = 1 then some (x4 + 32) else some (x4 + 16))) := rfl
def mM_eliminate (N : Nat) (mr : Nat → Int32) : Nat → Nat → List Int32 → Int32 → (Nat → Int32) → Int32 → Option (Int32 × (Nat → Int32) × Int32)
  | n + 1, 0, [x1], en, es, ew => (mM_size n 0 [x1]).bind fun r11 => (if r11 ≤ 1 then mM_eliminate N mr n 1 [x1, 0] 0 es ew else mM_eliminate N mr n 1 [x1, 1] 0 es ew)
  | n + 1, 1, [x2, y0], en, es, ew => mM_eliminate N mr n 2 [x2, y0] en es ew
  | n + 1, 2, [x2, x3], en, es, ew => (if x3 = 0 then (mM_size n 0 [x2]).bind fun r212 => (if 1 < r212 then some (en, es, (0 : Int32)) else some (en, es, (1 : Int32))) else mM_eliminate N mr n 3 [x2, 8] en es ew)
  | n + 1, 3, [x2, x4], en, es, ew => (if x4 < 0 then mM_eliminate N mr n 4 [x2, x4] en es ew else (if ((x2 >>> (x4 &&& 31)) &&& 1) = 0 then mM_eliminate N mr n 3 [x2, (x4 + (-1))] en es ew else (mM_way N mr n 0 [x4, x2]).bind fun r313 => (if r313 = (-1) then mM_eliminate N mr n 3 [x2, (x4 + (-1))] en es ew else mM_eliminate N mr n 4 [x2, x4] en es ew)))
  | n + 1, 4, [x2, x4], en, es, ew => (if x4 < 0 then mM_eliminate N mr n 5 [x2, x4] en es ew else (mM_way N mr n 0 [x4, x2]).bind fun r412 => kg en 9 (kl (x2 &&& (((1 : Int32) <<< (x4 &&& 31)) ^^^ (-1))) fun x2_414 => mM_eliminate N mr n 5 [x2_414, x4] (en + 1) (upd es en.toNatClampNeg (x4 + (16 * r412))) ew))
  | n + 1, 5, [x2, x4], en, es, ew => (if x4 < 0 then mM_eliminate N mr n 2 [x2, 0] en es ew else (mM_size n 0 [x2]).bind fun r512 => (if r512 ≤ 1 then mM_eliminate N mr n 2 [x2, 0] en es ew else mM_eliminate N mr n 2 [x2, 1] en es ew))
  | _, _, _, _, _, _ => none
theorem mM_eliminate_z (N : Nat) (mr : Nat → Int32) (b : Nat) (l : List Int32) (en : Int32) (es : Nat → Int32) (ew : Int32) : mM_eliminate N mr 0 b l en es ew = none := by first | rfl | (cases b <;> rfl) | simp [mM_eliminate]
theorem mM_eliminate_e0 (N : Nat) (mr : Nat → Int32) (n : Nat) (x1 : Int32) (en : Int32) (es : Nat → Int32) (ew : Int32) : mM_eliminate N mr (n + 1) 0 [x1] en es ew = (mM_size n 0 [x1]).bind fun r11 => (if r11 ≤ 1 then mM_eliminate N mr n 1 [x1, 0] 0 es ew else mM_eliminate N mr n 1 [x1, 1] 0 es ew) := rfl
theorem mM_eliminate_e1 (N : Nat) (mr : Nat → Int32) (n : Nat) (x2 y0 : Int32) (en : Int32) (es : Nat → Int32) (ew : Int32) : mM_eliminate N mr (n + 1) 1 [x2, y0] en es ew = mM_eliminate N mr n 2 [x2, y0] en es ew := rfl
theorem mM_eliminate_e2 (N : Nat) (mr : Nat → Int32) (n : Nat) (x2 x3 : Int32) (en : Int32) (es : Nat → Int32) (ew : Int32) : mM_eliminate N mr (n + 1) 2 [x2, x3] en es ew = (if x3 = 0 then (mM_size n 0 [x2]).bind fun r212 => (if 1 < r212 then some (en, es, (0 : Int32)) else some (en, es, (1 : Int32))) else mM_eliminate N mr n 3 [x2, 8] en es ew) := rfl
theorem mM_eliminate_e3 (N : Nat) (mr : Nat → Int32) (n : Nat) (x2 x4 : Int32) (en : Int32) (es : Nat → Int32) (ew : Int32) : mM_eliminate N mr (n + 1) 3 [x2, x4] en es ew = (if x4 < 0 then mM_eliminate N mr n 4 [x2, x4] en es ew else (if ((x2 >>> (x4 &&& 31)) &&& 1) = 0 then mM_eliminate N mr n 3 [x2, (x4 + (-1))] en es ew else (mM_way N mr n 0 [x4, x2]).bind fun r313 => (if r313 = (-1) then mM_eliminate N mr n 3 [x2, (x4 + (-1))] en es ew else mM_eliminate N mr n 4 [x2, x4] en es ew))) := rfl
theorem mM_eliminate_e4 (N : Nat) (mr : Nat → Int32) (n : Nat) (x2 x4 : Int32) (en : Int32) (es : Nat → Int32) (ew : Int32) : mM_eliminate N mr (n + 1) 4 [x2, x4] en es ew = (if x4 < 0 then mM_eliminate N mr n 5 [x2, x4] en es ew else (mM_way N mr n 0 [x4, x2]).bind fun r412 => kg en 9 (kl (x2 &&& (((1 : Int32) <<< (x4 &&& 31)) ^^^ (-1))) fun x2_414 => mM_eliminate N mr n 5 [x2_414, x4] (en + 1) (upd es en.toNatClampNeg (x4 + (16 * r412))) ew)) := rfl
theorem mM_eliminate_e5 (N : Nat) (mr : Nat → Int32) (n : Nat) (x2 x4 : Int32) (en : Int32) (es : Nat → Int32) (ew : Int32) : mM_eliminate N mr (n + 1) 5 [x2, x4] en es ew = (if x4 < 0 then mM_eliminate N mr n 2 [x2, 0] en es ew else (mM_size n 0 [x2]).bind fun r512 => (if r512 ≤ 1 then mM_eliminate N mr n 2 [x2, 0] en es ew else mM_eliminate N mr n 2 [x2, 1] en es ew)) := rfl
def mM_fine (N : Nat) (mr : Nat → Int32) : Nat → Nat → List Int32 → Int32 → (Nat → Int32) → Int32 → Option (Int32 × Int32 × (Nat → Int32) × Int32)
  | n + 1, 0, [x1], en, es, ew => mM_fine N mr n 1 [x1, 1, 0] en es ew
  | n + 1, 1, [x1, x2, x3], en, es, ew => (if (nI N) ≤ x3 then kz x2 (some (x2, en, es, ew)) else (if x2 = 0 then kz x2 (some (x2, en, es, ew)) else (if ((x1 >>> (x3 &&& 31)) &&& 1) = 1 then (mM_within N mr n 0 [x3, x1]).bind fun r114 => (mM_eliminate N mr n 0 [r114] en es ew).bind fun (en_115, es_115, ew_115) => mM_fine N mr n 1 [x1, ew_115, (x3 + 1)] en_115 es_115 ew_115 else mM_fine N mr n 1 [x1, x2, (x3 + 1)] en es ew)))
  | _, _, _, _, _, _ => none
theorem mM_fine_z (N : Nat) (mr : Nat → Int32) (b : Nat) (l : List Int32) (en : Int32) (es : Nat → Int32) (ew : Int32) : mM_fine N mr 0 b l en es ew = none := by first | rfl | (cases b <;> rfl) | simp [mM_fine]
theorem mM_fine_e0 (N : Nat) (mr : Nat → Int32) (n : Nat) (x1 : Int32) (en : Int32) (es : Nat → Int32) (ew : Int32) : mM_fine N mr (n + 1) 0 [x1] en es ew = mM_fine N mr n 1 [x1, 1, 0] en es ew := rfl
theorem mM_fine_e1 (N : Nat) (mr : Nat → Int32) (n : Nat) (x1 x2 x3 : Int32) (en : Int32) (es : Nat → Int32) (ew : Int32) : mM_fine N mr (n + 1) 1 [x1, x2, x3] en es ew = (if (nI N) ≤ x3 then kz x2 (some (x2, en, es, ew)) else (if x2 = 0 then kz x2 (some (x2, en, es, ew)) else (if ((x1 >>> (x3 &&& 31)) &&& 1) = 1 then (mM_within N mr n 0 [x3, x1]).bind fun r114 => (mM_eliminate N mr n 0 [r114] en es ew).bind fun (en_115, es_115, ew_115) => mM_fine N mr n 1 [x1, ew_115, (x3 + 1)] en_115 es_115 ew_115 else mM_fine N mr n 1 [x1, x2, (x3 + 1)] en es ew))) := rfl
def mM_hereditary (N : Nat) (mr : Nat → Int32) : Nat → Nat → List Int32 → Int32 → (Nat → Int32) → Int32 → Option (Int32 × Int32 × (Nat → Int32) × Int32)
  | n + 1, 0, [x1], en, es, ew => (mM_is N n 0 [x1]).bind fun r11 => (if r11 = 0 then some ((0 : Int32), en, es, ew) else (mM_component N mr n 0 [x1]).bind fun r13 => (mM_fine N mr n 0 [r13] en es ew).bind fun (r14, en_14, es_14, ew_14) => (if r14 = 0 then some ((0 : Int32), en_14, es_14, ew_14) else some ((1 : Int32), en_14, es_14, ew_14)))
  | _, _, _, _, _, _ => none
theorem mM_hereditary_z (N : Nat) (mr : Nat → Int32) (b : Nat) (l : List Int32) (en : Int32) (es : Nat → Int32) (ew : Int32) : mM_hereditary N mr 0 b l en es ew = none := by first | rfl | (cases b <;> rfl) | simp [mM_hereditary]
theorem mM_hereditary_e0 (N : Nat) (mr : Nat → Int32) (n : Nat) (x1 : Int32) (en : Int32) (es : Nat → Int32) (ew : Int32) : mM_hereditary N mr (n + 1) 0 [x1] en es ew = (mM_is N n 0 [x1]).bind fun r11 => (if r11 = 0 then some ((0 : Int32), en, es, ew) else (mM_component N mr n 0 [x1]).bind fun r13 => (mM_fine N mr n 0 [r13] en es ew).bind fun (r14, en_14, es_14, ew_14) => (if r14 = 0 then some ((0 : Int32), en_14, es_14, ew_14) else some ((1 : Int32), en_14, es_14, ew_14))) := rfl
def mM_step (N : Nat) (mr : Nat → Int32) : Nat → Nat → List Int32 → Int32 → (Nat → Int32) → Int32 → Option (Int32 × Int32 × (Nat → Int32) × Int32)
  | n + 1, 0, [x1, x2], en, es, ew => (mM_is N n 0 [x1]).bind fun r11 => (if r11 = 0 then some ((-1 : Int32), en, es, ew) else (mM_component N mr n 0 [x1]).bind fun r13 => (mM_eliminate N mr n 0 [r13] en es ew).bind fun (en_14, es_14, ew_14) => (if x2 < 0 then some ((-1 : Int32), en_14, es_14, ew_14) else (if en_14 ≤ x2 then some ((-1 : Int32), en_14, es_14, ew_14) else kg x2 9 (some ((es_14 x2.toNatClampNeg), en_14, es_14, ew_14)))))
  | _, _, _, _, _, _ => none
theorem mM_step_z (N : Nat) (mr : Nat → Int32) (b : Nat) (l : List Int32) (en : Int32) (es : Nat → Int32) (ew : Int32) : mM_step N mr 0 b l en es ew = none := by first | rfl | (cases b <;> rfl) | simp [mM_step]
theorem mM_step_e0 (N : Nat) (mr : Nat → Int32) (n : Nat) (x1 x2 : Int32) (en : Int32) (es : Nat → Int32) (ew : Int32) : mM_step N mr (n + 1) 0 [x1, x2] en es ew = (mM_is N n 0 [x1]).bind fun r11 => (if r11 = 0 then some ((-1 : Int32), en, es, ew) else (mM_component N mr n 0 [x1]).bind fun r13 => (mM_eliminate N mr n 0 [r13] en es ew).bind fun (en_14, es_14, ew_14) => (if x2 < 0 then some ((-1 : Int32), en_14, es_14, ew_14) else (if en_14 ≤ x2 then some ((-1 : Int32), en_14, es_14, ew_14) else kg x2 9 (some ((es_14 x2.toNatClampNeg), en_14, es_14, ew_14))))) := rfl
def mM_obstruction (N : Nat) (mr : Nat → Int32) : Nat → Nat → List Int32 → Int32 → (Nat → Int32) → Int32 → Option (Int32 × Int32 × (Nat → Int32) × Int32)
  | n + 1, 0, [x1], en, es, ew => (mM_is N n 0 [x1]).bind fun r11 => (if r11 = 0 then some ((-1 : Int32), en, es, ew) else (mM_component N mr n 0 [x1]).bind fun r13 => (mM_fine N mr n 0 [r13] en es ew).bind fun (r14, en_14, es_14, ew_14) => (if r14 = 0 then (mM_component N mr n 0 [x1]).bind fun r16 => mM_obstruction N mr n 1 [r16, 0] en_14 es_14 ew_14 else some ((-1 : Int32), en_14, es_14, ew_14)))
  | n + 1, 1, [x2, x3], en, es, ew => (if (nI N) ≤ x3 then some (x2, en, es, ew) else kl (x2 &&& (((1 : Int32) <<< (x3 &&& 31)) ^^^ (-1))) fun x4_112 => (mM_fine N mr n 0 [x4_112] en es ew).bind fun (r113, en_113, es_113, ew_113) => (if r113 = 0 then mM_obstruction N mr n 1 [x4_112, (x3 + 1)] en_113 es_113 ew_113 else mM_obstruction N mr n 1 [x2, (x3 + 1)] en_113 es_113 ew_113))
  | _, _, _, _, _, _ => none
theorem mM_obstruction_z (N : Nat) (mr : Nat → Int32) (b : Nat) (l : List Int32) (en : Int32) (es : Nat → Int32) (ew : Int32) : mM_obstruction N mr 0 b l en es ew = none := by first | rfl | (cases b <;> rfl) | simp [mM_obstruction]
theorem mM_obstruction_e0 (N : Nat) (mr : Nat → Int32) (n : Nat) (x1 : Int32) (en : Int32) (es : Nat → Int32) (ew : Int32) : mM_obstruction N mr (n + 1) 0 [x1] en es ew = (mM_is N n 0 [x1]).bind fun r11 => (if r11 = 0 then some ((-1 : Int32), en, es, ew) else (mM_component N mr n 0 [x1]).bind fun r13 => (mM_fine N mr n 0 [r13] en es ew).bind fun (r14, en_14, es_14, ew_14) => (if r14 = 0 then (mM_component N mr n 0 [x1]).bind fun r16 => mM_obstruction N mr n 1 [r16, 0] en_14 es_14 ew_14 else some ((-1 : Int32), en_14, es_14, ew_14))) := rfl
theorem mM_obstruction_e1 (N : Nat) (mr : Nat → Int32) (n : Nat) (x2 x3 : Int32) (en : Int32) (es : Nat → Int32) (ew : Int32) : mM_obstruction N mr (n + 1) 1 [x2, x3] en es ew = (if (nI N) ≤ x3 then some (x2, en, es, ew) else kl (x2 &&& (((1 : Int32) <<< (x3 &&& 31)) ^^^ (-1))) fun x4_112 => (mM_fine N mr n 0 [x4_112] en es ew).bind fun (r113, en_113, es_113, ew_113) => (if r113 = 0 then mM_obstruction N mr n 1 [x4_112, (x3 + 1)] en_113 es_113 ew_113 else mM_obstruction N mr n 1 [x2, (x3 + 1)] en_113 es_113 ew_113)) := rfl
def mM_edges (N : Nat) (mr : Nat → Int32) : Nat → Nat → List Int32 → Option Int32
  | n + 1, 0, [x1] => mM_edges N mr n 1 [x1, 0, 0]
  | n + 1, 1, [x1, x2, x3] => (if (nI N) ≤ x3 then some (x2 / 2) else (if ((x1 >>> (x3 &&& 31)) &&& 1) = 1 then kg x3 9 ((mM_size n 0 [((mr x3.toNatClampNeg) &&& x1)]).bind fun r114 => mM_edges N mr n 2 [x1, x3, r114, x2]) else mM_edges N mr n 2 [x1, x3, 0, x2]))
  | n + 1, 2, [x1, x3, y0, y1] => kl (y1 + y0) fun x2_211 => mM_edges N mr n 1 [x1, x2_211, (x3 + 1)]
  | _, _, _ => none
theorem mM_edges_z (N : Nat) (mr : Nat → Int32) (b : Nat) (l : List Int32) : mM_edges N mr 0 b l = none := by first | rfl | (cases b <;> rfl) | simp [mM_edges]
theorem mM_edges_e0 (N : Nat) (mr : Nat → Int32) (n : Nat) (x1 : Int32) : mM_edges N mr (n + 1) 0 [x1] = mM_edges N mr n 1 [x1, 0, 0] := rfl
theorem mM_edges_e1 (N : Nat) (mr : Nat → Int32) (n : Nat) (x1 x2 x3 : Int32) : mM_edges N mr (n + 1) 1 [x1, x2, x3] = (if (nI N) ≤ x3 then some (x2 / 2) else (if ((x1 >>> (x3 &&& 31)) &&& 1) = 1 then kg x3 9 ((mM_size n 0 [((mr x3.toNatClampNeg) &&& x1)]).bind fun r114 => mM_edges N mr n 2 [x1, x3, r114, x2]) else mM_edges N mr n 2 [x1, x3, 0, x2])) := rfl
theorem mM_edges_e2 (N : Nat) (mr : Nat → Int32) (n : Nat) (x1 x3 y0 y1 : Int32) : mM_edges N mr (n + 1) 2 [x1, x3, y0, y1] = kl (y1 + y0) fun x2_211 => mM_edges N mr n 1 [x1, x2_211, (x3 + 1)] := rfl
def mM_obstacle (N : Nat) (mr : Nat → Int32) : Nat → Nat → List Int32 → Int32 → (Nat → Int32) → Int32 → Option (Int32 × Int32 × (Nat → Int32) × Int32)
  | n + 1, 0, [x1], en, es, ew => (mM_obstruction N mr n 0 [x1] en es ew).bind fun (r11, en_11, es_11, ew_11) => (if r11 = (-1) then some ((-1 : Int32), en_11, es_11, ew_11) else (mM_size n 0 [r11]).bind fun r13 => (mM_edges N mr n 0 [r11]).bind fun r14 => (if r14 = r13 then some ((1 : Int32), en_11, es_11, ew_11) else (if r13 = 5 then (if r14 = 6 then some ((2 : Int32), en_11, es_11, ew_11) else mM_obstacle N mr n 1 [r13] en_11 es_11 ew_11) else mM_obstacle N mr n 1 [r13] en_11 es_11 ew_11)))
  | n + 1, 1, [x3], en, es, ew => (if x3 = 5 then some ((3 : Int32), en, es, ew) else some ((4 : Int32), en, es, ew))
  | _, _, _, _, _, _ => none
theorem mM_obstacle_z (N : Nat) (mr : Nat → Int32) (b : Nat) (l : List Int32) (en : Int32) (es : Nat → Int32) (ew : Int32) : mM_obstacle N mr 0 b l en es ew = none := by first | rfl | (cases b <;> rfl) | simp [mM_obstacle]
theorem mM_obstacle_e0 (N : Nat) (mr : Nat → Int32) (n : Nat) (x1 : Int32) (en : Int32) (es : Nat → Int32) (ew : Int32) : mM_obstacle N mr (n + 1) 0 [x1] en es ew = (mM_obstruction N mr n 0 [x1] en es ew).bind fun (r11, en_11, es_11, ew_11) => (if r11 = (-1) then some ((-1 : Int32), en_11, es_11, ew_11) else (mM_size n 0 [r11]).bind fun r13 => (mM_edges N mr n 0 [r11]).bind fun r14 => (if r14 = r13 then some ((1 : Int32), en_11, es_11, ew_11) else (if r13 = 5 then (if r14 = 6 then some ((2 : Int32), en_11, es_11, ew_11) else mM_obstacle N mr n 1 [r13] en_11 es_11 ew_11) else mM_obstacle N mr n 1 [r13] en_11 es_11 ew_11))) := rfl
theorem mM_obstacle_e1 (N : Nat) (mr : Nat → Int32) (n : Nat) (x3 : Int32) (en : Int32) (es : Nat → Int32) (ew : Int32) : mM_obstacle N mr (n + 1) 1 [x3] en es ew = (if x3 = 5 then some ((3 : Int32), en, es, ew) else some ((4 : Int32), en, es, ew)) := rfl
def mM_best (N : Nat) (mr : Nat → Int32) : Nat → Nat → List Int32 → Option Int32
  | n + 1, 0, [x1, x2] => mM_best N mr n 1 [x1, x2, 0, 0, 1]
  | n + 1, 1, [x1, x2, x3, x4, x5] => (if 512 ≤ x5 then (if x2 = 0 then some x3 else some x4) else (if (x5 &&& (x1 ^^^ (-1))) = 0 then (mM_edges N mr n 0 [x5]).bind fun r114 => (if r114 = 0 then (mM_size n 0 [x5]).bind fun r116 => (if r116 ≤ x3 then mM_best N mr n 1 [x1, x2, x3, x4, (x5 + 1)] else (mM_size n 0 [x5]).bind fun r118 => mM_best N mr n 1 [x1, x2, r118, x5, (x5 + 1)]) else mM_best N mr n 1 [x1, x2, x3, x4, (x5 + 1)]) else mM_best N mr n 1 [x1, x2, x3, x4, (x5 + 1)]))
  | _, _, _ => none
theorem mM_best_z (N : Nat) (mr : Nat → Int32) (b : Nat) (l : List Int32) : mM_best N mr 0 b l = none := by first | rfl | (cases b <;> rfl) | simp [mM_best]
theorem mM_best_e0 (N : Nat) (mr : Nat → Int32) (n : Nat) (x1 x2 : Int32) : mM_best N mr (n + 1) 0 [x1, x2] = mM_best N mr n 1 [x1, x2, 0, 0, 1] := rfl
theorem mM_best_e1 (N : Nat) (mr : Nat → Int32) (n : Nat) (x1 x2 x3 x4 x5 : Int32) : mM_best N mr (n + 1) 1 [x1, x2, x3, x4, x5] = (if 512 ≤ x5 then (if x2 = 0 then some x3 else some x4) else (if (x5 &&& (x1 ^^^ (-1))) = 0 then (mM_edges N mr n 0 [x5]).bind fun r114 => (if r114 = 0 then (mM_size n 0 [x5]).bind fun r116 => (if r116 ≤ x3 then mM_best N mr n 1 [x1, x2, x3, x4, (x5 + 1)] else (mM_size n 0 [x5]).bind fun r118 => mM_best N mr n 1 [x1, x2, r118, x5, (x5 + 1)]) else mM_best N mr n 1 [x1, x2, x3, x4, (x5 + 1)]) else mM_best N mr n 1 [x1, x2, x3, x4, (x5 + 1)])) := rfl
def mM_apart (N : Nat) (mr : Nat → Int32) : Nat → Nat → List Int32 → Int32 → (Nat → Int32) → Int32 → Option (Int32 × Int32 × (Nat → Int32) × Int32)
  | n + 1, 0, [x1], en, es, ew => (mM_hereditary N mr n 0 [x1] en es ew).bind fun (r11, en_11, es_11, ew_11) => (if r11 = 0 then some ((-1 : Int32), en_11, es_11, ew_11) else (mM_component N mr n 0 [x1]).bind fun r13 => (mM_best N mr n 0 [r13, 0]).bind fun r14 => some (r14, en_11, es_11, ew_11))
  | _, _, _, _, _, _ => none
theorem mM_apart_z (N : Nat) (mr : Nat → Int32) (b : Nat) (l : List Int32) (en : Int32) (es : Nat → Int32) (ew : Int32) : mM_apart N mr 0 b l en es ew = none := by first | rfl | (cases b <;> rfl) | simp [mM_apart]
theorem mM_apart_e0 (N : Nat) (mr : Nat → Int32) (n : Nat) (x1 : Int32) (en : Int32) (es : Nat → Int32) (ew : Int32) : mM_apart N mr (n + 1) 0 [x1] en es ew = (mM_hereditary N mr n 0 [x1] en es ew).bind fun (r11, en_11, es_11, ew_11) => (if r11 = 0 then some ((-1 : Int32), en_11, es_11, ew_11) else (mM_component N mr n 0 [x1]).bind fun r13 => (mM_best N mr n 0 [r13, 0]).bind fun r14 => some (r14, en_11, es_11, ew_11)) := rfl
def mM_chosen (N : Nat) (mr : Nat → Int32) : Nat → Nat → List Int32 → Int32 → (Nat → Int32) → Int32 → Option (Int32 × Int32 × (Nat → Int32) × Int32)
  | n + 1, 0, [x1], en, es, ew => (mM_hereditary N mr n 0 [x1] en es ew).bind fun (r11, en_11, es_11, ew_11) => (if r11 = 0 then some ((-1 : Int32), en_11, es_11, ew_11) else (mM_component N mr n 0 [x1]).bind fun r13 => (mM_best N mr n 0 [r13, 1]).bind fun r14 => some (r14, en_11, es_11, ew_11))
  | _, _, _, _, _, _ => none
theorem mM_chosen_z (N : Nat) (mr : Nat → Int32) (b : Nat) (l : List Int32) (en : Int32) (es : Nat → Int32) (ew : Int32) : mM_chosen N mr 0 b l en es ew = none := by first | rfl | (cases b <;> rfl) | simp [mM_chosen]
theorem mM_chosen_e0 (N : Nat) (mr : Nat → Int32) (n : Nat) (x1 : Int32) (en : Int32) (es : Nat → Int32) (ew : Int32) : mM_chosen N mr (n + 1) 0 [x1] en es ew = (mM_hereditary N mr n 0 [x1] en es ew).bind fun (r11, en_11, es_11, ew_11) => (if r11 = 0 then some ((-1 : Int32), en_11, es_11, ew_11) else (mM_component N mr n 0 [x1]).bind fun r13 => (mM_best N mr n 0 [r13, 1]).bind fun r14 => some (r14, en_11, es_11, ew_11)) := rfl
def mM_clique (N : Nat) (mr : Nat → Int32) : Nat → Nat → List Int32 → Option Int32
  | n + 1, 0, [x1] => (mM_size n 0 [x1]).bind fun r11 => (mM_edges N mr n 0 [x1]).bind fun r12 => (if r12 = ((r11 * (r11 - 1)) / 2) then some (1 : Int32) else some (0 : Int32))
  | _, _, _ => none
theorem mM_clique_z (N : Nat) (mr : Nat → Int32) (b : Nat) (l : List Int32) : mM_clique N mr 0 b l = none := by first | rfl | (cases b <;> rfl) | simp [mM_clique]
theorem mM_clique_e0 (N : Nat) (mr : Nat → Int32) (n : Nat) (x1 : Int32) : mM_clique N mr (n + 1) 0 [x1] = (mM_size n 0 [x1]).bind fun r11 => (mM_edges N mr n 0 [x1]).bind fun r12 => (if r12 = ((r11 * (r11 - 1)) / 2) then some (1 : Int32) else some (0 : Int32)) := rfl
def mM_cover (N : Nat) (mr : Nat → Int32) : Nat → Nat → List Int32 → Int32 → (Nat → Int32) → Int32 → (Nat → Int32) → Option (Int32 × Int32 × (Nat → Int32) × Int32 × (Nat → Int32))
  | n + 1, 0, [x1], en, es, ew, cv => (mM_hereditary N mr n 0 [x1] en es ew).bind fun (r11, en_11, es_11, ew_11) => (if r11 = 0 then some ((-1 : Int32), en_11, es_11, ew_11, cv) else (mM_component N mr n 0 [x1]).bind fun r13 => kg 0 512 (mM_cover N mr n 1 [r13, 1] en_11 es_11 ew_11 (upd cv (0 : Int32).toNatClampNeg 0)))
  | n + 1, 1, [x2, x3], en, es, ew, cv => (if 512 ≤ x3 then kg x2 512 (some ((cv x2.toNatClampNeg), en, es, ew, cv)) else kg x3 512 ((if (x3 &&& (x2 ^^^ (-1))) = 0 then mM_cover N mr n 2 [x2, x3, x3] en es ew (upd cv x3.toNatClampNeg 9) else mM_cover N mr n 1 [x2, (x3 + 1)] en es ew (upd cv x3.toNatClampNeg 9))))
  | n + 1, 2, [x2, x3, x4], en, es, ew, cv => (if x4 ≤ 0 then mM_cover N mr n 1 [x2, (x3 + 1)] en es ew cv else (mM_least n 0 [x3]).bind fun r212 => (if ((x4 >>> (r212 &&& 31)) &&& 1) = 1 then kg (x3 &&& (x4 ^^^ (-1))) 512 (kg x3 512 ((if ((cv x3.toNatClampNeg) - 1) ≤ (cv (x3 &&& (x4 ^^^ (-1))).toNatClampNeg) then mM_cover N mr n 3 [x2, x3, x4] en es ew cv else (mM_clique N mr n 0 [x4]).bind fun r217 => (if r217 = 0 then mM_cover N mr n 3 [x2, x3, x4] en es ew cv else mM_cover N mr n 4 [x2, x3, x4, 1] en es ew cv)))) else mM_cover N mr n 3 [x2, x3, x4] en es ew cv))
  | n + 1, 3, [x2, x3, x4], en, es, ew, cv => mM_cover N mr n 4 [x2, x3, x4, 0] en es ew cv
  | n + 1, 4, [x2, x3, x4, y0], en, es, ew, cv => (if y0 = 0 then kg x3 512 (mM_cover N mr n 5 [x2, x3, x4, (cv x3.toNatClampNeg), x3] en es ew cv) else kg (x3 &&& (x4 ^^^ (-1))) 512 (mM_cover N mr n 5 [x2, x3, x4, ((cv (x3 &&& (x4 ^^^ (-1))).toNatClampNeg) + 1), x3] en es ew cv))
  | n + 1, 5, [x2, x3, x4, y0, y1], en, es, ew, cv => kg y1 512 (kl ((x4 - 1) &&& x3) fun x4_512 => mM_cover N mr n 2 [x2, x3, x4_512] en es ew (upd cv y1.toNatClampNeg y0))
  | _, _, _, _, _, _, _ => none
theorem mM_cover_z (N : Nat) (mr : Nat → Int32) (b : Nat) (l : List Int32) (en : Int32) (es : Nat → Int32) (ew : Int32) (cv : Nat → Int32) : mM_cover N mr 0 b l en es ew cv = none := by first | rfl | (cases b <;> rfl) | simp [mM_cover]
theorem mM_cover_e0 (N : Nat) (mr : Nat → Int32) (n : Nat) (x1 : Int32) (en : Int32) (es : Nat → Int32) (ew : Int32) (cv : Nat → Int32) : mM_cover N mr (n + 1) 0 [x1] en es ew cv = (mM_hereditary N mr n 0 [x1] en es ew).bind fun (r11, en_11, es_11, ew_11) => (if r11 = 0 then some ((-1 : Int32), en_11, es_11, ew_11, cv) else (mM_component N mr n 0 [x1]).bind fun r13 => kg 0 512 (mM_cover N mr n 1 [r13, 1] en_11 es_11 ew_11 (upd cv (0 : Int32).toNatClampNeg 0))) := rfl
theorem mM_cover_e1 (N : Nat) (mr : Nat → Int32) (n : Nat) (x2 x3 : Int32) (en : Int32) (es : Nat → Int32) (ew : Int32) (cv : Nat → Int32) : mM_cover N mr (n + 1) 1 [x2, x3] en es ew cv = (if 512 ≤ x3 then kg x2 512 (some ((cv x2.toNatClampNeg), en, es, ew, cv)) else kg x3 512 ((if (x3 &&& (x2 ^^^ (-1))) = 0 then mM_cover N mr n 2 [x2, x3, x3] en es ew (upd cv x3.toNatClampNeg 9) else mM_cover N mr n 1 [x2, (x3 + 1)] en es ew (upd cv x3.toNatClampNeg 9)))) := rfl
theorem mM_cover_e2 (N : Nat) (mr : Nat → Int32) (n : Nat) (x2 x3 x4 : Int32) (en : Int32) (es : Nat → Int32) (ew : Int32) (cv : Nat → Int32) : mM_cover N mr (n + 1) 2 [x2, x3, x4] en es ew cv = (if x4 ≤ 0 then mM_cover N mr n 1 [x2, (x3 + 1)] en es ew cv else (mM_least n 0 [x3]).bind fun r212 => (if ((x4 >>> (r212 &&& 31)) &&& 1) = 1 then kg (x3 &&& (x4 ^^^ (-1))) 512 (kg x3 512 ((if ((cv x3.toNatClampNeg) - 1) ≤ (cv (x3 &&& (x4 ^^^ (-1))).toNatClampNeg) then mM_cover N mr n 3 [x2, x3, x4] en es ew cv else (mM_clique N mr n 0 [x4]).bind fun r217 => (if r217 = 0 then mM_cover N mr n 3 [x2, x3, x4] en es ew cv else mM_cover N mr n 4 [x2, x3, x4, 1] en es ew cv)))) else mM_cover N mr n 3 [x2, x3, x4] en es ew cv)) := rfl
theorem mM_cover_e3 (N : Nat) (mr : Nat → Int32) (n : Nat) (x2 x3 x4 : Int32) (en : Int32) (es : Nat → Int32) (ew : Int32) (cv : Nat → Int32) : mM_cover N mr (n + 1) 3 [x2, x3, x4] en es ew cv = mM_cover N mr n 4 [x2, x3, x4, 0] en es ew cv := rfl
theorem mM_cover_e4 (N : Nat) (mr : Nat → Int32) (n : Nat) (x2 x3 x4 y0 : Int32) (en : Int32) (es : Nat → Int32) (ew : Int32) (cv : Nat → Int32) : mM_cover N mr (n + 1) 4 [x2, x3, x4, y0] en es ew cv = (if y0 = 0 then kg x3 512 (mM_cover N mr n 5 [x2, x3, x4, (cv x3.toNatClampNeg), x3] en es ew cv) else kg (x3 &&& (x4 ^^^ (-1))) 512 (mM_cover N mr n 5 [x2, x3, x4, ((cv (x3 &&& (x4 ^^^ (-1))).toNatClampNeg) + 1), x3] en es ew cv)) := rfl
theorem mM_cover_e5 (N : Nat) (mr : Nat → Int32) (n : Nat) (x2 x3 x4 y0 y1 : Int32) (en : Int32) (es : Nat → Int32) (ew : Int32) (cv : Nat → Int32) : mM_cover N mr (n + 1) 5 [x2, x3, x4, y0, y1] en es ew cv = kg y1 512 (kl ((x4 - 1) &&& x3) fun x4_512 => mM_cover N mr n 2 [x2, x3, x4_512] en es ew (upd cv y1.toNatClampNeg y0)) := rfl
end
