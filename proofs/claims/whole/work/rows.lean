section
-- ===== PART A: goes FIRST, ahead of the names: the tables' words, and 'selects' of the private methods out of them =====
/-- a private method of a class that the tables say can be made, by its rows of tables_1 -/
def lw_okq (q : MethodName × Nat) : Prop := (q.1.cls ≠ "java/lang/invoke/MethodHandle" ∧ q.1.cls ≠ "java/lang/invoke/VarHandle") ∧ Cond.instantiable q.1.cls q.2 ∈ tables_1 ∧ Cond.privateMethod q.1 ∈ tables_1 ∧ Cond.instanceMethod q.1 ∈ tables_1
theorem lw_p0 : lw_okq (⟨"SplitForest", "componentOf", "(I)I"⟩, 4) := ⟨⟨by decide +kernel, by decide +kernel⟩, List.mem_of_getElem? (i := 10) (by decide +kernel), List.mem_of_getElem? (i := 156) (by decide +kernel), List.mem_of_getElem? (i := 157) (by decide +kernel)⟩
theorem lw_p1 : lw_okq (⟨"SplitForest$Graph", "nearToAny", "(II)I"⟩, 2) := ⟨⟨by decide +kernel, by decide +kernel⟩, List.mem_of_getElem? (i := 18) (by decide +kernel), List.mem_of_getElem? (i := 168) (by decide +kernel), List.mem_of_getElem? (i := 169) (by decide +kernel)⟩
theorem lw_p2 : lw_okq (⟨"SplitForest", "treeOf", "(I)LSplitForest$SplitTree;"⟩, 4) := ⟨⟨by decide +kernel, by decide +kernel⟩, List.mem_of_getElem? (i := 10) (by decide +kernel), List.mem_of_getElem? (i := 176) (by decide +kernel), List.mem_of_getElem? (i := 177) (by decide +kernel)⟩
theorem lw_p3 : lw_okq (⟨"SplitForest$SplitTree", "findSplits", "()V"⟩, 10) := ⟨⟨by decide +kernel, by decide +kernel⟩, List.mem_of_getElem? (i := 32) (by decide +kernel), List.mem_of_getElem? (i := 184) (by decide +kernel), List.mem_of_getElem? (i := 185) (by decide +kernel)⟩
theorem lw_p4 : lw_okq (⟨"SplitForest$SplitTree", "isSplit", "(II)Z"⟩, 10) := ⟨⟨by decide +kernel, by decide +kernel⟩, List.mem_of_getElem? (i := 32) (by decide +kernel), List.mem_of_getElem? (i := 188) (by decide +kernel), List.mem_of_getElem? (i := 189) (by decide +kernel)⟩
theorem lw_p5 : lw_okq (⟨"SplitForest$SplitTree", "findNodes", "()V"⟩, 10) := ⟨⟨by decide +kernel, by decide +kernel⟩, List.mem_of_getElem? (i := 32) (by decide +kernel), List.mem_of_getElem? (i := 203) (by decide +kernel), List.mem_of_getElem? (i := 204) (by decide +kernel)⟩
theorem lw_p6 : lw_okq (⟨"SplitForest$SplitTree", "isStrong", "(I)Z"⟩, 10) := ⟨⟨by decide +kernel, by decide +kernel⟩, List.mem_of_getElem? (i := 32) (by decide +kernel), List.mem_of_getElem? (i := 207) (by decide +kernel), List.mem_of_getElem? (i := 208) (by decide +kernel)⟩
theorem lw_p7 : lw_okq (⟨"SplitForest", "hasNode", "(II)Z"⟩, 4) := ⟨⟨by decide +kernel, by decide +kernel⟩, List.mem_of_getElem? (i := 10) (by decide +kernel), List.mem_of_getElem? (i := 227) (by decide +kernel), List.mem_of_getElem? (i := 228) (by decide +kernel)⟩
theorem lw_p8 : lw_okq (⟨"SplitForest$SplitTree", "findJoins", "(I)V"⟩, 10) := ⟨⟨by decide +kernel, by decide +kernel⟩, List.mem_of_getElem? (i := 32) (by decide +kernel), List.mem_of_getElem? (i := 243) (by decide +kernel), List.mem_of_getElem? (i := 244) (by decide +kernel)⟩
theorem lw_p9 : lw_okq (⟨"SplitForest$SplitTree", "findParts", "(I)V"⟩, 10) := ⟨⟨by decide +kernel, by decide +kernel⟩, List.mem_of_getElem? (i := 32) (by decide +kernel), List.mem_of_getElem? (i := 247) (by decide +kernel), List.mem_of_getElem? (i := 248) (by decide +kernel)⟩
theorem lw_p10 : lw_okq (⟨"SplitForest$SplitTree", "partWith", "(II)I"⟩, 10) := ⟨⟨by decide +kernel, by decide +kernel⟩, List.mem_of_getElem? (i := 32) (by decide +kernel), List.mem_of_getElem? (i := 251) (by decide +kernel), List.mem_of_getElem? (i := 252) (by decide +kernel)⟩
theorem lw_p11 : lw_okq (⟨"SplitForest$SplitTree", "addPart", "(I)V"⟩, 10) := ⟨⟨by decide +kernel, by decide +kernel⟩, List.mem_of_getElem? (i := 32) (by decide +kernel), List.mem_of_getElem? (i := 255) (by decide +kernel), List.mem_of_getElem? (i := 256) (by decide +kernel)⟩
theorem lw_p12 : lw_okq (⟨"SplitForest$SplitTree", "centreIndex", "()I"⟩, 10) := ⟨⟨by decide +kernel, by decide +kernel⟩, List.mem_of_getElem? (i := 32) (by decide +kernel), List.mem_of_getElem? (i := 263) (by decide +kernel), List.mem_of_getElem? (i := 264) (by decide +kernel)⟩
theorem lw_p13 : lw_okq (⟨"SplitForest$Elimination", "run", "(I)V"⟩, 4) := ⟨⟨by decide +kernel, by decide +kernel⟩, List.mem_of_getElem? (i := 73) (by decide +kernel), List.mem_of_getElem? (i := 311) (by decide +kernel), List.mem_of_getElem? (i := 312) (by decide +kernel)⟩
theorem lw_p14 : lw_okq (⟨"SplitForest$Elimination", "nextStep", "()I"⟩, 4) := ⟨⟨by decide +kernel, by decide +kernel⟩, List.mem_of_getElem? (i := 73) (by decide +kernel), List.mem_of_getElem? (i := 315) (by decide +kernel), List.mem_of_getElem? (i := 316) (by decide +kernel)⟩
theorem lw_p15 : lw_okq (⟨"SplitForest$Elimination", "stepAt", "(I)I"⟩, 4) := ⟨⟨by decide +kernel, by decide +kernel⟩, List.mem_of_getElem? (i := 73) (by decide +kernel), List.mem_of_getElem? (i := 319) (by decide +kernel), List.mem_of_getElem? (i := 320) (by decide +kernel)⟩
def lw_privs_1 : List (MethodName × Nat) := [(⟨"SplitForest", "componentOf", "(I)I"⟩, 4), (⟨"SplitForest$Graph", "nearToAny", "(II)I"⟩, 2), (⟨"SplitForest", "treeOf", "(I)LSplitForest$SplitTree;"⟩, 4), (⟨"SplitForest$SplitTree", "findSplits", "()V"⟩, 10), (⟨"SplitForest$SplitTree", "isSplit", "(II)Z"⟩, 10), (⟨"SplitForest$SplitTree", "findNodes", "()V"⟩, 10), (⟨"SplitForest$SplitTree", "isStrong", "(I)Z"⟩, 10), (⟨"SplitForest", "hasNode", "(II)Z"⟩, 4), (⟨"SplitForest$SplitTree", "findJoins", "(I)V"⟩, 10), (⟨"SplitForest$SplitTree", "findParts", "(I)V"⟩, 10), (⟨"SplitForest$SplitTree", "partWith", "(II)I"⟩, 10), (⟨"SplitForest$SplitTree", "addPart", "(I)V"⟩, 10), (⟨"SplitForest$SplitTree", "centreIndex", "()I"⟩, 10), (⟨"SplitForest$Elimination", "run", "(I)V"⟩, 4), (⟨"SplitForest$Elimination", "nextStep", "()I"⟩, 4), (⟨"SplitForest$Elimination", "stepAt", "(I)I"⟩, 4)]
theorem lw_r1 : ∀ q ∈ lw_privs_1, lw_okq q := List.forall_mem_cons.mpr ⟨lw_p0, List.forall_mem_cons.mpr ⟨lw_p1, List.forall_mem_cons.mpr ⟨lw_p2, List.forall_mem_cons.mpr ⟨lw_p3, List.forall_mem_cons.mpr ⟨lw_p4, List.forall_mem_cons.mpr ⟨lw_p5, List.forall_mem_cons.mpr ⟨lw_p6, List.forall_mem_cons.mpr ⟨lw_p7, List.forall_mem_cons.mpr ⟨lw_p8, List.forall_mem_cons.mpr ⟨lw_p9, List.forall_mem_cons.mpr ⟨lw_p10, List.forall_mem_cons.mpr ⟨lw_p11, List.forall_mem_cons.mpr ⟨lw_p12, List.forall_mem_cons.mpr ⟨lw_p13, List.forall_mem_cons.mpr ⟨lw_p14, List.forall_mem_cons.mpr ⟨lw_p15, fun _ h => absurd h List.not_mem_nil⟩⟩⟩⟩⟩⟩⟩⟩⟩⟩⟩⟩⟩⟩⟩⟩
theorem lw_p16 : lw_okq (⟨"SplitForest$Choice", "coverWith", "(II)V"⟩, 2) := ⟨⟨by decide +kernel, by decide +kernel⟩, List.mem_of_getElem? (i := 93) (by decide +kernel), List.mem_of_getElem? (i := 383) (by decide +kernel), List.mem_of_getElem? (i := 384) (by decide +kernel)⟩
theorem lw_p17 : lw_okq (⟨"SplitForest$Choice", "fewestWith", "(II)I"⟩, 2) := ⟨⟨by decide +kernel, by decide +kernel⟩, List.mem_of_getElem? (i := 93) (by decide +kernel), List.mem_of_getElem? (i := 387) (by decide +kernel), List.mem_of_getElem? (i := 388) (by decide +kernel)⟩
theorem lw_p18 : lw_okq (⟨"SplitForestModel", "is", "(I)Z"⟩, 12) := ⟨⟨by decide +kernel, by decide +kernel⟩, List.mem_of_getElem? (i := 398) (by decide +kernel), List.mem_of_getElem? (i := 449) (by decide +kernel), List.mem_of_getElem? (i := 450) (by decide +kernel)⟩
theorem lw_p19 : lw_okq (⟨"SplitForestModel", "within", "(II)I"⟩, 12) := ⟨⟨by decide +kernel, by decide +kernel⟩, List.mem_of_getElem? (i := 398) (by decide +kernel), List.mem_of_getElem? (i := 461) (by decide +kernel), List.mem_of_getElem? (i := 462) (by decide +kernel)⟩
theorem lw_p20 : lw_okq (⟨"SplitForestModel", "find", "(I)V"⟩, 12) := ⟨⟨by decide +kernel, by decide +kernel⟩, List.mem_of_getElem? (i := 398) (by decide +kernel), List.mem_of_getElem? (i := 470) (by decide +kernel), List.mem_of_getElem? (i := 471) (by decide +kernel)⟩
theorem lw_p21 : lw_okq (⟨"SplitForestModel", "complete", "(II)Z"⟩, 12) := ⟨⟨by decide +kernel, by decide +kernel⟩, List.mem_of_getElem? (i := 398) (by decide +kernel), List.mem_of_getElem? (i := 480) (by decide +kernel), List.mem_of_getElem? (i := 481) (by decide +kernel)⟩
theorem lw_p22 : lw_okq (⟨"SplitForestModel", "nodeSet", "(II)I"⟩, 12) := ⟨⟨by decide +kernel, by decide +kernel⟩, List.mem_of_getElem? (i := 398) (by decide +kernel), List.mem_of_getElem? (i := 495) (by decide +kernel), List.mem_of_getElem? (i := 496) (by decide +kernel)⟩
theorem lw_p23 : lw_okq (⟨"SplitForestModel", "open", "(II)Z"⟩, 12) := ⟨⟨by decide +kernel, by decide +kernel⟩, List.mem_of_getElem? (i := 398) (by decide +kernel), List.mem_of_getElem? (i := 503) (by decide +kernel), List.mem_of_getElem? (i := 504) (by decide +kernel)⟩
theorem lw_p24 : lw_okq (⟨"SplitForestModel", "isPart", "(IIIZ)Z"⟩, 12) := ⟨⟨by decide +kernel, by decide +kernel⟩, List.mem_of_getElem? (i := 398) (by decide +kernel), List.mem_of_getElem? (i := 507) (by decide +kernel), List.mem_of_getElem? (i := 508) (by decide +kernel)⟩
theorem lw_p25 : lw_okq (⟨"SplitForestModel", "middle", "()I"⟩, 12) := ⟨⟨by decide +kernel, by decide +kernel⟩, List.mem_of_getElem? (i := 398) (by decide +kernel), List.mem_of_getElem? (i := 514) (by decide +kernel), List.mem_of_getElem? (i := 515) (by decide +kernel)⟩
theorem lw_p26 : lw_okq (⟨"SplitForestModel", "links", "(I)I"⟩, 12) := ⟨⟨by decide +kernel, by decide +kernel⟩, List.mem_of_getElem? (i := 398) (by decide +kernel), List.mem_of_getElem? (i := 518) (by decide +kernel), List.mem_of_getElem? (i := 519) (by decide +kernel)⟩
theorem lw_p27 : lw_okq (⟨"SplitForestModel", "joined", "(II)Z"⟩, 12) := ⟨⟨by decide +kernel, by decide +kernel⟩, List.mem_of_getElem? (i := 398) (by decide +kernel), List.mem_of_getElem? (i := 522) (by decide +kernel), List.mem_of_getElem? (i := 523) (by decide +kernel)⟩
theorem lw_p28 : lw_okq (⟨"SplitForestModel", "partOf", "(I)I"⟩, 12) := ⟨⟨by decide +kernel, by decide +kernel⟩, List.mem_of_getElem? (i := 398) (by decide +kernel), List.mem_of_getElem? (i := 542) (by decide +kernel), List.mem_of_getElem? (i := 543) (by decide +kernel)⟩
theorem lw_p29 : lw_okq (⟨"SplitForestModel", "fine", "(I)Z"⟩, 12) := ⟨⟨by decide +kernel, by decide +kernel⟩, List.mem_of_getElem? (i := 398) (by decide +kernel), List.mem_of_getElem? (i := 550) (by decide +kernel), List.mem_of_getElem? (i := 551) (by decide +kernel)⟩
theorem lw_p30 : lw_okq (⟨"SplitForestModel", "eliminate", "(I)V"⟩, 12) := ⟨⟨by decide +kernel, by decide +kernel⟩, List.mem_of_getElem? (i := 398) (by decide +kernel), List.mem_of_getElem? (i := 554) (by decide +kernel), List.mem_of_getElem? (i := 555) (by decide +kernel)⟩
theorem lw_p31 : lw_okq (⟨"SplitForestModel", "way", "(II)I"⟩, 12) := ⟨⟨by decide +kernel, by decide +kernel⟩, List.mem_of_getElem? (i := 398) (by decide +kernel), List.mem_of_getElem? (i := 558) (by decide +kernel), List.mem_of_getElem? (i := 559) (by decide +kernel)⟩
def lw_privs_2 : List (MethodName × Nat) := [(⟨"SplitForest$Choice", "coverWith", "(II)V"⟩, 2), (⟨"SplitForest$Choice", "fewestWith", "(II)I"⟩, 2), (⟨"SplitForestModel", "is", "(I)Z"⟩, 12), (⟨"SplitForestModel", "within", "(II)I"⟩, 12), (⟨"SplitForestModel", "find", "(I)V"⟩, 12), (⟨"SplitForestModel", "complete", "(II)Z"⟩, 12), (⟨"SplitForestModel", "nodeSet", "(II)I"⟩, 12), (⟨"SplitForestModel", "open", "(II)Z"⟩, 12), (⟨"SplitForestModel", "isPart", "(IIIZ)Z"⟩, 12), (⟨"SplitForestModel", "middle", "()I"⟩, 12), (⟨"SplitForestModel", "links", "(I)I"⟩, 12), (⟨"SplitForestModel", "joined", "(II)Z"⟩, 12), (⟨"SplitForestModel", "partOf", "(I)I"⟩, 12), (⟨"SplitForestModel", "fine", "(I)Z"⟩, 12), (⟨"SplitForestModel", "eliminate", "(I)V"⟩, 12), (⟨"SplitForestModel", "way", "(II)I"⟩, 12)]
theorem lw_r2 : ∀ q ∈ lw_privs_2, lw_okq q := List.forall_mem_cons.mpr ⟨lw_p16, List.forall_mem_cons.mpr ⟨lw_p17, List.forall_mem_cons.mpr ⟨lw_p18, List.forall_mem_cons.mpr ⟨lw_p19, List.forall_mem_cons.mpr ⟨lw_p20, List.forall_mem_cons.mpr ⟨lw_p21, List.forall_mem_cons.mpr ⟨lw_p22, List.forall_mem_cons.mpr ⟨lw_p23, List.forall_mem_cons.mpr ⟨lw_p24, List.forall_mem_cons.mpr ⟨lw_p25, List.forall_mem_cons.mpr ⟨lw_p26, List.forall_mem_cons.mpr ⟨lw_p27, List.forall_mem_cons.mpr ⟨lw_p28, List.forall_mem_cons.mpr ⟨lw_p29, List.forall_mem_cons.mpr ⟨lw_p30, List.forall_mem_cons.mpr ⟨lw_p31, fun _ h => absurd h List.not_mem_nil⟩⟩⟩⟩⟩⟩⟩⟩⟩⟩⟩⟩⟩⟩⟩⟩
theorem lw_p32 : lw_okq (⟨"SplitForestModel", "edges", "(I)I"⟩, 12) := ⟨⟨by decide +kernel, by decide +kernel⟩, List.mem_of_getElem? (i := 398) (by decide +kernel), List.mem_of_getElem? (i := 575) (by decide +kernel), List.mem_of_getElem? (i := 576) (by decide +kernel)⟩
theorem lw_p33 : lw_okq (⟨"SplitForestModel", "best", "(IZ)I"⟩, 12) := ⟨⟨by decide +kernel, by decide +kernel⟩, List.mem_of_getElem? (i := 398) (by decide +kernel), List.mem_of_getElem? (i := 584) (by decide +kernel), List.mem_of_getElem? (i := 585) (by decide +kernel)⟩
theorem lw_p34 : lw_okq (⟨"SplitForestModel", "clique", "(I)Z"⟩, 12) := ⟨⟨by decide +kernel, by decide +kernel⟩, List.mem_of_getElem? (i := 398) (by decide +kernel), List.mem_of_getElem? (i := 596) (by decide +kernel), List.mem_of_getElem? (i := 597) (by decide +kernel)⟩
def lw_privs_3 : List (MethodName × Nat) := [(⟨"SplitForestModel", "edges", "(I)I"⟩, 12), (⟨"SplitForestModel", "best", "(IZ)I"⟩, 12), (⟨"SplitForestModel", "clique", "(I)Z"⟩, 12)]
theorem lw_r3 : ∀ q ∈ lw_privs_3, lw_okq q := List.forall_mem_cons.mpr ⟨lw_p32, List.forall_mem_cons.mpr ⟨lw_p33, List.forall_mem_cons.mpr ⟨lw_p34, fun _ h => absurd h List.not_mem_nil⟩⟩⟩
def lw_privs : List (MethodName × Nat) := lw_privs_1 ++ (lw_privs_2 ++ (lw_privs_3))
def lw_tbl : List Cond := k2_sels lw_privs ++ tables_1
theorem lw_privs_ok : ∀ q ∈ lw_privs, lw_okq q := by
  show ∀ q ∈ lw_privs_1 ++ (lw_privs_2 ++ (lw_privs_3)), lw_okq q
  exact List.forall_mem_append.mpr ⟨lw_r1, List.forall_mem_append.mpr ⟨lw_r2, lw_r3⟩⟩
end
section
/-! names: classes, fields, methods (by program out of the Statement and the listing) -/
def RXC : String := "SplitForest$Choice"
def TXC : u_T := fun k => match k with
  | 0 => ("SplitForest$Choice", "graph", "LSplitForest$Graph;", true)
  | _ => ("SplitForest$Choice", "fewest", "[I", true)
def tyXC : Nat → FieldType := fun k => match k with
  | 0 => .object "SplitForest$Graph"
  | _ => .array .int
abbrev wsXC0 : List Cond := u_ws RXC TXC 2
theorem nXC : ∀ a, a < 2 → ∀ b, b < 2 → a ≠ b → (TXC a).2.1 ≠ (TXC b).2.1 := by decide +kernel
theorem tyXC_ok : ∀ k, k < 2 → parseFieldDescriptor (TXC k).2.2.1 = some (tyXC k) := by decide +kernel
def RXE : String := "SplitForest$Elimination"
def TXE : u_T := fun k => match k with
  | 0 => ("SplitForest$Elimination", "graph", "LSplitForest$Graph;", true)
  | 1 => ("SplitForest$Elimination", "steps", "[I", true)
  | 2 => ("SplitForest$Elimination", "stepCount", "I", false)
  | _ => ("SplitForest$Elimination", "left", "I", false)
def tyXE : Nat → FieldType := fun k => match k with
  | 0 => .object "SplitForest$Graph"
  | 1 => .array .int
  | 2 => .int
  | _ => .int
abbrev wsXE0 : List Cond := u_ws RXE TXE 4
theorem nXE : ∀ a, a < 4 → ∀ b, b < 4 → a ≠ b → (TXE a).2.1 ≠ (TXE b).2.1 := by decide +kernel
theorem tyXE_ok : ∀ k, k < 4 → parseFieldDescriptor (TXE k).2.2.1 = some (tyXE k) := by decide +kernel
def RXG : String := "SplitForest$Graph"
def TXG : u_T := fun k => match k with
  | 0 => ("SplitForest$Graph", "size", "I", true)
  | _ => ("SplitForest$Graph", "near", "[I", true)
def tyXG : Nat → FieldType := fun k => match k with
  | 0 => .int
  | _ => .array .int
abbrev wsXG0 : List Cond := u_ws RXG TXG 2
theorem nXG : ∀ a, a < 2 → ∀ b, b < 2 → a ≠ b → (TXG a).2.1 ≠ (TXG b).2.1 := by decide +kernel
theorem tyXG_ok : ∀ k, k < 2 → parseFieldDescriptor (TXG k).2.2.1 = some (tyXG k) := by decide +kernel
def RXT : String := "SplitForest$SplitTree"
def TXT : u_T := fun k => match k with
  | 0 => ("SplitForest$SplitTree", "graph", "LSplitForest$Graph;", true)
  | 1 => ("SplitForest$SplitTree", "splitSets", "[I", true)
  | 2 => ("SplitForest$SplitTree", "splitCount", "I", false)
  | 3 => ("SplitForest$SplitTree", "nodeSets", "[I", true)
  | 4 => ("SplitForest$SplitTree", "nodeCount", "I", false)
  | 5 => ("SplitForest$SplitTree", "partSets", "[I", true)
  | 6 => ("SplitForest$SplitTree", "degrees", "[I", true)
  | 7 => ("SplitForest$SplitTree", "partCount", "I", false)
  | 8 => ("SplitForest$SplitTree", "pairsJoined", "I", false)
  | _ => ("SplitForest$SplitTree", "whole", "I", false)
def tyXT : Nat → FieldType := fun k => match k with
  | 0 => .object "SplitForest$Graph"
  | 1 => .array .int
  | 2 => .int
  | 3 => .array .int
  | 4 => .int
  | 5 => .array .int
  | 6 => .array .int
  | 7 => .int
  | 8 => .int
  | _ => .int
abbrev wsXT0 : List Cond := u_ws RXT TXT 10
theorem nXT : ∀ a, a < 10 → ∀ b, b < 10 → a ≠ b → (TXT a).2.1 ≠ (TXT b).2.1 := by decide +kernel
theorem tyXT_ok : ∀ k, k < 10 → parseFieldDescriptor (TXT k).2.2.1 = some (tyXT k) := by decide +kernel
def RXF : String := "SplitForest"
def TXF : u_T := fun k => match k with
  | 0 => ("SplitForest", "graph", "LSplitForest$Graph;", true)
  | 1 => ("SplitForest", "tree", "LSplitForest$SplitTree;", true)
  | 2 => ("SplitForest", "elimination", "LSplitForest$Elimination;", true)
  | _ => ("SplitForest", "choice", "LSplitForest$Choice;", true)
def tyXF : Nat → FieldType := fun k => match k with
  | 0 => .object "SplitForest$Graph"
  | 1 => .object "SplitForest$SplitTree"
  | 2 => .object "SplitForest$Elimination"
  | _ => .object "SplitForest$Choice"
abbrev wsXF0 : List Cond := u_ws RXF TXF 4
theorem nXF : ∀ a, a < 4 → ∀ b, b < 4 → a ≠ b → (TXF a).2.1 ≠ (TXF b).2.1 := by decide +kernel
theorem tyXF_ok : ∀ k, k < 4 → parseFieldDescriptor (TXF k).2.2.1 = some (tyXF k) := by decide +kernel
def RXM : String := "SplitForestModel"
def TXM : u_T := fun k => match k with
  | 0 => ("SplitForestModel", "n", "I", true)
  | 1 => ("SplitForestModel", "near", "[I", true)
  | 2 => ("SplitForestModel", "splits", "I", false)
  | 3 => ("SplitForestModel", "split", "[I", true)
  | 4 => ("SplitForestModel", "strongs", "I", false)
  | 5 => ("SplitForestModel", "strong", "[I", true)
  | 6 => ("SplitForestModel", "parts", "I", false)
  | 7 => ("SplitForestModel", "part", "[I", true)
  | 8 => ("SplitForestModel", "steps", "I", false)
  | 9 => ("SplitForestModel", "step", "[I", true)
  | 10 => ("SplitForestModel", "whole", "Z", false)
  | _ => ("SplitForestModel", "covers", "[I", true)
def tyXM : Nat → FieldType := fun k => match k with
  | 0 => .int
  | 1 => .array .int
  | 2 => .int
  | 3 => .array .int
  | 4 => .int
  | 5 => .array .int
  | 6 => .int
  | 7 => .array .int
  | 8 => .int
  | 9 => .array .int
  | 10 => .boolean
  | _ => .array .int
abbrev wsXM0 : List Cond := u_ws RXM TXM 12
theorem nXM : ∀ a, a < 12 → ∀ b, b < 12 → a ≠ b → (TXM a).2.1 ≠ (TXM b).2.1 := by decide +kernel
theorem tyXM_ok : ∀ k, k < 12 → parseFieldDescriptor (TXM k).2.2.1 = some (tyXM k) := by decide +kernel
def RXJ : String := "java/lang/Integer"
def RXL : String := "SplitForestLaw"
abbrev cXF_init : ByteArray := prog_1_method_1_code
def yXF_init : MethodName := ⟨RXF, "<init>", "(I)V"⟩
abbrev cXG_init : ByteArray := prog_4_method_1_code
def yXG_init : MethodName := ⟨RXG, "<init>", "(I)V"⟩
abbrev cXT_init : ByteArray := prog_5_method_1_code
def yXT_init : MethodName := ⟨RXT, "<init>", "(LSplitForest$Graph;)V"⟩
abbrev cXG_size : ByteArray := prog_4_method_2_code
def yXG_size : MethodName := ⟨RXG, "size", "()I"⟩
abbrev cXE_init : ByteArray := prog_3_method_1_code
def yXE_init : MethodName := ⟨RXE, "<init>", "(LSplitForest$Graph;)V"⟩
abbrev cXC_init : ByteArray := prog_2_method_1_code
def yXC_init : MethodName := ⟨RXC, "<init>", "(LSplitForest$Graph;)V"⟩
abbrev cXF_vertices : ByteArray := prog_1_method_2_code
def yXF_vertices : MethodName := ⟨RXF, "vertices", "()I"⟩
abbrev cXF_flip : ByteArray := prog_1_method_3_code
def yXF_flip : MethodName := ⟨RXF, "flip", "(II)Z"⟩
abbrev cXG_has : ByteArray := prog_4_method_4_code
def yXG_has : MethodName := ⟨RXG, "has", "(I)Z"⟩
abbrev cXG_toggle : ByteArray := prog_4_method_6_code
def yXG_toggle : MethodName := ⟨RXG, "toggle", "(II)V"⟩
abbrev cXT_forget : ByteArray := prog_5_method_2_code
def yXT_forget : MethodName := ⟨RXT, "forget", "()V"⟩
abbrev cXG_edge : ByteArray := prog_4_method_5_code
def yXG_edge : MethodName := ⟨RXG, "edge", "(II)Z"⟩
abbrev cXF_contains : ByteArray := prog_1_method_25_code
def yXF_contains : MethodName := ⟨RXF, "contains", "(II)Z"⟩
abbrev cXF_neighbours : ByteArray := prog_1_method_4_code
def yXF_neighbours : MethodName := ⟨RXF, "neighbours", "(II)Z"⟩
abbrev cXF_component : ByteArray := prog_1_method_5_code
def yXF_component : MethodName := ⟨RXF, "component", "(I)I"⟩
abbrev cXF_componentOf : ByteArray := prog_1_method_21_code
def yXF_componentOf : MethodName := ⟨RXF, "componentOf", "(I)I"⟩
abbrev cXG_all : ByteArray := prog_4_method_3_code
def yXG_all : MethodName := ⟨RXG, "all", "()I"⟩
abbrev cXG_reached : ByteArray := prog_4_method_9_code
def yXG_reached : MethodName := ⟨RXG, "reached", "(II)I"⟩
abbrev cXG_nearToAny : ByteArray := prog_4_method_12_code
def yXG_nearToAny : MethodName := ⟨RXG, "nearToAny", "(II)I"⟩
abbrev cXF_splits : ByteArray := prog_1_method_6_code
def yXF_splits : MethodName := ⟨RXF, "splits", "(I)I"⟩
abbrev cXF_treeOf : ByteArray := prog_1_method_22_code
def yXF_treeOf : MethodName := ⟨RXF, "treeOf", "(I)LSplitForest$SplitTree;"⟩
abbrev cXT_growFor : ByteArray := prog_5_method_3_code
def yXT_growFor : MethodName := ⟨RXT, "growFor", "(I)V"⟩
abbrev cXT_findSplits : ByteArray := prog_5_method_12_code
def yXT_findSplits : MethodName := ⟨RXT, "findSplits", "()V"⟩
abbrev cXT_isSplit : ByteArray := prog_5_method_13_code
def yXT_isSplit : MethodName := ⟨RXT, "isSplit", "(II)Z"⟩
abbrev cXJ_bitCount : ByteArray := prog_8_method_49_code
def yXJ_bitCount : MethodName := ⟨RXJ, "bitCount", "(I)I"⟩
abbrev cXG_nearInside : ByteArray := prog_4_method_7_code
def yXG_nearInside : MethodName := ⟨RXG, "nearInside", "(II)I"⟩
abbrev cXT_findNodes : ByteArray := prog_5_method_14_code
def yXT_findNodes : MethodName := ⟨RXT, "findNodes", "()V"⟩
abbrev cXT_isStrong : ByteArray := prog_5_method_15_code
def yXT_isStrong : MethodName := ⟨RXT, "isStrong", "(I)Z"⟩
abbrev cXT_splitCount : ByteArray := prog_5_method_4_code
def yXT_splitCount : MethodName := ⟨RXT, "splitCount", "()I"⟩
abbrev cXF_strong : ByteArray := prog_1_method_7_code
def yXF_strong : MethodName := ⟨RXF, "strong", "(I)I"⟩
abbrev cXT_nodeCount : ByteArray := prog_5_method_5_code
def yXT_nodeCount : MethodName := ⟨RXT, "nodeCount", "()I"⟩
abbrev cXF_set : ByteArray := prog_1_method_8_code
def yXF_set : MethodName := ⟨RXF, "set", "(II)I"⟩
abbrev cXF_hasNode : ByteArray := prog_1_method_23_code
def yXF_hasNode : MethodName := ⟨RXF, "hasNode", "(II)Z"⟩
abbrev cXT_nodeSet : ByteArray := prog_5_method_6_code
def yXT_nodeSet : MethodName := ⟨RXT, "nodeSet", "(I)I"⟩
abbrev cXF_kind : ByteArray := prog_1_method_9_code
def yXF_kind : MethodName := ⟨RXF, "kind", "(II)I"⟩
abbrev cXT_nodeKind : ByteArray := prog_5_method_9_code
def yXT_nodeKind : MethodName := ⟨RXT, "nodeKind", "(I)I"⟩
abbrev cXT_findJoins : ByteArray := prog_5_method_19_code
def yXT_findJoins : MethodName := ⟨RXT, "findJoins", "(I)V"⟩
abbrev cXT_findParts : ByteArray := prog_5_method_17_code
def yXT_findParts : MethodName := ⟨RXT, "findParts", "(I)V"⟩
abbrev cXT_partWith : ByteArray := prog_5_method_16_code
def yXT_partWith : MethodName := ⟨RXT, "partWith", "(II)I"⟩
abbrev cXT_addPart : ByteArray := prog_5_method_18_code
def yXT_addPart : MethodName := ⟨RXT, "addPart", "(I)V"⟩
abbrev cXG_joined : ByteArray := prog_4_method_10_code
def yXG_joined : MethodName := ⟨RXG, "joined", "(II)Z"⟩
abbrev cXT_centreIndex : ByteArray := prog_5_method_20_code
def yXT_centreIndex : MethodName := ⟨RXT, "centreIndex", "()I"⟩
abbrev cXF_parts : ByteArray := prog_1_method_10_code
def yXF_parts : MethodName := ⟨RXF, "parts", "(II)I"⟩
abbrev cXT_partCount : ByteArray := prog_5_method_7_code
def yXT_partCount : MethodName := ⟨RXT, "partCount", "(I)I"⟩
abbrev cXF_part : ByteArray := prog_1_method_11_code
def yXF_part : MethodName := ⟨RXF, "part", "(III)I"⟩
abbrev cXT_partSet : ByteArray := prog_5_method_8_code
def yXT_partSet : MethodName := ⟨RXT, "partSet", "(II)I"⟩
abbrev cXF_centre : ByteArray := prog_1_method_12_code
def yXF_centre : MethodName := ⟨RXF, "centre", "(II)I"⟩
abbrev cXT_centreSet : ByteArray := prog_5_method_10_code
def yXT_centreSet : MethodName := ⟨RXT, "centreSet", "(I)I"⟩
abbrev cXF_linked : ByteArray := prog_1_method_13_code
def yXF_linked : MethodName := ⟨RXF, "linked", "(II)Z"⟩
abbrev cXT_links : ByteArray := prog_5_method_11_code
def yXT_links : MethodName := ⟨RXT, "links", "(II)Z"⟩
abbrev cXF_hereditary : ByteArray := prog_1_method_14_code
def yXF_hereditary : MethodName := ⟨RXF, "hereditary", "(I)Z"⟩
abbrev cXE_clears : ByteArray := prog_3_method_3_code
def yXE_clears : MethodName := ⟨RXE, "clears", "(I)Z"⟩
abbrev cXE_run : ByteArray := prog_3_method_5_code
def yXE_run : MethodName := ⟨RXE, "run", "(I)V"⟩
abbrev cXE_nextStep : ByteArray := prog_3_method_6_code
def yXE_nextStep : MethodName := ⟨RXE, "nextStep", "()I"⟩
abbrev cXE_stepAt : ByteArray := prog_3_method_7_code
def yXE_stepAt : MethodName := ⟨RXE, "stepAt", "(I)I"⟩
abbrev cXG_areTwins : ByteArray := prog_4_method_8_code
def yXG_areTwins : MethodName := ⟨RXG, "areTwins", "(III)Z"⟩
abbrev cXF_step : ByteArray := prog_1_method_15_code
def yXF_step : MethodName := ⟨RXF, "step", "(II)I"⟩
abbrev cXE_stepOf : ByteArray := prog_3_method_2_code
def yXE_stepOf : MethodName := ⟨RXE, "stepOf", "(II)I"⟩
abbrev cXF_obstruction : ByteArray := prog_1_method_16_code
def yXF_obstruction : MethodName := ⟨RXF, "obstruction", "(I)I"⟩
abbrev cXE_obstructionIn : ByteArray := prog_3_method_4_code
def yXE_obstructionIn : MethodName := ⟨RXE, "obstructionIn", "(I)I"⟩
abbrev cXF_obstacle : ByteArray := prog_1_method_17_code
def yXF_obstacle : MethodName := ⟨RXF, "obstacle", "(I)I"⟩
abbrev cXG_edgesInside : ByteArray := prog_4_method_11_code
def yXG_edgesInside : MethodName := ⟨RXG, "edgesInside", "(I)I"⟩
abbrev cXF_obstacleKind : ByteArray := prog_1_method_24_code
def yXF_obstacleKind : MethodName := ⟨RXF, "obstacleKind", "(II)I"⟩
abbrev cXF_apart : ByteArray := prog_1_method_18_code
def yXF_apart : MethodName := ⟨RXF, "apart", "(I)I"⟩
abbrev cXC_largestApart : ByteArray := prog_2_method_2_code
def yXC_largestApart : MethodName := ⟨RXC, "largestApart", "(I)I"⟩
abbrev cXF_chosen : ByteArray := prog_1_method_19_code
def yXF_chosen : MethodName := ⟨RXF, "chosen", "(I)I"⟩
abbrev cXF_cover : ByteArray := prog_1_method_20_code
def yXF_cover : MethodName := ⟨RXF, "cover", "(I)I"⟩
abbrev cXC_fewestCliques : ByteArray := prog_2_method_3_code
def yXC_fewestCliques : MethodName := ⟨RXC, "fewestCliques", "(I)I"⟩
abbrev cXC_coverWith : ByteArray := prog_2_method_4_code
def yXC_coverWith : MethodName := ⟨RXC, "coverWith", "(II)V"⟩
abbrev cXC_fewestWith : ByteArray := prog_2_method_5_code
def yXC_fewestWith : MethodName := ⟨RXC, "fewestWith", "(II)I"⟩
abbrev cXL_cell : ByteArray := method_2_code
def yXL_cell : MethodName := ⟨RXL, "cell", "([II)I"⟩
abbrev cXM_init : ByteArray := prog_7_method_1_code
def yXM_init : MethodName := ⟨RXM, "<init>", "(I)V"⟩
abbrev cXM_vertices : ByteArray := prog_7_method_2_code
def yXM_vertices : MethodName := ⟨RXM, "vertices", "()I"⟩
abbrev cXM_flip : ByteArray := prog_7_method_6_code
def yXM_flip : MethodName := ⟨RXM, "flip", "(II)Z"⟩
abbrev cXM_is : ByteArray := prog_7_method_3_code
def yXM_is : MethodName := ⟨RXM, "is", "(I)Z"⟩
abbrev cXM_neighbours : ByteArray := prog_7_method_7_code
def yXM_neighbours : MethodName := ⟨RXM, "neighbours", "(II)Z"⟩
abbrev cXM_component : ByteArray := prog_7_method_9_code
def yXM_component : MethodName := ⟨RXM, "component", "(I)I"⟩
abbrev cXM_within : ByteArray := prog_7_method_8_code
def yXM_within : MethodName := ⟨RXM, "within", "(II)I"⟩
abbrev cXM_splits : ByteArray := prog_7_method_13_code
def yXM_splits : MethodName := ⟨RXM, "splits", "(I)I"⟩
abbrev cXM_find : ByteArray := prog_7_method_12_code
def yXM_find : MethodName := ⟨RXM, "find", "(I)V"⟩
abbrev cXM_least : ByteArray := prog_7_method_5_code
def yXM_least : MethodName := ⟨RXM, "least", "(I)I"⟩
abbrev cXM_size : ByteArray := prog_7_method_4_code
def yXM_size : MethodName := ⟨RXM, "size", "(I)I"⟩
abbrev cXM_complete : ByteArray := prog_7_method_10_code
def yXM_complete : MethodName := ⟨RXM, "complete", "(II)Z"⟩
abbrev cXM_cross : ByteArray := prog_7_method_11_code
def yXM_cross : MethodName := ⟨RXM, "cross", "(II)Z"⟩
abbrev cXM_strong : ByteArray := prog_7_method_14_code
def yXM_strong : MethodName := ⟨RXM, "strong", "(I)I"⟩
abbrev cXM_set : ByteArray := prog_7_method_16_code
def yXM_set : MethodName := ⟨RXM, "set", "(II)I"⟩
abbrev cXM_nodeSet : ByteArray := prog_7_method_15_code
def yXM_nodeSet : MethodName := ⟨RXM, "nodeSet", "(II)I"⟩
abbrev cXM_kind : ByteArray := prog_7_method_23_code
def yXM_kind : MethodName := ⟨RXM, "kind", "(II)I"⟩
abbrev cXM_open : ByteArray := prog_7_method_19_code
def yXM_open : MethodName := ⟨RXM, "open", "(II)Z"⟩
abbrev cXM_isPart : ByteArray := prog_7_method_18_code
def yXM_isPart : MethodName := ⟨RXM, "isPart", "(IIIZ)Z"⟩
abbrev cXM_inside : ByteArray := prog_7_method_17_code
def yXM_inside : MethodName := ⟨RXM, "inside", "(II)Z"⟩
abbrev cXM_middle : ByteArray := prog_7_method_22_code
def yXM_middle : MethodName := ⟨RXM, "middle", "()I"⟩
abbrev cXM_links : ByteArray := prog_7_method_21_code
def yXM_links : MethodName := ⟨RXM, "links", "(I)I"⟩
abbrev cXM_joined : ByteArray := prog_7_method_20_code
def yXM_joined : MethodName := ⟨RXM, "joined", "(II)Z"⟩
abbrev cXM_parts : ByteArray := prog_7_method_24_code
def yXM_parts : MethodName := ⟨RXM, "parts", "(II)I"⟩
abbrev cXM_part : ByteArray := prog_7_method_25_code
def yXM_part : MethodName := ⟨RXM, "part", "(III)I"⟩
abbrev cXM_centre : ByteArray := prog_7_method_26_code
def yXM_centre : MethodName := ⟨RXM, "centre", "(II)I"⟩
abbrev cXM_linked : ByteArray := prog_7_method_28_code
def yXM_linked : MethodName := ⟨RXM, "linked", "(II)Z"⟩
abbrev cXM_partOf : ByteArray := prog_7_method_27_code
def yXM_partOf : MethodName := ⟨RXM, "partOf", "(I)I"⟩
abbrev cXM_hereditary : ByteArray := prog_7_method_32_code
def yXM_hereditary : MethodName := ⟨RXM, "hereditary", "(I)Z"⟩
abbrev cXM_fine : ByteArray := prog_7_method_31_code
def yXM_fine : MethodName := ⟨RXM, "fine", "(I)Z"⟩
abbrev cXM_eliminate : ByteArray := prog_7_method_30_code
def yXM_eliminate : MethodName := ⟨RXM, "eliminate", "(I)V"⟩
abbrev cXM_way : ByteArray := prog_7_method_29_code
def yXM_way : MethodName := ⟨RXM, "way", "(II)I"⟩
abbrev cXM_step : ByteArray := prog_7_method_33_code
def yXM_step : MethodName := ⟨RXM, "step", "(II)I"⟩
abbrev cXM_obstruction : ByteArray := prog_7_method_34_code
def yXM_obstruction : MethodName := ⟨RXM, "obstruction", "(I)I"⟩
abbrev cXM_obstacle : ByteArray := prog_7_method_36_code
def yXM_obstacle : MethodName := ⟨RXM, "obstacle", "(I)I"⟩
abbrev cXM_edges : ByteArray := prog_7_method_35_code
def yXM_edges : MethodName := ⟨RXM, "edges", "(I)I"⟩
abbrev cXM_apart : ByteArray := prog_7_method_38_code
def yXM_apart : MethodName := ⟨RXM, "apart", "(I)I"⟩
abbrev cXM_best : ByteArray := prog_7_method_37_code
def yXM_best : MethodName := ⟨RXM, "best", "(IZ)I"⟩
abbrev cXM_chosen : ByteArray := prog_7_method_39_code
def yXM_chosen : MethodName := ⟨RXM, "chosen", "(I)I"⟩
abbrev cXM_cover : ByteArray := prog_7_method_41_code
def yXM_cover : MethodName := ⟨RXM, "cover", "(I)I"⟩
abbrev cXM_clique : ByteArray := prog_7_method_40_code
def yXM_clique : MethodName := ⟨RXM, "clique", "(I)Z"⟩
abbrev vwCl : List vw_C := [(RXC, TXC, 2), (RXE, TXE, 4), (RXG, TXG, 2), (RXT, TXT, 10), (RXF, TXF, 4), (RXM, TXM, 12)]
end
section
/-! the words of the tables that the methods use -/
def W0 : List Cond := [.selects RXF yXF_componentOf yXF_componentOf,
  .selects RXG yXG_nearToAny yXG_nearToAny,
  .selects RXF yXF_treeOf yXF_treeOf,
  .selects RXT yXT_findSplits yXT_findSplits,
  .selects RXT yXT_isSplit yXT_isSplit,
  .selects RXT yXT_findNodes yXT_findNodes,
  .selects RXT yXT_isStrong yXT_isStrong,
  .selects RXF yXF_hasNode yXF_hasNode,
  .selects RXT yXT_findJoins yXT_findJoins,
  .selects RXT yXT_findParts yXT_findParts,
  .selects RXT yXT_partWith yXT_partWith,
  .selects RXT yXT_addPart yXT_addPart,
  .selects RXT yXT_centreIndex yXT_centreIndex,
  .selects RXE yXE_run yXE_run,
  .selects RXE yXE_nextStep yXE_nextStep,
  .selects RXE yXE_stepAt yXE_stepAt,
  .selects RXC yXC_coverWith yXC_coverWith,
  .selects RXC yXC_fewestWith yXC_fewestWith,
  .selects RXM yXM_is yXM_is,
  .selects RXM yXM_within yXM_within,
  .selects RXM yXM_find yXM_find,
  .selects RXM yXM_complete yXM_complete,
  .selects RXM yXM_nodeSet yXM_nodeSet,
  .selects RXM yXM_open yXM_open,
  .selects RXM yXM_isPart yXM_isPart,
  .selects RXM yXM_middle yXM_middle,
  .selects RXM yXM_links yXM_links,
  .selects RXM yXM_joined yXM_joined,
  .selects RXM yXM_partOf yXM_partOf,
  .selects RXM yXM_fine yXM_fine,
  .selects RXM yXM_eliminate yXM_eliminate,
  .selects RXM yXM_way yXM_way,
  .selects RXM yXM_edges yXM_edges,
  .selects RXM yXM_best yXM_best,
  .selects RXM yXM_clique yXM_clique,
  .initialized RXL,
  .initialized RXF,
  .initialized RXG,
  .initialized RXT,
  .initialized RXE,
  .initialized RXC,
  .initialized RXM,
  .initialized RXJ,
  .initialized "java/lang/Math",
  .classLink RXL 7 RXF,
  .instantiable RXF 4,
  .methodLink RXL 15 yXF_init,
  .instanceMethod yXF_init,
  .code yXF_init cXF_init 2 none,
  .methodLink RXF 1 objectInit,
  .instanceMethod objectInit,
  .code objectInit ⟨#[0xb1]⟩ 1 none,
  .classLink RXF 7 RXG,
  .instantiable RXG 2,
  .methodLink RXF 11 yXG_init,
  .instanceMethod yXG_init,
  .code yXG_init cXG_init 2 none,
  .methodLink RXG 1 objectInit,
  .fieldLink RXG 7 "SplitForest$Graph" "size" "I",
  .fieldLink RXG 13 "SplitForest$Graph" "near" "[I",
  .laysFinal RXG "SplitForest$Graph" "size" "I",
  .laysFinal RXG "SplitForest$Graph" "near" "[I",
  .arrayClass .int,
  .classLink RXF 18 RXT,
  .instantiable RXT 10,
  .methodLink RXF 20 yXT_init,
  .instanceMethod yXT_init,
  .code yXT_init cXT_init 2 none,
  .methodLink RXT 3 objectInit,
  .methodLink RXT 15 yXG_size,
  .instanceMethod yXG_size,
  .selects RXG yXG_size yXG_size,
  .code yXG_size cXG_size 1 (some .int),
  .fieldLink RXT 9 "SplitForest$SplitTree" "graph" "LSplitForest$Graph;",
  .fieldLink RXT 21 "SplitForest$SplitTree" "splitSets" "[I",
  .fieldLink RXT 44 "SplitForest$SplitTree" "splitCount" "I",
  .fieldLink RXT 25 "SplitForest$SplitTree" "nodeSets" "[I",
  .fieldLink RXT 47 "SplitForest$SplitTree" "nodeCount" "I",
  .fieldLink RXT 28 "SplitForest$SplitTree" "partSets" "[I",
  .fieldLink RXT 31 "SplitForest$SplitTree" "degrees" "[I",
  .fieldLink RXT 54 "SplitForest$SplitTree" "partCount" "I",
  .fieldLink RXT 60 "SplitForest$SplitTree" "pairsJoined" "I",
  .fieldLink RXT 34 "SplitForest$SplitTree" "whole" "I",
  .laysFinal RXT "SplitForest$SplitTree" "graph" "LSplitForest$Graph;",
  .laysFinal RXT "SplitForest$SplitTree" "splitSets" "[I",
  .lays RXT "SplitForest$SplitTree" "splitCount" "I",
  .laysFinal RXT "SplitForest$SplitTree" "nodeSets" "[I",
  .lays RXT "SplitForest$SplitTree" "nodeCount" "I",
  .laysFinal RXT "SplitForest$SplitTree" "partSets" "[I",
  .laysFinal RXT "SplitForest$SplitTree" "degrees" "[I",
  .lays RXT "SplitForest$SplitTree" "partCount" "I",
  .lays RXT "SplitForest$SplitTree" "pairsJoined" "I",
  .lays RXT "SplitForest$SplitTree" "whole" "I",
  .classLink RXF 27 RXE,
  .instantiable RXE 4,
  .methodLink RXF 29 yXE_init,
  .instanceMethod yXE_init,
  .code yXE_init cXE_init 2 none,
  .methodLink RXE 3 objectInit,
  .methodLink RXE 15 yXG_size,
  .fieldLink RXE 9 "SplitForest$Elimination" "graph" "LSplitForest$Graph;",
  .fieldLink RXE 21 "SplitForest$Elimination" "steps" "[I",
  .fieldLink RXE 29 "SplitForest$Elimination" "stepCount" "I",
  .fieldLink RXE 41 "SplitForest$Elimination" "left" "I",
  .laysFinal RXE "SplitForest$Elimination" "graph" "LSplitForest$Graph;",
  .laysFinal RXE "SplitForest$Elimination" "steps" "[I",
  .lays RXE "SplitForest$Elimination" "stepCount" "I",
  .lays RXE "SplitForest$Elimination" "left" "I",
  .classLink RXF 34 RXC,
  .instantiable RXC 2,
  .methodLink RXF 36 yXC_init,
  .instanceMethod yXC_init,
  .code yXC_init cXC_init 2 none,
  .methodLink RXC 1 objectInit,
  .methodLink RXC 13 yXG_size,
  .fieldLink RXC 7 "SplitForest$Choice" "graph" "LSplitForest$Graph;",
  .fieldLink RXC 19 "SplitForest$Choice" "fewest" "[I",
  .laysFinal RXC "SplitForest$Choice" "graph" "LSplitForest$Graph;",
  .laysFinal RXC "SplitForest$Choice" "fewest" "[I",
  .fieldLink RXF 14 "SplitForest" "graph" "LSplitForest$Graph;",
  .fieldLink RXF 23 "SplitForest" "tree" "LSplitForest$SplitTree;",
  .fieldLink RXF 30 "SplitForest" "elimination" "LSplitForest$Elimination;",
  .fieldLink RXF 37 "SplitForest" "choice" "LSplitForest$Choice;",
  .laysFinal RXF "SplitForest" "graph" "LSplitForest$Graph;",
  .laysFinal RXF "SplitForest" "tree" "LSplitForest$SplitTree;",
  .laysFinal RXF "SplitForest" "elimination" "LSplitForest$Elimination;",
  .laysFinal RXF "SplitForest" "choice" "LSplitForest$Choice;",
  .methodLink RXL 21 yXF_vertices,
  .instanceMethod yXF_vertices,
  .selects RXF yXF_vertices yXF_vertices,
  .code yXF_vertices cXF_vertices 1 (some .int),
  .methodLink RXF 41 yXG_size,
  .methodLink RXL 26 yXF_flip,
  .instanceMethod yXF_flip,
  .selects RXF yXF_flip yXF_flip,
  .code yXF_flip cXF_flip 3 (some .boolean),
  .methodLink RXF 45 yXG_has,
  .instanceMethod yXG_has,
  .selects RXG yXG_has yXG_has,
  .code yXG_has cXG_has 2 (some .boolean),
  .methodLink RXF 49 yXG_toggle,
  .instanceMethod yXG_toggle,
  .selects RXG yXG_toggle yXG_toggle,
  .code yXG_toggle cXG_toggle 3 none,
  .methodLink RXF 53 yXT_forget,
  .instanceMethod yXT_forget,
  .selects RXT yXT_forget yXT_forget,
  .code yXT_forget cXT_forget 1 none,
  .methodLink RXF 56 yXG_edge,
  .instanceMethod yXG_edge,
  .selects RXG yXG_edge yXG_edge,
  .code yXG_edge cXG_edge 3 (some .boolean),
  .static yXF_contains,
  .code yXF_contains cXF_contains 2 (some .boolean),
  .methodLink RXL 31 yXF_neighbours,
  .instanceMethod yXF_neighbours,
  .selects RXF yXF_neighbours yXF_neighbours,
  .code yXF_neighbours cXF_neighbours 3 (some .boolean),
  .methodLink RXL 35 yXF_component,
  .instanceMethod yXF_component,
  .selects RXF yXF_component yXF_component,
  .code yXF_component cXF_component 2 (some .int),
  .methodLink RXF 60 yXF_componentOf,
  .instanceMethod yXF_componentOf,
  .code yXF_componentOf cXF_componentOf 2 (some .int),
  .methodLink RXF 128 yXG_all,
  .instanceMethod yXG_all,
  .selects RXG yXG_all yXG_all,
  .code yXG_all cXG_all 1 (some .int),
  .methodLink RXF 131 yXG_reached,
  .instanceMethod yXG_reached,
  .selects RXG yXG_reached yXG_reached,
  .code yXG_reached cXG_reached 6 (some .int),
  .methodLink RXG 23 yXG_nearToAny,
  .instanceMethod yXG_nearToAny,
  .code yXG_nearToAny cXG_nearToAny 5 (some .int),
  .methodLink RXL 40 yXF_splits,
  .instanceMethod yXF_splits,
  .selects RXF yXF_splits yXF_splits,
  .code yXF_splits cXF_splits 2 (some .int),
  .methodLink RXF 64 yXF_treeOf,
  .instanceMethod yXF_treeOf,
  .code yXF_treeOf cXF_treeOf 2 (some (.object "SplitForest$SplitTree")),
  .methodLink RXF 134 yXT_growFor,
  .instanceMethod yXT_growFor,
  .selects RXT yXT_growFor yXT_growFor,
  .code yXT_growFor cXT_growFor 2 none,
  .methodLink RXT 38 yXT_findSplits,
  .instanceMethod yXT_findSplits,
  .code yXT_findSplits cXT_findSplits 3 none,
  .methodLink RXT 78 yXT_isSplit,
  .instanceMethod yXT_isSplit,
  .code yXT_isSplit cXT_isSplit 6 (some .boolean),
  .methodLink RXT 81 yXJ_bitCount,
  .static yXJ_bitCount,
  .code yXJ_bitCount cXJ_bitCount 1 (some .int),
  .constant RXJ 265 1431655765,
  .constant RXJ 266 858993459,
  .constant RXJ 267 252645135,
  .methodLink RXT 89 yXG_nearInside,
  .instanceMethod yXG_nearInside,
  .selects RXG yXG_nearInside yXG_nearInside,
  .code yXG_nearInside cXG_nearInside 3 (some .int),
  .methodLink RXT 41 yXT_findNodes,
  .instanceMethod yXT_findNodes,
  .code yXT_findNodes cXT_findNodes 2 none,
  .methodLink RXT 92 yXT_isStrong,
  .instanceMethod yXT_isStrong,
  .code yXT_isStrong cXT_isStrong 4 (some .boolean),
  .methodLink RXF 68 yXT_splitCount,
  .instanceMethod yXT_splitCount,
  .selects RXT yXT_splitCount yXT_splitCount,
  .code yXT_splitCount cXT_splitCount 1 (some .int),
  .methodLink RXL 44 yXF_strong,
  .instanceMethod yXF_strong,
  .selects RXF yXF_strong yXF_strong,
  .code yXF_strong cXF_strong 2 (some .int),
  .methodLink RXF 71 yXT_nodeCount,
  .instanceMethod yXT_nodeCount,
  .selects RXT yXT_nodeCount yXT_nodeCount,
  .code yXT_nodeCount cXT_nodeCount 1 (some .int),
  .methodLink RXL 48 yXF_set,
  .instanceMethod yXF_set,
  .selects RXF yXF_set yXF_set,
  .code yXF_set cXF_set 3 (some .int),
  .methodLink RXF 74 yXF_hasNode,
  .instanceMethod yXF_hasNode,
  .code yXF_hasNode cXF_hasNode 3 (some .boolean),
  .methodLink RXF 77 yXT_nodeSet,
  .instanceMethod yXT_nodeSet,
  .selects RXT yXT_nodeSet yXT_nodeSet,
  .code yXT_nodeSet cXT_nodeSet 2 (some .int),
  .methodLink RXL 53 yXF_kind,
  .instanceMethod yXF_kind,
  .selects RXF yXF_kind yXF_kind,
  .code yXF_kind cXF_kind 3 (some .int),
  .methodLink RXF 80 yXT_nodeKind,
  .instanceMethod yXT_nodeKind,
  .selects RXT yXT_nodeKind yXT_nodeKind,
  .code yXT_nodeKind cXT_nodeKind 2 (some .int),
  .methodLink RXT 57 yXT_findJoins,
  .instanceMethod yXT_findJoins,
  .code yXT_findJoins cXT_findJoins 4 none,
  .methodLink RXT 50 yXT_findParts,
  .instanceMethod yXT_findParts,
  .code yXT_findParts cXT_findParts 5 none,
  .methodLink RXT 70 yXT_partWith,
  .instanceMethod yXT_partWith,
  .code yXT_partWith cXT_partWith 7 (some .int),
  .methodLink RXT 96 yXT_addPart,
  .instanceMethod yXT_addPart,
  .code yXT_addPart cXT_addPart 3 none,
  .methodLink RXT 74 yXG_joined,
  .instanceMethod yXG_joined,
  .selects RXG yXG_joined yXG_joined,
  .code yXG_joined cXG_joined 3 (some .boolean),
  .methodLink RXT 63 yXT_centreIndex,
  .instanceMethod yXT_centreIndex,
  .code yXT_centreIndex cXT_centreIndex 2 (some .int),
  .methodLink RXL 57 yXF_parts,
  .instanceMethod yXF_parts,
  .selects RXF yXF_parts yXF_parts,
  .code yXF_parts cXF_parts 3 (some .int),
  .methodLink RXF 83 yXT_partCount,
  .instanceMethod yXT_partCount,
  .selects RXT yXT_partCount yXT_partCount,
  .code yXT_partCount cXT_partCount 2 (some .int),
  .methodLink RXL 61 yXF_part,
  .instanceMethod yXF_part,
  .selects RXF yXF_part yXF_part,
  .code yXF_part cXF_part 4 (some .int),
  .methodLink RXF 86 yXT_partSet,
  .instanceMethod yXT_partSet,
  .selects RXT yXT_partSet yXT_partSet,
  .code yXT_partSet cXT_partSet 3 (some .int),
  .methodLink RXL 66 yXF_centre,
  .instanceMethod yXF_centre,
  .selects RXF yXF_centre yXF_centre,
  .code yXF_centre cXF_centre 3 (some .int),
  .methodLink RXF 90 yXT_centreSet,
  .instanceMethod yXT_centreSet,
  .selects RXT yXT_centreSet yXT_centreSet,
  .code yXT_centreSet cXT_centreSet 2 (some .int),
  .methodLink RXT 66 yXT_nodeKind,
  .methodLink RXL 70 yXF_linked,
  .instanceMethod yXF_linked,
  .selects RXF yXF_linked yXF_linked,
  .code yXF_linked cXF_linked 3 (some .boolean),
  .methodLink RXF 93 yXF_contains,
  .methodLink RXF 96 yXT_links,
  .instanceMethod yXT_links,
  .selects RXT yXT_links yXT_links,
  .code yXT_links cXT_links 6 (some .boolean),
  .methodLink RXL 74 yXF_hereditary,
  .instanceMethod yXF_hereditary,
  .selects RXF yXF_hereditary yXF_hereditary,
  .code yXF_hereditary cXF_hereditary 2 (some .boolean),
  .methodLink RXF 99 yXE_clears,
  .instanceMethod yXE_clears,
  .selects RXE yXE_clears yXE_clears,
  .code yXE_clears cXE_clears 5 (some .boolean),
  .methodLink RXE 37 yXG_reached,
  .methodLink RXE 25 yXE_run,
  .instanceMethod yXE_run,
  .code yXE_run cXE_run 3 none,
  .methodLink RXE 54 yXE_nextStep,
  .instanceMethod yXE_nextStep,
  .code yXE_nextStep cXE_nextStep 3 (some .int),
  .methodLink RXE 57 yXE_stepAt,
  .instanceMethod yXE_stepAt,
  .code yXE_stepAt cXE_stepAt 6 (some .int),
  .methodLink RXE 60 yXG_nearInside,
  .methodLink RXE 44 yXJ_bitCount,
  .methodLink RXE 63 yXG_areTwins,
  .instanceMethod yXG_areTwins,
  .selects RXG yXG_areTwins yXG_areTwins,
  .code yXG_areTwins cXG_areTwins 5 (some .boolean),
  .methodLink RXL 79 yXF_step,
  .instanceMethod yXF_step,
  .selects RXF yXF_step yXF_step,
  .code yXF_step cXF_step 3 (some .int),
  .methodLink RXF 102 yXE_stepOf,
  .instanceMethod yXE_stepOf,
  .selects RXE yXE_stepOf yXE_stepOf,
  .code yXE_stepOf cXE_stepOf 3 (some .int),
  .methodLink RXL 83 yXF_obstruction,
  .instanceMethod yXF_obstruction,
  .selects RXF yXF_obstruction yXF_obstruction,
  .code yXF_obstruction cXF_obstruction 2 (some .int),
  .methodLink RXF 105 yXE_obstructionIn,
  .instanceMethod yXE_obstructionIn,
  .selects RXE yXE_obstructionIn yXE_obstructionIn,
  .code yXE_obstructionIn cXE_obstructionIn 5 (some .int),
  .methodLink RXE 50 yXE_clears,
  .methodLink RXL 87 yXF_obstacle,
  .instanceMethod yXF_obstacle,
  .selects RXF yXF_obstacle yXF_obstacle,
  .code yXF_obstacle cXF_obstacle 3 (some .int),
  .methodLink RXF 108 yXJ_bitCount,
  .methodLink RXF 113 yXG_edgesInside,
  .instanceMethod yXG_edgesInside,
  .selects RXG yXG_edgesInside yXG_edgesInside,
  .code yXG_edgesInside cXG_edgesInside 4 (some .int),
  .methodLink RXG 27 yXJ_bitCount,
  .methodLink RXF 116 yXF_obstacleKind,
  .static yXF_obstacleKind,
  .code yXF_obstacleKind cXF_obstacleKind 2 (some .int),
  .methodLink RXL 91 yXF_apart,
  .instanceMethod yXF_apart,
  .selects RXF yXF_apart yXF_apart,
  .code yXF_apart cXF_apart 2 (some .int),
  .methodLink RXF 119 yXF_hereditary,
  .methodLink RXF 122 yXC_largestApart,
  .instanceMethod yXC_largestApart,
  .selects RXC yXC_largestApart yXC_largestApart,
  .code yXC_largestApart cXC_largestApart 4 (some .int),
  .methodLink RXC 23 yXJ_bitCount,
  .methodLink RXC 29 yXG_joined,
  .methodLink RXL 95 yXF_chosen,
  .instanceMethod yXF_chosen,
  .selects RXF yXF_chosen yXF_chosen,
  .code yXF_chosen cXF_chosen 2 (some .int),
  .methodLink RXL 99 yXF_cover,
  .instanceMethod yXF_cover,
  .selects RXF yXF_cover yXF_cover,
  .code yXF_cover cXF_cover 2 (some .int),
  .methodLink RXF 125 yXC_fewestCliques,
  .instanceMethod yXC_fewestCliques,
  .selects RXC yXC_fewestCliques yXC_fewestCliques,
  .code yXC_fewestCliques cXC_fewestCliques 4 (some .int),
  .methodLink RXC 38 yXC_coverWith,
  .instanceMethod yXC_coverWith,
  .code yXC_coverWith cXC_coverWith 4 none,
  .methodLink RXC 42 yXC_fewestWith,
  .instanceMethod yXC_fewestWith,
  .code yXC_fewestWith cXC_fewestWith 6 (some .int),
  .methodLink RXC 46 yXG_nearInside,
  .methodLink RXC 49 Lib.Math.min.name,
  .static Lib.Math.min.name,
  .code Lib.Math.min.name Lib.Math.min.code 2 (some .int),
  .methodLink RXL 9 yXL_cell,
  .static yXL_cell,
  .code yXL_cell cXL_cell 2 (some .int),
  .classLink RXL 18 RXM,
  .instantiable RXM 12,
  .methodLink RXL 20 yXM_init,
  .instanceMethod yXM_init,
  .code yXM_init cXM_init 2 none,
  .methodLink RXM 1 objectInit,
  .fieldLink RXM 28 "SplitForestModel" "n" "I",
  .fieldLink RXM 7 "SplitForestModel" "near" "[I",
  .fieldLink RXM 40 "SplitForestModel" "splits" "I",
  .fieldLink RXM 13 "SplitForestModel" "split" "[I",
  .fieldLink RXM 54 "SplitForestModel" "strongs" "I",
  .fieldLink RXM 16 "SplitForestModel" "strong" "[I",
  .fieldLink RXM 73 "SplitForestModel" "parts" "I",
  .fieldLink RXM 19 "SplitForestModel" "part" "[I",
  .fieldLink RXM 96 "SplitForestModel" "steps" "I",
  .fieldLink RXM 22 "SplitForestModel" "step" "[I",
  .fieldLink RXM 102 "SplitForestModel" "whole" "Z",
  .fieldLink RXM 25 "SplitForestModel" "covers" "[I",
  .laysFinal RXM "SplitForestModel" "n" "I",
  .laysFinal RXM "SplitForestModel" "near" "[I",
  .lays RXM "SplitForestModel" "splits" "I",
  .laysFinal RXM "SplitForestModel" "split" "[I",
  .lays RXM "SplitForestModel" "strongs" "I",
  .laysFinal RXM "SplitForestModel" "strong" "[I",
  .lays RXM "SplitForestModel" "parts" "I",
  .laysFinal RXM "SplitForestModel" "part" "[I",
  .lays RXM "SplitForestModel" "steps" "I",
  .laysFinal RXM "SplitForestModel" "step" "[I",
  .lays RXM "SplitForestModel" "whole" "Z",
  .laysFinal RXM "SplitForestModel" "covers" "[I",
  .methodLink RXL 25 yXM_vertices,
  .instanceMethod yXM_vertices,
  .selects RXM yXM_vertices yXM_vertices,
  .code yXM_vertices cXM_vertices 1 (some .int),
  .methodLink RXL 30 yXM_flip,
  .instanceMethod yXM_flip,
  .selects RXM yXM_flip yXM_flip,
  .code yXM_flip cXM_flip 3 (some .boolean),
  .methodLink RXM 32 yXM_is,
  .instanceMethod yXM_is,
  .code yXM_is cXM_is 2 (some .boolean),
  .methodLink RXL 34 yXM_neighbours,
  .instanceMethod yXM_neighbours,
  .selects RXM yXM_neighbours yXM_neighbours,
  .code yXM_neighbours cXM_neighbours 3 (some .boolean),
  .methodLink RXL 39 yXM_component,
  .instanceMethod yXM_component,
  .selects RXM yXM_component yXM_component,
  .code yXM_component cXM_component 2 (some .int),
  .methodLink RXM 36 yXM_within,
  .instanceMethod yXM_within,
  .code yXM_within cXM_within 6 (some .int),
  .methodLink RXL 43 yXM_splits,
  .instanceMethod yXM_splits,
  .selects RXM yXM_splits yXM_splits,
  .code yXM_splits cXM_splits 2 (some .int),
  .methodLink RXM 60 yXM_component,
  .methodLink RXM 63 yXM_find,
  .instanceMethod yXM_find,
  .code yXM_find cXM_find 6 none,
  .methodLink RXM 43 yXM_least,
  .static yXM_least,
  .code yXM_least cXM_least 2 (some .int),
  .methodLink RXM 47 yXM_size,
  .static yXM_size,
  .code yXM_size cXM_size 3 (some .int),
  .methodLink RXM 50 yXM_complete,
  .instanceMethod yXM_complete,
  .code yXM_complete cXM_complete 7 (some .boolean),
  .methodLink RXM 57 yXM_cross,
  .static yXM_cross,
  .code yXM_cross cXM_cross 2 (some .boolean),
  .methodLink RXL 47 yXM_strong,
  .instanceMethod yXM_strong,
  .selects RXM yXM_strong yXM_strong,
  .code yXM_strong cXM_strong 2 (some .int),
  .methodLink RXL 52 yXM_set,
  .instanceMethod yXM_set,
  .selects RXM yXM_set yXM_set,
  .code yXM_set cXM_set 3 (some .int),
  .methodLink RXM 67 yXM_nodeSet,
  .instanceMethod yXM_nodeSet,
  .code yXM_nodeSet cXM_nodeSet 4 (some .int),
  .methodLink RXL 56 yXM_kind,
  .instanceMethod yXM_kind,
  .selects RXM yXM_kind yXM_kind,
  .code yXM_kind cXM_kind 4 (some .int),
  .methodLink RXM 86 yXM_open,
  .instanceMethod yXM_open,
  .code yXM_open cXM_open 6 (some .boolean),
  .methodLink RXM 76 yXM_isPart,
  .instanceMethod yXM_isPart,
  .code yXM_isPart cXM_isPart 10 (some .boolean),
  .methodLink RXM 70 yXM_inside,
  .static yXM_inside,
  .code yXM_inside cXM_inside 2 (some .boolean),
  .methodLink RXM 89 yXM_middle,
  .instanceMethod yXM_middle,
  .code yXM_middle cXM_middle 4 (some .int),
  .methodLink RXM 83 yXM_links,
  .instanceMethod yXM_links,
  .code yXM_links cXM_links 4 (some .int),
  .methodLink RXM 80 yXM_joined,
  .instanceMethod yXM_joined,
  .code yXM_joined cXM_joined 5 (some .boolean),
  .methodLink RXL 60 yXM_parts,
  .instanceMethod yXM_parts,
  .selects RXM yXM_parts yXM_parts,
  .code yXM_parts cXM_parts 3 (some .int),
  .methodLink RXL 65 yXM_part,
  .instanceMethod yXM_part,
  .selects RXM yXM_part yXM_part,
  .code yXM_part cXM_part 4 (some .int),
  .methodLink RXL 69 yXM_centre,
  .instanceMethod yXM_centre,
  .selects RXM yXM_centre yXM_centre,
  .code yXM_centre cXM_centre 4 (some .int),
  .methodLink RXL 73 yXM_linked,
  .instanceMethod yXM_linked,
  .selects RXM yXM_linked yXM_linked,
  .code yXM_linked cXM_linked 9 (some .boolean),
  .methodLink RXM 93 yXM_partOf,
  .instanceMethod yXM_partOf,
  .code yXM_partOf cXM_partOf 4 (some .int),
  .methodLink RXL 78 yXM_hereditary,
  .instanceMethod yXM_hereditary,
  .selects RXM yXM_hereditary yXM_hereditary,
  .code yXM_hereditary cXM_hereditary 2 (some .boolean),
  .methodLink RXM 109 yXM_fine,
  .instanceMethod yXM_fine,
  .code yXM_fine cXM_fine 4 (some .boolean),
  .methodLink RXM 106 yXM_eliminate,
  .instanceMethod yXM_eliminate,
  .code yXM_eliminate cXM_eliminate 5 none,
  .methodLink RXM 99 yXM_way,
  .instanceMethod yXM_way,
  .code yXM_way cXM_way 7 (some .int),
  .methodLink RXL 82 yXM_step,
  .instanceMethod yXM_step,
  .selects RXM yXM_step yXM_step,
  .code yXM_step cXM_step 3 (some .int),
  .methodLink RXL 86 yXM_obstruction,
  .instanceMethod yXM_obstruction,
  .selects RXM yXM_obstruction yXM_obstruction,
  .code yXM_obstruction cXM_obstruction 5 (some .int),
  .methodLink RXL 90 yXM_obstacle,
  .instanceMethod yXM_obstacle,
  .selects RXM yXM_obstacle yXM_obstacle,
  .code yXM_obstacle cXM_obstacle 5 (some .int),
  .methodLink RXM 112 yXM_obstruction,
  .methodLink RXM 115 yXM_edges,
  .instanceMethod yXM_edges,
  .code yXM_edges cXM_edges 4 (some .int),
  .methodLink RXL 94 yXM_apart,
  .instanceMethod yXM_apart,
  .selects RXM yXM_apart yXM_apart,
  .code yXM_apart cXM_apart 2 (some .int),
  .methodLink RXM 118 yXM_hereditary,
  .methodLink RXM 121 yXM_best,
  .instanceMethod yXM_best,
  .code yXM_best cXM_best 6 (some .int),
  .methodLink RXL 98 yXM_chosen,
  .instanceMethod yXM_chosen,
  .selects RXM yXM_chosen yXM_chosen,
  .code yXM_chosen cXM_chosen 2 (some .int),
  .methodLink RXL 102 yXM_cover,
  .instanceMethod yXM_cover,
  .selects RXM yXM_cover yXM_cover,
  .code yXM_cover cXM_cover 6 (some .int),
  .methodLink RXM 125 yXM_clique,
  .instanceMethod yXM_clique,
  .code yXM_clique cXM_clique 3 (some .boolean)]
set_option maxRecDepth 100000 in
theorem W0_pl : W0 = ([0,1,2,3,4,5,6,7,8,9,10,11,12,13,14,15,16,17,18,19,20,21,22,23,24,25,26,27,28,29,30,31,32,33,34,35,36,37,38,39,40,41,42,43,44,45,46,47,48,49,50,51,52,53,54,55,56,57,58,59,60,62,65,66,67,68,69,70,71,72,73,74,75,76,77,78,79,80,81,82,83,84,85,86,88,90,92,94,96,98,100,102,104,107,108,109,110,111,112,113,114,115,116,117,118,120,122,124,127,128,129,130,131,132,133,134,135,136,138,141,142,143,144,145,147,149,151,154,155,156,157,158,159,160,161,162,163,164,165,166,167,168,169,170,171,172,173,174,175,176,177,178,180,181,182,183,184,185,186,187,188,189,190,192,193,194,195,196,197,198,199,200,201,202,204,205,206,207,208,209,210,212,213,214,215,216,217,218,220,221,222,224,225,226,227,228,229,230,231,233,234,235,236,237,239,240,241,243,244,245,246,247,248,249,250,251,252,253,254,255,256,257,258,259,260,261,263,264,265,266,267,268,269,270,271,272,273,274,275,276,277,279,280,281,283,284,285,287,288,289,291,292,293,294,295,296,297,299,300,301,302,303,304,305,306,307,308,309,310,311,312,313,314,315,316,317,318,319,320,321,322,323,324,325,326,327,328,329,330,331,332,333,334,335,336,337,338,339,340,341,342,344,345,347,348,349,351,352,353,355,356,357,358,359,360,361,362,363,364,365,366,367,368,369,370,371,372,373,374,375,376,377,378,379,380,381,382,383,384,385,386,387,388,389,390,391,392,393,394,395,396,397,398,399,400,401,402,403,404,405,406,407,408,409,410,411,412,413,414,415,417,419,420,421,423,424,425,426,427,428,429,430,431,432,433,434,435,436,437,438,439,440,441,442,443,444,445,446,447,448,449,450,452,454,456,458,460,462,464,466,468,470,472,475,476,477,478,479,480,481,482,483,485,486,487,488,489,490,491,492,493,494,495,497,498,499,500,501,502,503,504,506,507,508,509,510,511,512,513,514,516,517,518,519,520,521,522,523,524,525,526,527,528,529,531,532,533,534,535,536,537,539,540,541,543,544,545,546,547,548,550,551,552,554,555,556,558,559,560,561,562,563,564,565,566,567,568,569,570,571,572,573,574,575,576,578,579,580,581,582,583,584,586,587,588,590,591,592,594,595,596,597,598,599,600,601,602,603,604,605,606,607,608,609,611,612,613,614,615,616,617,618,620,621,622,623,624,625,626,627,628,629,630,632,633] : List Nat).filterMap (fun i => lw_tbl[i]?) := by rfl
theorem W0_in : ∀ w ∈ W0, w ∈ lw_tbl := by
  intro w hw
  rw [W0_pl] at hw
  obtain ⟨i, -, hi⟩ := List.mem_filterMap.mp hw
  exact List.mem_of_getElem? hi
set_option maxRecDepth 100000 in
theorem W0_good : W0.all goodWord = true := by decide +kernel
theorem W0g : GoodIn W0 W0 := fun w hw => ⟨hw, good_of_word (List.all_eq_true.mp W0_good w hw)⟩
set_option maxRecDepth 100000 in
theorem wd_0 : (.selects RXF yXF_componentOf yXF_componentOf : Cond) ∈ W0 := List.mem_of_getElem? (i := 0) rfl
set_option maxRecDepth 100000 in
theorem wd_1 : (.selects RXG yXG_nearToAny yXG_nearToAny : Cond) ∈ W0 := List.mem_of_getElem? (i := 1) rfl
set_option maxRecDepth 100000 in
theorem wd_2 : (.selects RXF yXF_treeOf yXF_treeOf : Cond) ∈ W0 := List.mem_of_getElem? (i := 2) rfl
set_option maxRecDepth 100000 in
theorem wd_3 : (.selects RXT yXT_findSplits yXT_findSplits : Cond) ∈ W0 := List.mem_of_getElem? (i := 3) rfl
set_option maxRecDepth 100000 in
theorem wd_4 : (.selects RXT yXT_isSplit yXT_isSplit : Cond) ∈ W0 := List.mem_of_getElem? (i := 4) rfl
set_option maxRecDepth 100000 in
theorem wd_5 : (.selects RXT yXT_findNodes yXT_findNodes : Cond) ∈ W0 := List.mem_of_getElem? (i := 5) rfl
set_option maxRecDepth 100000 in
theorem wd_6 : (.selects RXT yXT_isStrong yXT_isStrong : Cond) ∈ W0 := List.mem_of_getElem? (i := 6) rfl
set_option maxRecDepth 100000 in
theorem wd_7 : (.selects RXF yXF_hasNode yXF_hasNode : Cond) ∈ W0 := List.mem_of_getElem? (i := 7) rfl
set_option maxRecDepth 100000 in
theorem wd_8 : (.selects RXT yXT_findJoins yXT_findJoins : Cond) ∈ W0 := List.mem_of_getElem? (i := 8) rfl
set_option maxRecDepth 100000 in
theorem wd_9 : (.selects RXT yXT_findParts yXT_findParts : Cond) ∈ W0 := List.mem_of_getElem? (i := 9) rfl
set_option maxRecDepth 100000 in
theorem wd_10 : (.selects RXT yXT_partWith yXT_partWith : Cond) ∈ W0 := List.mem_of_getElem? (i := 10) rfl
set_option maxRecDepth 100000 in
theorem wd_11 : (.selects RXT yXT_addPart yXT_addPart : Cond) ∈ W0 := List.mem_of_getElem? (i := 11) rfl
set_option maxRecDepth 100000 in
theorem wd_12 : (.selects RXT yXT_centreIndex yXT_centreIndex : Cond) ∈ W0 := List.mem_of_getElem? (i := 12) rfl
set_option maxRecDepth 100000 in
theorem wd_13 : (.selects RXE yXE_run yXE_run : Cond) ∈ W0 := List.mem_of_getElem? (i := 13) rfl
set_option maxRecDepth 100000 in
theorem wd_14 : (.selects RXE yXE_nextStep yXE_nextStep : Cond) ∈ W0 := List.mem_of_getElem? (i := 14) rfl
set_option maxRecDepth 100000 in
theorem wd_15 : (.selects RXE yXE_stepAt yXE_stepAt : Cond) ∈ W0 := List.mem_of_getElem? (i := 15) rfl
set_option maxRecDepth 100000 in
theorem wd_16 : (.selects RXC yXC_coverWith yXC_coverWith : Cond) ∈ W0 := List.mem_of_getElem? (i := 16) rfl
set_option maxRecDepth 100000 in
theorem wd_17 : (.selects RXC yXC_fewestWith yXC_fewestWith : Cond) ∈ W0 := List.mem_of_getElem? (i := 17) rfl
set_option maxRecDepth 100000 in
theorem wd_18 : (.selects RXM yXM_is yXM_is : Cond) ∈ W0 := List.mem_of_getElem? (i := 18) rfl
set_option maxRecDepth 100000 in
theorem wd_19 : (.selects RXM yXM_within yXM_within : Cond) ∈ W0 := List.mem_of_getElem? (i := 19) rfl
set_option maxRecDepth 100000 in
theorem wd_20 : (.selects RXM yXM_find yXM_find : Cond) ∈ W0 := List.mem_of_getElem? (i := 20) rfl
set_option maxRecDepth 100000 in
theorem wd_21 : (.selects RXM yXM_complete yXM_complete : Cond) ∈ W0 := List.mem_of_getElem? (i := 21) rfl
set_option maxRecDepth 100000 in
theorem wd_22 : (.selects RXM yXM_nodeSet yXM_nodeSet : Cond) ∈ W0 := List.mem_of_getElem? (i := 22) rfl
set_option maxRecDepth 100000 in
theorem wd_23 : (.selects RXM yXM_open yXM_open : Cond) ∈ W0 := List.mem_of_getElem? (i := 23) rfl
set_option maxRecDepth 100000 in
theorem wd_24 : (.selects RXM yXM_isPart yXM_isPart : Cond) ∈ W0 := List.mem_of_getElem? (i := 24) rfl
set_option maxRecDepth 100000 in
theorem wd_25 : (.selects RXM yXM_middle yXM_middle : Cond) ∈ W0 := List.mem_of_getElem? (i := 25) rfl
set_option maxRecDepth 100000 in
theorem wd_26 : (.selects RXM yXM_links yXM_links : Cond) ∈ W0 := List.mem_of_getElem? (i := 26) rfl
set_option maxRecDepth 100000 in
theorem wd_27 : (.selects RXM yXM_joined yXM_joined : Cond) ∈ W0 := List.mem_of_getElem? (i := 27) rfl
set_option maxRecDepth 100000 in
theorem wd_28 : (.selects RXM yXM_partOf yXM_partOf : Cond) ∈ W0 := List.mem_of_getElem? (i := 28) rfl
set_option maxRecDepth 100000 in
theorem wd_29 : (.selects RXM yXM_fine yXM_fine : Cond) ∈ W0 := List.mem_of_getElem? (i := 29) rfl
set_option maxRecDepth 100000 in
theorem wd_30 : (.selects RXM yXM_eliminate yXM_eliminate : Cond) ∈ W0 := List.mem_of_getElem? (i := 30) rfl
set_option maxRecDepth 100000 in
theorem wd_31 : (.selects RXM yXM_way yXM_way : Cond) ∈ W0 := List.mem_of_getElem? (i := 31) rfl
set_option maxRecDepth 100000 in
theorem wd_32 : (.selects RXM yXM_edges yXM_edges : Cond) ∈ W0 := List.mem_of_getElem? (i := 32) rfl
set_option maxRecDepth 100000 in
theorem wd_33 : (.selects RXM yXM_best yXM_best : Cond) ∈ W0 := List.mem_of_getElem? (i := 33) rfl
set_option maxRecDepth 100000 in
theorem wd_34 : (.selects RXM yXM_clique yXM_clique : Cond) ∈ W0 := List.mem_of_getElem? (i := 34) rfl
set_option maxRecDepth 100000 in
theorem wd_35 : (.initialized RXL : Cond) ∈ W0 := List.mem_of_getElem? (i := 35) rfl
set_option maxRecDepth 100000 in
theorem wd_36 : (.initialized RXF : Cond) ∈ W0 := List.mem_of_getElem? (i := 36) rfl
set_option maxRecDepth 100000 in
theorem wd_37 : (.initialized RXG : Cond) ∈ W0 := List.mem_of_getElem? (i := 37) rfl
set_option maxRecDepth 100000 in
theorem wd_38 : (.initialized RXT : Cond) ∈ W0 := List.mem_of_getElem? (i := 38) rfl
set_option maxRecDepth 100000 in
theorem wd_39 : (.initialized RXE : Cond) ∈ W0 := List.mem_of_getElem? (i := 39) rfl
set_option maxRecDepth 100000 in
theorem wd_40 : (.initialized RXC : Cond) ∈ W0 := List.mem_of_getElem? (i := 40) rfl
set_option maxRecDepth 100000 in
theorem wd_41 : (.initialized RXM : Cond) ∈ W0 := List.mem_of_getElem? (i := 41) rfl
set_option maxRecDepth 100000 in
theorem wd_42 : (.initialized RXJ : Cond) ∈ W0 := List.mem_of_getElem? (i := 42) rfl
set_option maxRecDepth 100000 in
theorem wd_43 : (.initialized "java/lang/Math" : Cond) ∈ W0 := List.mem_of_getElem? (i := 43) rfl
set_option maxRecDepth 100000 in
theorem wd_44 : (.classLink RXL 7 RXF : Cond) ∈ W0 := List.mem_of_getElem? (i := 44) rfl
set_option maxRecDepth 100000 in
theorem wd_45 : (.instantiable RXF 4 : Cond) ∈ W0 := List.mem_of_getElem? (i := 45) rfl
set_option maxRecDepth 100000 in
theorem wd_46 : (.methodLink RXL 15 yXF_init : Cond) ∈ W0 := List.mem_of_getElem? (i := 46) rfl
set_option maxRecDepth 100000 in
theorem wd_47 : (.instanceMethod yXF_init : Cond) ∈ W0 := List.mem_of_getElem? (i := 47) rfl
set_option maxRecDepth 100000 in
theorem wd_48 : (.code yXF_init cXF_init 2 none : Cond) ∈ W0 := List.mem_of_getElem? (i := 48) rfl
set_option maxRecDepth 100000 in
theorem wd_49 : (.methodLink RXF 1 objectInit : Cond) ∈ W0 := List.mem_of_getElem? (i := 49) rfl
set_option maxRecDepth 100000 in
theorem wd_50 : (.instanceMethod objectInit : Cond) ∈ W0 := List.mem_of_getElem? (i := 50) rfl
set_option maxRecDepth 100000 in
theorem wd_51 : (.code objectInit ⟨#[0xb1]⟩ 1 none : Cond) ∈ W0 := List.mem_of_getElem? (i := 51) rfl
set_option maxRecDepth 100000 in
theorem wd_52 : (.classLink RXF 7 RXG : Cond) ∈ W0 := List.mem_of_getElem? (i := 52) rfl
set_option maxRecDepth 100000 in
theorem wd_53 : (.instantiable RXG 2 : Cond) ∈ W0 := List.mem_of_getElem? (i := 53) rfl
set_option maxRecDepth 100000 in
theorem wd_54 : (.methodLink RXF 11 yXG_init : Cond) ∈ W0 := List.mem_of_getElem? (i := 54) rfl
set_option maxRecDepth 100000 in
theorem wd_55 : (.instanceMethod yXG_init : Cond) ∈ W0 := List.mem_of_getElem? (i := 55) rfl
set_option maxRecDepth 100000 in
theorem wd_56 : (.code yXG_init cXG_init 2 none : Cond) ∈ W0 := List.mem_of_getElem? (i := 56) rfl
set_option maxRecDepth 100000 in
theorem wd_57 : (.methodLink RXG 1 objectInit : Cond) ∈ W0 := List.mem_of_getElem? (i := 57) rfl
set_option maxRecDepth 100000 in
theorem wd_58 : (.fieldLink RXG 7 "SplitForest$Graph" "size" "I" : Cond) ∈ W0 := List.mem_of_getElem? (i := 58) rfl
set_option maxRecDepth 100000 in
theorem wd_59 : (.fieldLink RXG 13 "SplitForest$Graph" "near" "[I" : Cond) ∈ W0 := List.mem_of_getElem? (i := 59) rfl
set_option maxRecDepth 100000 in
theorem wd_60 : (.laysFinal RXG "SplitForest$Graph" "size" "I" : Cond) ∈ W0 := List.mem_of_getElem? (i := 60) rfl
set_option maxRecDepth 100000 in
theorem wd_61 : (.laysFinal RXG "SplitForest$Graph" "near" "[I" : Cond) ∈ W0 := List.mem_of_getElem? (i := 61) rfl
set_option maxRecDepth 100000 in
theorem wd_62 : (.arrayClass .int : Cond) ∈ W0 := List.mem_of_getElem? (i := 62) rfl
set_option maxRecDepth 100000 in
theorem wd_63 : (.classLink RXF 18 RXT : Cond) ∈ W0 := List.mem_of_getElem? (i := 63) rfl
set_option maxRecDepth 100000 in
theorem wd_64 : (.instantiable RXT 10 : Cond) ∈ W0 := List.mem_of_getElem? (i := 64) rfl
set_option maxRecDepth 100000 in
theorem wd_65 : (.methodLink RXF 20 yXT_init : Cond) ∈ W0 := List.mem_of_getElem? (i := 65) rfl
set_option maxRecDepth 100000 in
theorem wd_66 : (.instanceMethod yXT_init : Cond) ∈ W0 := List.mem_of_getElem? (i := 66) rfl
set_option maxRecDepth 100000 in
theorem wd_67 : (.code yXT_init cXT_init 2 none : Cond) ∈ W0 := List.mem_of_getElem? (i := 67) rfl
set_option maxRecDepth 100000 in
theorem wd_68 : (.methodLink RXT 3 objectInit : Cond) ∈ W0 := List.mem_of_getElem? (i := 68) rfl
set_option maxRecDepth 100000 in
theorem wd_69 : (.methodLink RXT 15 yXG_size : Cond) ∈ W0 := List.mem_of_getElem? (i := 69) rfl
set_option maxRecDepth 100000 in
theorem wd_70 : (.instanceMethod yXG_size : Cond) ∈ W0 := List.mem_of_getElem? (i := 70) rfl
set_option maxRecDepth 100000 in
theorem wd_71 : (.selects RXG yXG_size yXG_size : Cond) ∈ W0 := List.mem_of_getElem? (i := 71) rfl
set_option maxRecDepth 100000 in
theorem wd_72 : (.code yXG_size cXG_size 1 (some .int) : Cond) ∈ W0 := List.mem_of_getElem? (i := 72) rfl
set_option maxRecDepth 100000 in
theorem wd_73 : (.fieldLink RXT 9 "SplitForest$SplitTree" "graph" "LSplitForest$Graph;" : Cond) ∈ W0 := List.mem_of_getElem? (i := 73) rfl
set_option maxRecDepth 100000 in
theorem wd_74 : (.fieldLink RXT 21 "SplitForest$SplitTree" "splitSets" "[I" : Cond) ∈ W0 := List.mem_of_getElem? (i := 74) rfl
set_option maxRecDepth 100000 in
theorem wd_75 : (.fieldLink RXT 44 "SplitForest$SplitTree" "splitCount" "I" : Cond) ∈ W0 := List.mem_of_getElem? (i := 75) rfl
set_option maxRecDepth 100000 in
theorem wd_76 : (.fieldLink RXT 25 "SplitForest$SplitTree" "nodeSets" "[I" : Cond) ∈ W0 := List.mem_of_getElem? (i := 76) rfl
set_option maxRecDepth 100000 in
theorem wd_77 : (.fieldLink RXT 47 "SplitForest$SplitTree" "nodeCount" "I" : Cond) ∈ W0 := List.mem_of_getElem? (i := 77) rfl
set_option maxRecDepth 100000 in
theorem wd_78 : (.fieldLink RXT 28 "SplitForest$SplitTree" "partSets" "[I" : Cond) ∈ W0 := List.mem_of_getElem? (i := 78) rfl
set_option maxRecDepth 100000 in
theorem wd_79 : (.fieldLink RXT 31 "SplitForest$SplitTree" "degrees" "[I" : Cond) ∈ W0 := List.mem_of_getElem? (i := 79) rfl
set_option maxRecDepth 100000 in
theorem wd_80 : (.fieldLink RXT 54 "SplitForest$SplitTree" "partCount" "I" : Cond) ∈ W0 := List.mem_of_getElem? (i := 80) rfl
set_option maxRecDepth 100000 in
theorem wd_81 : (.fieldLink RXT 60 "SplitForest$SplitTree" "pairsJoined" "I" : Cond) ∈ W0 := List.mem_of_getElem? (i := 81) rfl
set_option maxRecDepth 100000 in
theorem wd_82 : (.fieldLink RXT 34 "SplitForest$SplitTree" "whole" "I" : Cond) ∈ W0 := List.mem_of_getElem? (i := 82) rfl
set_option maxRecDepth 100000 in
theorem wd_83 : (.laysFinal RXT "SplitForest$SplitTree" "graph" "LSplitForest$Graph;" : Cond) ∈ W0 := List.mem_of_getElem? (i := 83) rfl
set_option maxRecDepth 100000 in
theorem wd_84 : (.laysFinal RXT "SplitForest$SplitTree" "splitSets" "[I" : Cond) ∈ W0 := List.mem_of_getElem? (i := 84) rfl
set_option maxRecDepth 100000 in
theorem wd_85 : (.lays RXT "SplitForest$SplitTree" "splitCount" "I" : Cond) ∈ W0 := List.mem_of_getElem? (i := 85) rfl
set_option maxRecDepth 100000 in
theorem wd_86 : (.laysFinal RXT "SplitForest$SplitTree" "nodeSets" "[I" : Cond) ∈ W0 := List.mem_of_getElem? (i := 86) rfl
set_option maxRecDepth 100000 in
theorem wd_87 : (.lays RXT "SplitForest$SplitTree" "nodeCount" "I" : Cond) ∈ W0 := List.mem_of_getElem? (i := 87) rfl
set_option maxRecDepth 100000 in
theorem wd_88 : (.laysFinal RXT "SplitForest$SplitTree" "partSets" "[I" : Cond) ∈ W0 := List.mem_of_getElem? (i := 88) rfl
set_option maxRecDepth 100000 in
theorem wd_89 : (.laysFinal RXT "SplitForest$SplitTree" "degrees" "[I" : Cond) ∈ W0 := List.mem_of_getElem? (i := 89) rfl
set_option maxRecDepth 100000 in
theorem wd_90 : (.lays RXT "SplitForest$SplitTree" "partCount" "I" : Cond) ∈ W0 := List.mem_of_getElem? (i := 90) rfl
set_option maxRecDepth 100000 in
theorem wd_91 : (.lays RXT "SplitForest$SplitTree" "pairsJoined" "I" : Cond) ∈ W0 := List.mem_of_getElem? (i := 91) rfl
set_option maxRecDepth 100000 in
theorem wd_92 : (.lays RXT "SplitForest$SplitTree" "whole" "I" : Cond) ∈ W0 := List.mem_of_getElem? (i := 92) rfl
set_option maxRecDepth 100000 in
theorem wd_93 : (.classLink RXF 27 RXE : Cond) ∈ W0 := List.mem_of_getElem? (i := 93) rfl
set_option maxRecDepth 100000 in
theorem wd_94 : (.instantiable RXE 4 : Cond) ∈ W0 := List.mem_of_getElem? (i := 94) rfl
set_option maxRecDepth 100000 in
theorem wd_95 : (.methodLink RXF 29 yXE_init : Cond) ∈ W0 := List.mem_of_getElem? (i := 95) rfl
set_option maxRecDepth 100000 in
theorem wd_96 : (.instanceMethod yXE_init : Cond) ∈ W0 := List.mem_of_getElem? (i := 96) rfl
set_option maxRecDepth 100000 in
theorem wd_97 : (.code yXE_init cXE_init 2 none : Cond) ∈ W0 := List.mem_of_getElem? (i := 97) rfl
set_option maxRecDepth 100000 in
theorem wd_98 : (.methodLink RXE 3 objectInit : Cond) ∈ W0 := List.mem_of_getElem? (i := 98) rfl
set_option maxRecDepth 100000 in
theorem wd_99 : (.methodLink RXE 15 yXG_size : Cond) ∈ W0 := List.mem_of_getElem? (i := 99) rfl
set_option maxRecDepth 100000 in
theorem wd_100 : (.fieldLink RXE 9 "SplitForest$Elimination" "graph" "LSplitForest$Graph;" : Cond) ∈ W0 := List.mem_of_getElem? (i := 100) rfl
set_option maxRecDepth 100000 in
theorem wd_101 : (.fieldLink RXE 21 "SplitForest$Elimination" "steps" "[I" : Cond) ∈ W0 := List.mem_of_getElem? (i := 101) rfl
set_option maxRecDepth 100000 in
theorem wd_102 : (.fieldLink RXE 29 "SplitForest$Elimination" "stepCount" "I" : Cond) ∈ W0 := List.mem_of_getElem? (i := 102) rfl
set_option maxRecDepth 100000 in
theorem wd_103 : (.fieldLink RXE 41 "SplitForest$Elimination" "left" "I" : Cond) ∈ W0 := List.mem_of_getElem? (i := 103) rfl
set_option maxRecDepth 100000 in
theorem wd_104 : (.laysFinal RXE "SplitForest$Elimination" "graph" "LSplitForest$Graph;" : Cond) ∈ W0 := List.mem_of_getElem? (i := 104) rfl
set_option maxRecDepth 100000 in
theorem wd_105 : (.laysFinal RXE "SplitForest$Elimination" "steps" "[I" : Cond) ∈ W0 := List.mem_of_getElem? (i := 105) rfl
set_option maxRecDepth 100000 in
theorem wd_106 : (.lays RXE "SplitForest$Elimination" "stepCount" "I" : Cond) ∈ W0 := List.mem_of_getElem? (i := 106) rfl
set_option maxRecDepth 100000 in
theorem wd_107 : (.lays RXE "SplitForest$Elimination" "left" "I" : Cond) ∈ W0 := List.mem_of_getElem? (i := 107) rfl
set_option maxRecDepth 100000 in
theorem wd_108 : (.classLink RXF 34 RXC : Cond) ∈ W0 := List.mem_of_getElem? (i := 108) rfl
set_option maxRecDepth 100000 in
theorem wd_109 : (.instantiable RXC 2 : Cond) ∈ W0 := List.mem_of_getElem? (i := 109) rfl
set_option maxRecDepth 100000 in
theorem wd_110 : (.methodLink RXF 36 yXC_init : Cond) ∈ W0 := List.mem_of_getElem? (i := 110) rfl
set_option maxRecDepth 100000 in
theorem wd_111 : (.instanceMethod yXC_init : Cond) ∈ W0 := List.mem_of_getElem? (i := 111) rfl
set_option maxRecDepth 100000 in
theorem wd_112 : (.code yXC_init cXC_init 2 none : Cond) ∈ W0 := List.mem_of_getElem? (i := 112) rfl
set_option maxRecDepth 100000 in
theorem wd_113 : (.methodLink RXC 1 objectInit : Cond) ∈ W0 := List.mem_of_getElem? (i := 113) rfl
set_option maxRecDepth 100000 in
theorem wd_114 : (.methodLink RXC 13 yXG_size : Cond) ∈ W0 := List.mem_of_getElem? (i := 114) rfl
set_option maxRecDepth 100000 in
theorem wd_115 : (.fieldLink RXC 7 "SplitForest$Choice" "graph" "LSplitForest$Graph;" : Cond) ∈ W0 := List.mem_of_getElem? (i := 115) rfl
set_option maxRecDepth 100000 in
theorem wd_116 : (.fieldLink RXC 19 "SplitForest$Choice" "fewest" "[I" : Cond) ∈ W0 := List.mem_of_getElem? (i := 116) rfl
set_option maxRecDepth 100000 in
theorem wd_117 : (.laysFinal RXC "SplitForest$Choice" "graph" "LSplitForest$Graph;" : Cond) ∈ W0 := List.mem_of_getElem? (i := 117) rfl
set_option maxRecDepth 100000 in
theorem wd_118 : (.laysFinal RXC "SplitForest$Choice" "fewest" "[I" : Cond) ∈ W0 := List.mem_of_getElem? (i := 118) rfl
set_option maxRecDepth 100000 in
theorem wd_119 : (.fieldLink RXF 14 "SplitForest" "graph" "LSplitForest$Graph;" : Cond) ∈ W0 := List.mem_of_getElem? (i := 119) rfl
set_option maxRecDepth 100000 in
theorem wd_120 : (.fieldLink RXF 23 "SplitForest" "tree" "LSplitForest$SplitTree;" : Cond) ∈ W0 := List.mem_of_getElem? (i := 120) rfl
set_option maxRecDepth 100000 in
theorem wd_121 : (.fieldLink RXF 30 "SplitForest" "elimination" "LSplitForest$Elimination;" : Cond) ∈ W0 := List.mem_of_getElem? (i := 121) rfl
set_option maxRecDepth 100000 in
theorem wd_122 : (.fieldLink RXF 37 "SplitForest" "choice" "LSplitForest$Choice;" : Cond) ∈ W0 := List.mem_of_getElem? (i := 122) rfl
set_option maxRecDepth 100000 in
theorem wd_123 : (.laysFinal RXF "SplitForest" "graph" "LSplitForest$Graph;" : Cond) ∈ W0 := List.mem_of_getElem? (i := 123) rfl
set_option maxRecDepth 100000 in
theorem wd_124 : (.laysFinal RXF "SplitForest" "tree" "LSplitForest$SplitTree;" : Cond) ∈ W0 := List.mem_of_getElem? (i := 124) rfl
set_option maxRecDepth 100000 in
theorem wd_125 : (.laysFinal RXF "SplitForest" "elimination" "LSplitForest$Elimination;" : Cond) ∈ W0 := List.mem_of_getElem? (i := 125) rfl
set_option maxRecDepth 100000 in
theorem wd_126 : (.laysFinal RXF "SplitForest" "choice" "LSplitForest$Choice;" : Cond) ∈ W0 := List.mem_of_getElem? (i := 126) rfl
set_option maxRecDepth 100000 in
theorem wd_127 : (.methodLink RXL 21 yXF_vertices : Cond) ∈ W0 := List.mem_of_getElem? (i := 127) rfl
set_option maxRecDepth 100000 in
theorem wd_128 : (.instanceMethod yXF_vertices : Cond) ∈ W0 := List.mem_of_getElem? (i := 128) rfl
set_option maxRecDepth 100000 in
theorem wd_129 : (.selects RXF yXF_vertices yXF_vertices : Cond) ∈ W0 := List.mem_of_getElem? (i := 129) rfl
set_option maxRecDepth 100000 in
theorem wd_130 : (.code yXF_vertices cXF_vertices 1 (some .int) : Cond) ∈ W0 := List.mem_of_getElem? (i := 130) rfl
set_option maxRecDepth 100000 in
theorem wd_131 : (.methodLink RXF 41 yXG_size : Cond) ∈ W0 := List.mem_of_getElem? (i := 131) rfl
set_option maxRecDepth 100000 in
theorem wd_132 : (.methodLink RXL 26 yXF_flip : Cond) ∈ W0 := List.mem_of_getElem? (i := 132) rfl
set_option maxRecDepth 100000 in
theorem wd_133 : (.instanceMethod yXF_flip : Cond) ∈ W0 := List.mem_of_getElem? (i := 133) rfl
set_option maxRecDepth 100000 in
theorem wd_134 : (.selects RXF yXF_flip yXF_flip : Cond) ∈ W0 := List.mem_of_getElem? (i := 134) rfl
set_option maxRecDepth 100000 in
theorem wd_135 : (.code yXF_flip cXF_flip 3 (some .boolean) : Cond) ∈ W0 := List.mem_of_getElem? (i := 135) rfl
set_option maxRecDepth 100000 in
theorem wd_136 : (.methodLink RXF 45 yXG_has : Cond) ∈ W0 := List.mem_of_getElem? (i := 136) rfl
set_option maxRecDepth 100000 in
theorem wd_137 : (.instanceMethod yXG_has : Cond) ∈ W0 := List.mem_of_getElem? (i := 137) rfl
set_option maxRecDepth 100000 in
theorem wd_138 : (.selects RXG yXG_has yXG_has : Cond) ∈ W0 := List.mem_of_getElem? (i := 138) rfl
set_option maxRecDepth 100000 in
theorem wd_139 : (.code yXG_has cXG_has 2 (some .boolean) : Cond) ∈ W0 := List.mem_of_getElem? (i := 139) rfl
set_option maxRecDepth 100000 in
theorem wd_140 : (.methodLink RXF 49 yXG_toggle : Cond) ∈ W0 := List.mem_of_getElem? (i := 140) rfl
set_option maxRecDepth 100000 in
theorem wd_141 : (.instanceMethod yXG_toggle : Cond) ∈ W0 := List.mem_of_getElem? (i := 141) rfl
set_option maxRecDepth 100000 in
theorem wd_142 : (.selects RXG yXG_toggle yXG_toggle : Cond) ∈ W0 := List.mem_of_getElem? (i := 142) rfl
set_option maxRecDepth 100000 in
theorem wd_143 : (.code yXG_toggle cXG_toggle 3 none : Cond) ∈ W0 := List.mem_of_getElem? (i := 143) rfl
set_option maxRecDepth 100000 in
theorem wd_144 : (.methodLink RXF 53 yXT_forget : Cond) ∈ W0 := List.mem_of_getElem? (i := 144) rfl
set_option maxRecDepth 100000 in
theorem wd_145 : (.instanceMethod yXT_forget : Cond) ∈ W0 := List.mem_of_getElem? (i := 145) rfl
set_option maxRecDepth 100000 in
theorem wd_146 : (.selects RXT yXT_forget yXT_forget : Cond) ∈ W0 := List.mem_of_getElem? (i := 146) rfl
set_option maxRecDepth 100000 in
theorem wd_147 : (.code yXT_forget cXT_forget 1 none : Cond) ∈ W0 := List.mem_of_getElem? (i := 147) rfl
set_option maxRecDepth 100000 in
theorem wd_148 : (.methodLink RXF 56 yXG_edge : Cond) ∈ W0 := List.mem_of_getElem? (i := 148) rfl
set_option maxRecDepth 100000 in
theorem wd_149 : (.instanceMethod yXG_edge : Cond) ∈ W0 := List.mem_of_getElem? (i := 149) rfl
set_option maxRecDepth 100000 in
theorem wd_150 : (.selects RXG yXG_edge yXG_edge : Cond) ∈ W0 := List.mem_of_getElem? (i := 150) rfl
set_option maxRecDepth 100000 in
theorem wd_151 : (.code yXG_edge cXG_edge 3 (some .boolean) : Cond) ∈ W0 := List.mem_of_getElem? (i := 151) rfl
set_option maxRecDepth 100000 in
theorem wd_152 : (.static yXF_contains : Cond) ∈ W0 := List.mem_of_getElem? (i := 152) rfl
set_option maxRecDepth 100000 in
theorem wd_153 : (.code yXF_contains cXF_contains 2 (some .boolean) : Cond) ∈ W0 := List.mem_of_getElem? (i := 153) rfl
set_option maxRecDepth 100000 in
theorem wd_154 : (.methodLink RXL 31 yXF_neighbours : Cond) ∈ W0 := List.mem_of_getElem? (i := 154) rfl
set_option maxRecDepth 100000 in
theorem wd_155 : (.instanceMethod yXF_neighbours : Cond) ∈ W0 := List.mem_of_getElem? (i := 155) rfl
set_option maxRecDepth 100000 in
theorem wd_156 : (.selects RXF yXF_neighbours yXF_neighbours : Cond) ∈ W0 := List.mem_of_getElem? (i := 156) rfl
set_option maxRecDepth 100000 in
theorem wd_157 : (.code yXF_neighbours cXF_neighbours 3 (some .boolean) : Cond) ∈ W0 := List.mem_of_getElem? (i := 157) rfl
set_option maxRecDepth 100000 in
theorem wd_158 : (.methodLink RXL 35 yXF_component : Cond) ∈ W0 := List.mem_of_getElem? (i := 158) rfl
set_option maxRecDepth 100000 in
theorem wd_159 : (.instanceMethod yXF_component : Cond) ∈ W0 := List.mem_of_getElem? (i := 159) rfl
set_option maxRecDepth 100000 in
theorem wd_160 : (.selects RXF yXF_component yXF_component : Cond) ∈ W0 := List.mem_of_getElem? (i := 160) rfl
set_option maxRecDepth 100000 in
theorem wd_161 : (.code yXF_component cXF_component 2 (some .int) : Cond) ∈ W0 := List.mem_of_getElem? (i := 161) rfl
set_option maxRecDepth 100000 in
theorem wd_162 : (.methodLink RXF 60 yXF_componentOf : Cond) ∈ W0 := List.mem_of_getElem? (i := 162) rfl
set_option maxRecDepth 100000 in
theorem wd_163 : (.instanceMethod yXF_componentOf : Cond) ∈ W0 := List.mem_of_getElem? (i := 163) rfl
set_option maxRecDepth 100000 in
theorem wd_164 : (.code yXF_componentOf cXF_componentOf 2 (some .int) : Cond) ∈ W0 := List.mem_of_getElem? (i := 164) rfl
set_option maxRecDepth 100000 in
theorem wd_165 : (.methodLink RXF 128 yXG_all : Cond) ∈ W0 := List.mem_of_getElem? (i := 165) rfl
set_option maxRecDepth 100000 in
theorem wd_166 : (.instanceMethod yXG_all : Cond) ∈ W0 := List.mem_of_getElem? (i := 166) rfl
set_option maxRecDepth 100000 in
theorem wd_167 : (.selects RXG yXG_all yXG_all : Cond) ∈ W0 := List.mem_of_getElem? (i := 167) rfl
set_option maxRecDepth 100000 in
theorem wd_168 : (.code yXG_all cXG_all 1 (some .int) : Cond) ∈ W0 := List.mem_of_getElem? (i := 168) rfl
set_option maxRecDepth 100000 in
theorem wd_169 : (.methodLink RXF 131 yXG_reached : Cond) ∈ W0 := List.mem_of_getElem? (i := 169) rfl
set_option maxRecDepth 100000 in
theorem wd_170 : (.instanceMethod yXG_reached : Cond) ∈ W0 := List.mem_of_getElem? (i := 170) rfl
set_option maxRecDepth 100000 in
theorem wd_171 : (.selects RXG yXG_reached yXG_reached : Cond) ∈ W0 := List.mem_of_getElem? (i := 171) rfl
set_option maxRecDepth 100000 in
theorem wd_172 : (.code yXG_reached cXG_reached 6 (some .int) : Cond) ∈ W0 := List.mem_of_getElem? (i := 172) rfl
set_option maxRecDepth 100000 in
theorem wd_173 : (.methodLink RXG 23 yXG_nearToAny : Cond) ∈ W0 := List.mem_of_getElem? (i := 173) rfl
set_option maxRecDepth 100000 in
theorem wd_174 : (.instanceMethod yXG_nearToAny : Cond) ∈ W0 := List.mem_of_getElem? (i := 174) rfl
set_option maxRecDepth 100000 in
theorem wd_175 : (.code yXG_nearToAny cXG_nearToAny 5 (some .int) : Cond) ∈ W0 := List.mem_of_getElem? (i := 175) rfl
set_option maxRecDepth 100000 in
theorem wd_176 : (.methodLink RXL 40 yXF_splits : Cond) ∈ W0 := List.mem_of_getElem? (i := 176) rfl
set_option maxRecDepth 100000 in
theorem wd_177 : (.instanceMethod yXF_splits : Cond) ∈ W0 := List.mem_of_getElem? (i := 177) rfl
set_option maxRecDepth 100000 in
theorem wd_178 : (.selects RXF yXF_splits yXF_splits : Cond) ∈ W0 := List.mem_of_getElem? (i := 178) rfl
set_option maxRecDepth 100000 in
theorem wd_179 : (.code yXF_splits cXF_splits 2 (some .int) : Cond) ∈ W0 := List.mem_of_getElem? (i := 179) rfl
set_option maxRecDepth 100000 in
theorem wd_180 : (.methodLink RXF 64 yXF_treeOf : Cond) ∈ W0 := List.mem_of_getElem? (i := 180) rfl
set_option maxRecDepth 100000 in
theorem wd_181 : (.instanceMethod yXF_treeOf : Cond) ∈ W0 := List.mem_of_getElem? (i := 181) rfl
set_option maxRecDepth 100000 in
theorem wd_182 : (.code yXF_treeOf cXF_treeOf 2 (some (.object "SplitForest$SplitTree")) : Cond) ∈ W0 := List.mem_of_getElem? (i := 182) rfl
set_option maxRecDepth 100000 in
theorem wd_183 : (.methodLink RXF 134 yXT_growFor : Cond) ∈ W0 := List.mem_of_getElem? (i := 183) rfl
set_option maxRecDepth 100000 in
theorem wd_184 : (.instanceMethod yXT_growFor : Cond) ∈ W0 := List.mem_of_getElem? (i := 184) rfl
set_option maxRecDepth 100000 in
theorem wd_185 : (.selects RXT yXT_growFor yXT_growFor : Cond) ∈ W0 := List.mem_of_getElem? (i := 185) rfl
set_option maxRecDepth 100000 in
theorem wd_186 : (.code yXT_growFor cXT_growFor 2 none : Cond) ∈ W0 := List.mem_of_getElem? (i := 186) rfl
set_option maxRecDepth 100000 in
theorem wd_187 : (.methodLink RXT 38 yXT_findSplits : Cond) ∈ W0 := List.mem_of_getElem? (i := 187) rfl
set_option maxRecDepth 100000 in
theorem wd_188 : (.instanceMethod yXT_findSplits : Cond) ∈ W0 := List.mem_of_getElem? (i := 188) rfl
set_option maxRecDepth 100000 in
theorem wd_189 : (.code yXT_findSplits cXT_findSplits 3 none : Cond) ∈ W0 := List.mem_of_getElem? (i := 189) rfl
set_option maxRecDepth 100000 in
theorem wd_190 : (.methodLink RXT 78 yXT_isSplit : Cond) ∈ W0 := List.mem_of_getElem? (i := 190) rfl
set_option maxRecDepth 100000 in
theorem wd_191 : (.instanceMethod yXT_isSplit : Cond) ∈ W0 := List.mem_of_getElem? (i := 191) rfl
set_option maxRecDepth 100000 in
theorem wd_192 : (.code yXT_isSplit cXT_isSplit 6 (some .boolean) : Cond) ∈ W0 := List.mem_of_getElem? (i := 192) rfl
set_option maxRecDepth 100000 in
theorem wd_193 : (.methodLink RXT 81 yXJ_bitCount : Cond) ∈ W0 := List.mem_of_getElem? (i := 193) rfl
set_option maxRecDepth 100000 in
theorem wd_194 : (.static yXJ_bitCount : Cond) ∈ W0 := List.mem_of_getElem? (i := 194) rfl
set_option maxRecDepth 100000 in
theorem wd_195 : (.code yXJ_bitCount cXJ_bitCount 1 (some .int) : Cond) ∈ W0 := List.mem_of_getElem? (i := 195) rfl
set_option maxRecDepth 100000 in
theorem wd_196 : (.constant RXJ 265 1431655765 : Cond) ∈ W0 := List.mem_of_getElem? (i := 196) rfl
set_option maxRecDepth 100000 in
theorem wd_197 : (.constant RXJ 266 858993459 : Cond) ∈ W0 := List.mem_of_getElem? (i := 197) rfl
set_option maxRecDepth 100000 in
theorem wd_198 : (.constant RXJ 267 252645135 : Cond) ∈ W0 := List.mem_of_getElem? (i := 198) rfl
set_option maxRecDepth 100000 in
theorem wd_199 : (.methodLink RXT 89 yXG_nearInside : Cond) ∈ W0 := List.mem_of_getElem? (i := 199) rfl
set_option maxRecDepth 100000 in
theorem wd_200 : (.instanceMethod yXG_nearInside : Cond) ∈ W0 := List.mem_of_getElem? (i := 200) rfl
set_option maxRecDepth 100000 in
theorem wd_201 : (.selects RXG yXG_nearInside yXG_nearInside : Cond) ∈ W0 := List.mem_of_getElem? (i := 201) rfl
set_option maxRecDepth 100000 in
theorem wd_202 : (.code yXG_nearInside cXG_nearInside 3 (some .int) : Cond) ∈ W0 := List.mem_of_getElem? (i := 202) rfl
set_option maxRecDepth 100000 in
theorem wd_203 : (.methodLink RXT 41 yXT_findNodes : Cond) ∈ W0 := List.mem_of_getElem? (i := 203) rfl
set_option maxRecDepth 100000 in
theorem wd_204 : (.instanceMethod yXT_findNodes : Cond) ∈ W0 := List.mem_of_getElem? (i := 204) rfl
set_option maxRecDepth 100000 in
theorem wd_205 : (.code yXT_findNodes cXT_findNodes 2 none : Cond) ∈ W0 := List.mem_of_getElem? (i := 205) rfl
set_option maxRecDepth 100000 in
theorem wd_206 : (.methodLink RXT 92 yXT_isStrong : Cond) ∈ W0 := List.mem_of_getElem? (i := 206) rfl
set_option maxRecDepth 100000 in
theorem wd_207 : (.instanceMethod yXT_isStrong : Cond) ∈ W0 := List.mem_of_getElem? (i := 207) rfl
set_option maxRecDepth 100000 in
theorem wd_208 : (.code yXT_isStrong cXT_isStrong 4 (some .boolean) : Cond) ∈ W0 := List.mem_of_getElem? (i := 208) rfl
set_option maxRecDepth 100000 in
theorem wd_209 : (.methodLink RXF 68 yXT_splitCount : Cond) ∈ W0 := List.mem_of_getElem? (i := 209) rfl
set_option maxRecDepth 100000 in
theorem wd_210 : (.instanceMethod yXT_splitCount : Cond) ∈ W0 := List.mem_of_getElem? (i := 210) rfl
set_option maxRecDepth 100000 in
theorem wd_211 : (.selects RXT yXT_splitCount yXT_splitCount : Cond) ∈ W0 := List.mem_of_getElem? (i := 211) rfl
set_option maxRecDepth 100000 in
theorem wd_212 : (.code yXT_splitCount cXT_splitCount 1 (some .int) : Cond) ∈ W0 := List.mem_of_getElem? (i := 212) rfl
set_option maxRecDepth 100000 in
theorem wd_213 : (.methodLink RXL 44 yXF_strong : Cond) ∈ W0 := List.mem_of_getElem? (i := 213) rfl
set_option maxRecDepth 100000 in
theorem wd_214 : (.instanceMethod yXF_strong : Cond) ∈ W0 := List.mem_of_getElem? (i := 214) rfl
set_option maxRecDepth 100000 in
theorem wd_215 : (.selects RXF yXF_strong yXF_strong : Cond) ∈ W0 := List.mem_of_getElem? (i := 215) rfl
set_option maxRecDepth 100000 in
theorem wd_216 : (.code yXF_strong cXF_strong 2 (some .int) : Cond) ∈ W0 := List.mem_of_getElem? (i := 216) rfl
set_option maxRecDepth 100000 in
theorem wd_217 : (.methodLink RXF 71 yXT_nodeCount : Cond) ∈ W0 := List.mem_of_getElem? (i := 217) rfl
set_option maxRecDepth 100000 in
theorem wd_218 : (.instanceMethod yXT_nodeCount : Cond) ∈ W0 := List.mem_of_getElem? (i := 218) rfl
set_option maxRecDepth 100000 in
theorem wd_219 : (.selects RXT yXT_nodeCount yXT_nodeCount : Cond) ∈ W0 := List.mem_of_getElem? (i := 219) rfl
set_option maxRecDepth 100000 in
theorem wd_220 : (.code yXT_nodeCount cXT_nodeCount 1 (some .int) : Cond) ∈ W0 := List.mem_of_getElem? (i := 220) rfl
set_option maxRecDepth 100000 in
theorem wd_221 : (.methodLink RXL 48 yXF_set : Cond) ∈ W0 := List.mem_of_getElem? (i := 221) rfl
set_option maxRecDepth 100000 in
theorem wd_222 : (.instanceMethod yXF_set : Cond) ∈ W0 := List.mem_of_getElem? (i := 222) rfl
set_option maxRecDepth 100000 in
theorem wd_223 : (.selects RXF yXF_set yXF_set : Cond) ∈ W0 := List.mem_of_getElem? (i := 223) rfl
set_option maxRecDepth 100000 in
theorem wd_224 : (.code yXF_set cXF_set 3 (some .int) : Cond) ∈ W0 := List.mem_of_getElem? (i := 224) rfl
set_option maxRecDepth 100000 in
theorem wd_225 : (.methodLink RXF 74 yXF_hasNode : Cond) ∈ W0 := List.mem_of_getElem? (i := 225) rfl
set_option maxRecDepth 100000 in
theorem wd_226 : (.instanceMethod yXF_hasNode : Cond) ∈ W0 := List.mem_of_getElem? (i := 226) rfl
set_option maxRecDepth 100000 in
theorem wd_227 : (.code yXF_hasNode cXF_hasNode 3 (some .boolean) : Cond) ∈ W0 := List.mem_of_getElem? (i := 227) rfl
set_option maxRecDepth 100000 in
theorem wd_228 : (.methodLink RXF 77 yXT_nodeSet : Cond) ∈ W0 := List.mem_of_getElem? (i := 228) rfl
set_option maxRecDepth 100000 in
theorem wd_229 : (.instanceMethod yXT_nodeSet : Cond) ∈ W0 := List.mem_of_getElem? (i := 229) rfl
set_option maxRecDepth 100000 in
theorem wd_230 : (.selects RXT yXT_nodeSet yXT_nodeSet : Cond) ∈ W0 := List.mem_of_getElem? (i := 230) rfl
set_option maxRecDepth 100000 in
theorem wd_231 : (.code yXT_nodeSet cXT_nodeSet 2 (some .int) : Cond) ∈ W0 := List.mem_of_getElem? (i := 231) rfl
set_option maxRecDepth 100000 in
theorem wd_232 : (.methodLink RXL 53 yXF_kind : Cond) ∈ W0 := List.mem_of_getElem? (i := 232) rfl
set_option maxRecDepth 100000 in
theorem wd_233 : (.instanceMethod yXF_kind : Cond) ∈ W0 := List.mem_of_getElem? (i := 233) rfl
set_option maxRecDepth 100000 in
theorem wd_234 : (.selects RXF yXF_kind yXF_kind : Cond) ∈ W0 := List.mem_of_getElem? (i := 234) rfl
set_option maxRecDepth 100000 in
theorem wd_235 : (.code yXF_kind cXF_kind 3 (some .int) : Cond) ∈ W0 := List.mem_of_getElem? (i := 235) rfl
set_option maxRecDepth 100000 in
theorem wd_236 : (.methodLink RXF 80 yXT_nodeKind : Cond) ∈ W0 := List.mem_of_getElem? (i := 236) rfl
set_option maxRecDepth 100000 in
theorem wd_237 : (.instanceMethod yXT_nodeKind : Cond) ∈ W0 := List.mem_of_getElem? (i := 237) rfl
set_option maxRecDepth 100000 in
theorem wd_238 : (.selects RXT yXT_nodeKind yXT_nodeKind : Cond) ∈ W0 := List.mem_of_getElem? (i := 238) rfl
set_option maxRecDepth 100000 in
theorem wd_239 : (.code yXT_nodeKind cXT_nodeKind 2 (some .int) : Cond) ∈ W0 := List.mem_of_getElem? (i := 239) rfl
set_option maxRecDepth 100000 in
theorem wd_240 : (.methodLink RXT 57 yXT_findJoins : Cond) ∈ W0 := List.mem_of_getElem? (i := 240) rfl
set_option maxRecDepth 100000 in
theorem wd_241 : (.instanceMethod yXT_findJoins : Cond) ∈ W0 := List.mem_of_getElem? (i := 241) rfl
set_option maxRecDepth 100000 in
theorem wd_242 : (.code yXT_findJoins cXT_findJoins 4 none : Cond) ∈ W0 := List.mem_of_getElem? (i := 242) rfl
set_option maxRecDepth 100000 in
theorem wd_243 : (.methodLink RXT 50 yXT_findParts : Cond) ∈ W0 := List.mem_of_getElem? (i := 243) rfl
set_option maxRecDepth 100000 in
theorem wd_244 : (.instanceMethod yXT_findParts : Cond) ∈ W0 := List.mem_of_getElem? (i := 244) rfl
set_option maxRecDepth 100000 in
theorem wd_245 : (.code yXT_findParts cXT_findParts 5 none : Cond) ∈ W0 := List.mem_of_getElem? (i := 245) rfl
set_option maxRecDepth 100000 in
theorem wd_246 : (.methodLink RXT 70 yXT_partWith : Cond) ∈ W0 := List.mem_of_getElem? (i := 246) rfl
set_option maxRecDepth 100000 in
theorem wd_247 : (.instanceMethod yXT_partWith : Cond) ∈ W0 := List.mem_of_getElem? (i := 247) rfl
set_option maxRecDepth 100000 in
theorem wd_248 : (.code yXT_partWith cXT_partWith 7 (some .int) : Cond) ∈ W0 := List.mem_of_getElem? (i := 248) rfl
set_option maxRecDepth 100000 in
theorem wd_249 : (.methodLink RXT 96 yXT_addPart : Cond) ∈ W0 := List.mem_of_getElem? (i := 249) rfl
set_option maxRecDepth 100000 in
theorem wd_250 : (.instanceMethod yXT_addPart : Cond) ∈ W0 := List.mem_of_getElem? (i := 250) rfl
set_option maxRecDepth 100000 in
theorem wd_251 : (.code yXT_addPart cXT_addPart 3 none : Cond) ∈ W0 := List.mem_of_getElem? (i := 251) rfl
set_option maxRecDepth 100000 in
theorem wd_252 : (.methodLink RXT 74 yXG_joined : Cond) ∈ W0 := List.mem_of_getElem? (i := 252) rfl
set_option maxRecDepth 100000 in
theorem wd_253 : (.instanceMethod yXG_joined : Cond) ∈ W0 := List.mem_of_getElem? (i := 253) rfl
set_option maxRecDepth 100000 in
theorem wd_254 : (.selects RXG yXG_joined yXG_joined : Cond) ∈ W0 := List.mem_of_getElem? (i := 254) rfl
set_option maxRecDepth 100000 in
theorem wd_255 : (.code yXG_joined cXG_joined 3 (some .boolean) : Cond) ∈ W0 := List.mem_of_getElem? (i := 255) rfl
set_option maxRecDepth 100000 in
theorem wd_256 : (.methodLink RXT 63 yXT_centreIndex : Cond) ∈ W0 := List.mem_of_getElem? (i := 256) rfl
set_option maxRecDepth 100000 in
theorem wd_257 : (.instanceMethod yXT_centreIndex : Cond) ∈ W0 := List.mem_of_getElem? (i := 257) rfl
set_option maxRecDepth 100000 in
theorem wd_258 : (.code yXT_centreIndex cXT_centreIndex 2 (some .int) : Cond) ∈ W0 := List.mem_of_getElem? (i := 258) rfl
set_option maxRecDepth 100000 in
theorem wd_259 : (.methodLink RXL 57 yXF_parts : Cond) ∈ W0 := List.mem_of_getElem? (i := 259) rfl
set_option maxRecDepth 100000 in
theorem wd_260 : (.instanceMethod yXF_parts : Cond) ∈ W0 := List.mem_of_getElem? (i := 260) rfl
set_option maxRecDepth 100000 in
theorem wd_261 : (.selects RXF yXF_parts yXF_parts : Cond) ∈ W0 := List.mem_of_getElem? (i := 261) rfl
set_option maxRecDepth 100000 in
theorem wd_262 : (.code yXF_parts cXF_parts 3 (some .int) : Cond) ∈ W0 := List.mem_of_getElem? (i := 262) rfl
set_option maxRecDepth 100000 in
theorem wd_263 : (.methodLink RXF 83 yXT_partCount : Cond) ∈ W0 := List.mem_of_getElem? (i := 263) rfl
set_option maxRecDepth 100000 in
theorem wd_264 : (.instanceMethod yXT_partCount : Cond) ∈ W0 := List.mem_of_getElem? (i := 264) rfl
set_option maxRecDepth 100000 in
theorem wd_265 : (.selects RXT yXT_partCount yXT_partCount : Cond) ∈ W0 := List.mem_of_getElem? (i := 265) rfl
set_option maxRecDepth 100000 in
theorem wd_266 : (.code yXT_partCount cXT_partCount 2 (some .int) : Cond) ∈ W0 := List.mem_of_getElem? (i := 266) rfl
set_option maxRecDepth 100000 in
theorem wd_267 : (.methodLink RXL 61 yXF_part : Cond) ∈ W0 := List.mem_of_getElem? (i := 267) rfl
set_option maxRecDepth 100000 in
theorem wd_268 : (.instanceMethod yXF_part : Cond) ∈ W0 := List.mem_of_getElem? (i := 268) rfl
set_option maxRecDepth 100000 in
theorem wd_269 : (.selects RXF yXF_part yXF_part : Cond) ∈ W0 := List.mem_of_getElem? (i := 269) rfl
set_option maxRecDepth 100000 in
theorem wd_270 : (.code yXF_part cXF_part 4 (some .int) : Cond) ∈ W0 := List.mem_of_getElem? (i := 270) rfl
set_option maxRecDepth 100000 in
theorem wd_271 : (.methodLink RXF 86 yXT_partSet : Cond) ∈ W0 := List.mem_of_getElem? (i := 271) rfl
set_option maxRecDepth 100000 in
theorem wd_272 : (.instanceMethod yXT_partSet : Cond) ∈ W0 := List.mem_of_getElem? (i := 272) rfl
set_option maxRecDepth 100000 in
theorem wd_273 : (.selects RXT yXT_partSet yXT_partSet : Cond) ∈ W0 := List.mem_of_getElem? (i := 273) rfl
set_option maxRecDepth 100000 in
theorem wd_274 : (.code yXT_partSet cXT_partSet 3 (some .int) : Cond) ∈ W0 := List.mem_of_getElem? (i := 274) rfl
set_option maxRecDepth 100000 in
theorem wd_275 : (.methodLink RXL 66 yXF_centre : Cond) ∈ W0 := List.mem_of_getElem? (i := 275) rfl
set_option maxRecDepth 100000 in
theorem wd_276 : (.instanceMethod yXF_centre : Cond) ∈ W0 := List.mem_of_getElem? (i := 276) rfl
set_option maxRecDepth 100000 in
theorem wd_277 : (.selects RXF yXF_centre yXF_centre : Cond) ∈ W0 := List.mem_of_getElem? (i := 277) rfl
set_option maxRecDepth 100000 in
theorem wd_278 : (.code yXF_centre cXF_centre 3 (some .int) : Cond) ∈ W0 := List.mem_of_getElem? (i := 278) rfl
set_option maxRecDepth 100000 in
theorem wd_279 : (.methodLink RXF 90 yXT_centreSet : Cond) ∈ W0 := List.mem_of_getElem? (i := 279) rfl
set_option maxRecDepth 100000 in
theorem wd_280 : (.instanceMethod yXT_centreSet : Cond) ∈ W0 := List.mem_of_getElem? (i := 280) rfl
set_option maxRecDepth 100000 in
theorem wd_281 : (.selects RXT yXT_centreSet yXT_centreSet : Cond) ∈ W0 := List.mem_of_getElem? (i := 281) rfl
set_option maxRecDepth 100000 in
theorem wd_282 : (.code yXT_centreSet cXT_centreSet 2 (some .int) : Cond) ∈ W0 := List.mem_of_getElem? (i := 282) rfl
set_option maxRecDepth 100000 in
theorem wd_283 : (.methodLink RXT 66 yXT_nodeKind : Cond) ∈ W0 := List.mem_of_getElem? (i := 283) rfl
set_option maxRecDepth 100000 in
theorem wd_284 : (.methodLink RXL 70 yXF_linked : Cond) ∈ W0 := List.mem_of_getElem? (i := 284) rfl
set_option maxRecDepth 100000 in
theorem wd_285 : (.instanceMethod yXF_linked : Cond) ∈ W0 := List.mem_of_getElem? (i := 285) rfl
set_option maxRecDepth 100000 in
theorem wd_286 : (.selects RXF yXF_linked yXF_linked : Cond) ∈ W0 := List.mem_of_getElem? (i := 286) rfl
set_option maxRecDepth 100000 in
theorem wd_287 : (.code yXF_linked cXF_linked 3 (some .boolean) : Cond) ∈ W0 := List.mem_of_getElem? (i := 287) rfl
set_option maxRecDepth 100000 in
theorem wd_288 : (.methodLink RXF 93 yXF_contains : Cond) ∈ W0 := List.mem_of_getElem? (i := 288) rfl
set_option maxRecDepth 100000 in
theorem wd_289 : (.methodLink RXF 96 yXT_links : Cond) ∈ W0 := List.mem_of_getElem? (i := 289) rfl
set_option maxRecDepth 100000 in
theorem wd_290 : (.instanceMethod yXT_links : Cond) ∈ W0 := List.mem_of_getElem? (i := 290) rfl
set_option maxRecDepth 100000 in
theorem wd_291 : (.selects RXT yXT_links yXT_links : Cond) ∈ W0 := List.mem_of_getElem? (i := 291) rfl
set_option maxRecDepth 100000 in
theorem wd_292 : (.code yXT_links cXT_links 6 (some .boolean) : Cond) ∈ W0 := List.mem_of_getElem? (i := 292) rfl
set_option maxRecDepth 100000 in
theorem wd_293 : (.methodLink RXL 74 yXF_hereditary : Cond) ∈ W0 := List.mem_of_getElem? (i := 293) rfl
set_option maxRecDepth 100000 in
theorem wd_294 : (.instanceMethod yXF_hereditary : Cond) ∈ W0 := List.mem_of_getElem? (i := 294) rfl
set_option maxRecDepth 100000 in
theorem wd_295 : (.selects RXF yXF_hereditary yXF_hereditary : Cond) ∈ W0 := List.mem_of_getElem? (i := 295) rfl
set_option maxRecDepth 100000 in
theorem wd_296 : (.code yXF_hereditary cXF_hereditary 2 (some .boolean) : Cond) ∈ W0 := List.mem_of_getElem? (i := 296) rfl
set_option maxRecDepth 100000 in
theorem wd_297 : (.methodLink RXF 99 yXE_clears : Cond) ∈ W0 := List.mem_of_getElem? (i := 297) rfl
set_option maxRecDepth 100000 in
theorem wd_298 : (.instanceMethod yXE_clears : Cond) ∈ W0 := List.mem_of_getElem? (i := 298) rfl
set_option maxRecDepth 100000 in
theorem wd_299 : (.selects RXE yXE_clears yXE_clears : Cond) ∈ W0 := List.mem_of_getElem? (i := 299) rfl
set_option maxRecDepth 100000 in
theorem wd_300 : (.code yXE_clears cXE_clears 5 (some .boolean) : Cond) ∈ W0 := List.mem_of_getElem? (i := 300) rfl
set_option maxRecDepth 100000 in
theorem wd_301 : (.methodLink RXE 37 yXG_reached : Cond) ∈ W0 := List.mem_of_getElem? (i := 301) rfl
set_option maxRecDepth 100000 in
theorem wd_302 : (.methodLink RXE 25 yXE_run : Cond) ∈ W0 := List.mem_of_getElem? (i := 302) rfl
set_option maxRecDepth 100000 in
theorem wd_303 : (.instanceMethod yXE_run : Cond) ∈ W0 := List.mem_of_getElem? (i := 303) rfl
set_option maxRecDepth 100000 in
theorem wd_304 : (.code yXE_run cXE_run 3 none : Cond) ∈ W0 := List.mem_of_getElem? (i := 304) rfl
set_option maxRecDepth 100000 in
theorem wd_305 : (.methodLink RXE 54 yXE_nextStep : Cond) ∈ W0 := List.mem_of_getElem? (i := 305) rfl
set_option maxRecDepth 100000 in
theorem wd_306 : (.instanceMethod yXE_nextStep : Cond) ∈ W0 := List.mem_of_getElem? (i := 306) rfl
set_option maxRecDepth 100000 in
theorem wd_307 : (.code yXE_nextStep cXE_nextStep 3 (some .int) : Cond) ∈ W0 := List.mem_of_getElem? (i := 307) rfl
set_option maxRecDepth 100000 in
theorem wd_308 : (.methodLink RXE 57 yXE_stepAt : Cond) ∈ W0 := List.mem_of_getElem? (i := 308) rfl
set_option maxRecDepth 100000 in
theorem wd_309 : (.instanceMethod yXE_stepAt : Cond) ∈ W0 := List.mem_of_getElem? (i := 309) rfl
set_option maxRecDepth 100000 in
theorem wd_310 : (.code yXE_stepAt cXE_stepAt 6 (some .int) : Cond) ∈ W0 := List.mem_of_getElem? (i := 310) rfl
set_option maxRecDepth 100000 in
theorem wd_311 : (.methodLink RXE 60 yXG_nearInside : Cond) ∈ W0 := List.mem_of_getElem? (i := 311) rfl
set_option maxRecDepth 100000 in
theorem wd_312 : (.methodLink RXE 44 yXJ_bitCount : Cond) ∈ W0 := List.mem_of_getElem? (i := 312) rfl
set_option maxRecDepth 100000 in
theorem wd_313 : (.methodLink RXE 63 yXG_areTwins : Cond) ∈ W0 := List.mem_of_getElem? (i := 313) rfl
set_option maxRecDepth 100000 in
theorem wd_314 : (.instanceMethod yXG_areTwins : Cond) ∈ W0 := List.mem_of_getElem? (i := 314) rfl
set_option maxRecDepth 100000 in
theorem wd_315 : (.selects RXG yXG_areTwins yXG_areTwins : Cond) ∈ W0 := List.mem_of_getElem? (i := 315) rfl
set_option maxRecDepth 100000 in
theorem wd_316 : (.code yXG_areTwins cXG_areTwins 5 (some .boolean) : Cond) ∈ W0 := List.mem_of_getElem? (i := 316) rfl
set_option maxRecDepth 100000 in
theorem wd_317 : (.methodLink RXL 79 yXF_step : Cond) ∈ W0 := List.mem_of_getElem? (i := 317) rfl
set_option maxRecDepth 100000 in
theorem wd_318 : (.instanceMethod yXF_step : Cond) ∈ W0 := List.mem_of_getElem? (i := 318) rfl
set_option maxRecDepth 100000 in
theorem wd_319 : (.selects RXF yXF_step yXF_step : Cond) ∈ W0 := List.mem_of_getElem? (i := 319) rfl
set_option maxRecDepth 100000 in
theorem wd_320 : (.code yXF_step cXF_step 3 (some .int) : Cond) ∈ W0 := List.mem_of_getElem? (i := 320) rfl
set_option maxRecDepth 100000 in
theorem wd_321 : (.methodLink RXF 102 yXE_stepOf : Cond) ∈ W0 := List.mem_of_getElem? (i := 321) rfl
set_option maxRecDepth 100000 in
theorem wd_322 : (.instanceMethod yXE_stepOf : Cond) ∈ W0 := List.mem_of_getElem? (i := 322) rfl
set_option maxRecDepth 100000 in
theorem wd_323 : (.selects RXE yXE_stepOf yXE_stepOf : Cond) ∈ W0 := List.mem_of_getElem? (i := 323) rfl
set_option maxRecDepth 100000 in
theorem wd_324 : (.code yXE_stepOf cXE_stepOf 3 (some .int) : Cond) ∈ W0 := List.mem_of_getElem? (i := 324) rfl
set_option maxRecDepth 100000 in
theorem wd_325 : (.methodLink RXL 83 yXF_obstruction : Cond) ∈ W0 := List.mem_of_getElem? (i := 325) rfl
set_option maxRecDepth 100000 in
theorem wd_326 : (.instanceMethod yXF_obstruction : Cond) ∈ W0 := List.mem_of_getElem? (i := 326) rfl
set_option maxRecDepth 100000 in
theorem wd_327 : (.selects RXF yXF_obstruction yXF_obstruction : Cond) ∈ W0 := List.mem_of_getElem? (i := 327) rfl
set_option maxRecDepth 100000 in
theorem wd_328 : (.code yXF_obstruction cXF_obstruction 2 (some .int) : Cond) ∈ W0 := List.mem_of_getElem? (i := 328) rfl
set_option maxRecDepth 100000 in
theorem wd_329 : (.methodLink RXF 105 yXE_obstructionIn : Cond) ∈ W0 := List.mem_of_getElem? (i := 329) rfl
set_option maxRecDepth 100000 in
theorem wd_330 : (.instanceMethod yXE_obstructionIn : Cond) ∈ W0 := List.mem_of_getElem? (i := 330) rfl
set_option maxRecDepth 100000 in
theorem wd_331 : (.selects RXE yXE_obstructionIn yXE_obstructionIn : Cond) ∈ W0 := List.mem_of_getElem? (i := 331) rfl
set_option maxRecDepth 100000 in
theorem wd_332 : (.code yXE_obstructionIn cXE_obstructionIn 5 (some .int) : Cond) ∈ W0 := List.mem_of_getElem? (i := 332) rfl
set_option maxRecDepth 100000 in
theorem wd_333 : (.methodLink RXE 50 yXE_clears : Cond) ∈ W0 := List.mem_of_getElem? (i := 333) rfl
set_option maxRecDepth 100000 in
theorem wd_334 : (.methodLink RXL 87 yXF_obstacle : Cond) ∈ W0 := List.mem_of_getElem? (i := 334) rfl
set_option maxRecDepth 100000 in
theorem wd_335 : (.instanceMethod yXF_obstacle : Cond) ∈ W0 := List.mem_of_getElem? (i := 335) rfl
set_option maxRecDepth 100000 in
theorem wd_336 : (.selects RXF yXF_obstacle yXF_obstacle : Cond) ∈ W0 := List.mem_of_getElem? (i := 336) rfl
set_option maxRecDepth 100000 in
theorem wd_337 : (.code yXF_obstacle cXF_obstacle 3 (some .int) : Cond) ∈ W0 := List.mem_of_getElem? (i := 337) rfl
set_option maxRecDepth 100000 in
theorem wd_338 : (.methodLink RXF 108 yXJ_bitCount : Cond) ∈ W0 := List.mem_of_getElem? (i := 338) rfl
set_option maxRecDepth 100000 in
theorem wd_339 : (.methodLink RXF 113 yXG_edgesInside : Cond) ∈ W0 := List.mem_of_getElem? (i := 339) rfl
set_option maxRecDepth 100000 in
theorem wd_340 : (.instanceMethod yXG_edgesInside : Cond) ∈ W0 := List.mem_of_getElem? (i := 340) rfl
set_option maxRecDepth 100000 in
theorem wd_341 : (.selects RXG yXG_edgesInside yXG_edgesInside : Cond) ∈ W0 := List.mem_of_getElem? (i := 341) rfl
set_option maxRecDepth 100000 in
theorem wd_342 : (.code yXG_edgesInside cXG_edgesInside 4 (some .int) : Cond) ∈ W0 := List.mem_of_getElem? (i := 342) rfl
set_option maxRecDepth 100000 in
theorem wd_343 : (.methodLink RXG 27 yXJ_bitCount : Cond) ∈ W0 := List.mem_of_getElem? (i := 343) rfl
set_option maxRecDepth 100000 in
theorem wd_344 : (.methodLink RXF 116 yXF_obstacleKind : Cond) ∈ W0 := List.mem_of_getElem? (i := 344) rfl
set_option maxRecDepth 100000 in
theorem wd_345 : (.static yXF_obstacleKind : Cond) ∈ W0 := List.mem_of_getElem? (i := 345) rfl
set_option maxRecDepth 100000 in
theorem wd_346 : (.code yXF_obstacleKind cXF_obstacleKind 2 (some .int) : Cond) ∈ W0 := List.mem_of_getElem? (i := 346) rfl
set_option maxRecDepth 100000 in
theorem wd_347 : (.methodLink RXL 91 yXF_apart : Cond) ∈ W0 := List.mem_of_getElem? (i := 347) rfl
set_option maxRecDepth 100000 in
theorem wd_348 : (.instanceMethod yXF_apart : Cond) ∈ W0 := List.mem_of_getElem? (i := 348) rfl
set_option maxRecDepth 100000 in
theorem wd_349 : (.selects RXF yXF_apart yXF_apart : Cond) ∈ W0 := List.mem_of_getElem? (i := 349) rfl
set_option maxRecDepth 100000 in
theorem wd_350 : (.code yXF_apart cXF_apart 2 (some .int) : Cond) ∈ W0 := List.mem_of_getElem? (i := 350) rfl
set_option maxRecDepth 100000 in
theorem wd_351 : (.methodLink RXF 119 yXF_hereditary : Cond) ∈ W0 := List.mem_of_getElem? (i := 351) rfl
set_option maxRecDepth 100000 in
theorem wd_352 : (.methodLink RXF 122 yXC_largestApart : Cond) ∈ W0 := List.mem_of_getElem? (i := 352) rfl
set_option maxRecDepth 100000 in
theorem wd_353 : (.instanceMethod yXC_largestApart : Cond) ∈ W0 := List.mem_of_getElem? (i := 353) rfl
set_option maxRecDepth 100000 in
theorem wd_354 : (.selects RXC yXC_largestApart yXC_largestApart : Cond) ∈ W0 := List.mem_of_getElem? (i := 354) rfl
set_option maxRecDepth 100000 in
theorem wd_355 : (.code yXC_largestApart cXC_largestApart 4 (some .int) : Cond) ∈ W0 := List.mem_of_getElem? (i := 355) rfl
set_option maxRecDepth 100000 in
theorem wd_356 : (.methodLink RXC 23 yXJ_bitCount : Cond) ∈ W0 := List.mem_of_getElem? (i := 356) rfl
set_option maxRecDepth 100000 in
theorem wd_357 : (.methodLink RXC 29 yXG_joined : Cond) ∈ W0 := List.mem_of_getElem? (i := 357) rfl
set_option maxRecDepth 100000 in
theorem wd_358 : (.methodLink RXL 95 yXF_chosen : Cond) ∈ W0 := List.mem_of_getElem? (i := 358) rfl
set_option maxRecDepth 100000 in
theorem wd_359 : (.instanceMethod yXF_chosen : Cond) ∈ W0 := List.mem_of_getElem? (i := 359) rfl
set_option maxRecDepth 100000 in
theorem wd_360 : (.selects RXF yXF_chosen yXF_chosen : Cond) ∈ W0 := List.mem_of_getElem? (i := 360) rfl
set_option maxRecDepth 100000 in
theorem wd_361 : (.code yXF_chosen cXF_chosen 2 (some .int) : Cond) ∈ W0 := List.mem_of_getElem? (i := 361) rfl
set_option maxRecDepth 100000 in
theorem wd_362 : (.methodLink RXL 99 yXF_cover : Cond) ∈ W0 := List.mem_of_getElem? (i := 362) rfl
set_option maxRecDepth 100000 in
theorem wd_363 : (.instanceMethod yXF_cover : Cond) ∈ W0 := List.mem_of_getElem? (i := 363) rfl
set_option maxRecDepth 100000 in
theorem wd_364 : (.selects RXF yXF_cover yXF_cover : Cond) ∈ W0 := List.mem_of_getElem? (i := 364) rfl
set_option maxRecDepth 100000 in
theorem wd_365 : (.code yXF_cover cXF_cover 2 (some .int) : Cond) ∈ W0 := List.mem_of_getElem? (i := 365) rfl
set_option maxRecDepth 100000 in
theorem wd_366 : (.methodLink RXF 125 yXC_fewestCliques : Cond) ∈ W0 := List.mem_of_getElem? (i := 366) rfl
set_option maxRecDepth 100000 in
theorem wd_367 : (.instanceMethod yXC_fewestCliques : Cond) ∈ W0 := List.mem_of_getElem? (i := 367) rfl
set_option maxRecDepth 100000 in
theorem wd_368 : (.selects RXC yXC_fewestCliques yXC_fewestCliques : Cond) ∈ W0 := List.mem_of_getElem? (i := 368) rfl
set_option maxRecDepth 100000 in
theorem wd_369 : (.code yXC_fewestCliques cXC_fewestCliques 4 (some .int) : Cond) ∈ W0 := List.mem_of_getElem? (i := 369) rfl
set_option maxRecDepth 100000 in
theorem wd_370 : (.methodLink RXC 38 yXC_coverWith : Cond) ∈ W0 := List.mem_of_getElem? (i := 370) rfl
set_option maxRecDepth 100000 in
theorem wd_371 : (.instanceMethod yXC_coverWith : Cond) ∈ W0 := List.mem_of_getElem? (i := 371) rfl
set_option maxRecDepth 100000 in
theorem wd_372 : (.code yXC_coverWith cXC_coverWith 4 none : Cond) ∈ W0 := List.mem_of_getElem? (i := 372) rfl
set_option maxRecDepth 100000 in
theorem wd_373 : (.methodLink RXC 42 yXC_fewestWith : Cond) ∈ W0 := List.mem_of_getElem? (i := 373) rfl
set_option maxRecDepth 100000 in
theorem wd_374 : (.instanceMethod yXC_fewestWith : Cond) ∈ W0 := List.mem_of_getElem? (i := 374) rfl
set_option maxRecDepth 100000 in
theorem wd_375 : (.code yXC_fewestWith cXC_fewestWith 6 (some .int) : Cond) ∈ W0 := List.mem_of_getElem? (i := 375) rfl
set_option maxRecDepth 100000 in
theorem wd_376 : (.methodLink RXC 46 yXG_nearInside : Cond) ∈ W0 := List.mem_of_getElem? (i := 376) rfl
set_option maxRecDepth 100000 in
theorem wd_377 : (.methodLink RXC 49 Lib.Math.min.name : Cond) ∈ W0 := List.mem_of_getElem? (i := 377) rfl
set_option maxRecDepth 100000 in
theorem wd_378 : (.static Lib.Math.min.name : Cond) ∈ W0 := List.mem_of_getElem? (i := 378) rfl
set_option maxRecDepth 100000 in
theorem wd_379 : (.code Lib.Math.min.name Lib.Math.min.code 2 (some .int) : Cond) ∈ W0 := List.mem_of_getElem? (i := 379) rfl
set_option maxRecDepth 100000 in
theorem wd_380 : (.methodLink RXL 9 yXL_cell : Cond) ∈ W0 := List.mem_of_getElem? (i := 380) rfl
set_option maxRecDepth 100000 in
theorem wd_381 : (.static yXL_cell : Cond) ∈ W0 := List.mem_of_getElem? (i := 381) rfl
set_option maxRecDepth 100000 in
theorem wd_382 : (.code yXL_cell cXL_cell 2 (some .int) : Cond) ∈ W0 := List.mem_of_getElem? (i := 382) rfl
set_option maxRecDepth 100000 in
theorem wd_383 : (.classLink RXL 18 RXM : Cond) ∈ W0 := List.mem_of_getElem? (i := 383) rfl
set_option maxRecDepth 100000 in
theorem wd_384 : (.instantiable RXM 12 : Cond) ∈ W0 := List.mem_of_getElem? (i := 384) rfl
set_option maxRecDepth 100000 in
theorem wd_385 : (.methodLink RXL 20 yXM_init : Cond) ∈ W0 := List.mem_of_getElem? (i := 385) rfl
set_option maxRecDepth 100000 in
theorem wd_386 : (.instanceMethod yXM_init : Cond) ∈ W0 := List.mem_of_getElem? (i := 386) rfl
set_option maxRecDepth 100000 in
theorem wd_387 : (.code yXM_init cXM_init 2 none : Cond) ∈ W0 := List.mem_of_getElem? (i := 387) rfl
set_option maxRecDepth 100000 in
theorem wd_388 : (.methodLink RXM 1 objectInit : Cond) ∈ W0 := List.mem_of_getElem? (i := 388) rfl
set_option maxRecDepth 100000 in
theorem wd_389 : (.fieldLink RXM 28 "SplitForestModel" "n" "I" : Cond) ∈ W0 := List.mem_of_getElem? (i := 389) rfl
set_option maxRecDepth 100000 in
theorem wd_390 : (.fieldLink RXM 7 "SplitForestModel" "near" "[I" : Cond) ∈ W0 := List.mem_of_getElem? (i := 390) rfl
set_option maxRecDepth 100000 in
theorem wd_391 : (.fieldLink RXM 40 "SplitForestModel" "splits" "I" : Cond) ∈ W0 := List.mem_of_getElem? (i := 391) rfl
set_option maxRecDepth 100000 in
theorem wd_392 : (.fieldLink RXM 13 "SplitForestModel" "split" "[I" : Cond) ∈ W0 := List.mem_of_getElem? (i := 392) rfl
set_option maxRecDepth 100000 in
theorem wd_393 : (.fieldLink RXM 54 "SplitForestModel" "strongs" "I" : Cond) ∈ W0 := List.mem_of_getElem? (i := 393) rfl
set_option maxRecDepth 100000 in
theorem wd_394 : (.fieldLink RXM 16 "SplitForestModel" "strong" "[I" : Cond) ∈ W0 := List.mem_of_getElem? (i := 394) rfl
set_option maxRecDepth 100000 in
theorem wd_395 : (.fieldLink RXM 73 "SplitForestModel" "parts" "I" : Cond) ∈ W0 := List.mem_of_getElem? (i := 395) rfl
set_option maxRecDepth 100000 in
theorem wd_396 : (.fieldLink RXM 19 "SplitForestModel" "part" "[I" : Cond) ∈ W0 := List.mem_of_getElem? (i := 396) rfl
set_option maxRecDepth 100000 in
theorem wd_397 : (.fieldLink RXM 96 "SplitForestModel" "steps" "I" : Cond) ∈ W0 := List.mem_of_getElem? (i := 397) rfl
set_option maxRecDepth 100000 in
theorem wd_398 : (.fieldLink RXM 22 "SplitForestModel" "step" "[I" : Cond) ∈ W0 := List.mem_of_getElem? (i := 398) rfl
set_option maxRecDepth 100000 in
theorem wd_399 : (.fieldLink RXM 102 "SplitForestModel" "whole" "Z" : Cond) ∈ W0 := List.mem_of_getElem? (i := 399) rfl
set_option maxRecDepth 100000 in
theorem wd_400 : (.fieldLink RXM 25 "SplitForestModel" "covers" "[I" : Cond) ∈ W0 := List.mem_of_getElem? (i := 400) rfl
set_option maxRecDepth 100000 in
theorem wd_401 : (.laysFinal RXM "SplitForestModel" "n" "I" : Cond) ∈ W0 := List.mem_of_getElem? (i := 401) rfl
set_option maxRecDepth 100000 in
theorem wd_402 : (.laysFinal RXM "SplitForestModel" "near" "[I" : Cond) ∈ W0 := List.mem_of_getElem? (i := 402) rfl
set_option maxRecDepth 100000 in
theorem wd_403 : (.lays RXM "SplitForestModel" "splits" "I" : Cond) ∈ W0 := List.mem_of_getElem? (i := 403) rfl
set_option maxRecDepth 100000 in
theorem wd_404 : (.laysFinal RXM "SplitForestModel" "split" "[I" : Cond) ∈ W0 := List.mem_of_getElem? (i := 404) rfl
set_option maxRecDepth 100000 in
theorem wd_405 : (.lays RXM "SplitForestModel" "strongs" "I" : Cond) ∈ W0 := List.mem_of_getElem? (i := 405) rfl
set_option maxRecDepth 100000 in
theorem wd_406 : (.laysFinal RXM "SplitForestModel" "strong" "[I" : Cond) ∈ W0 := List.mem_of_getElem? (i := 406) rfl
set_option maxRecDepth 100000 in
theorem wd_407 : (.lays RXM "SplitForestModel" "parts" "I" : Cond) ∈ W0 := List.mem_of_getElem? (i := 407) rfl
set_option maxRecDepth 100000 in
theorem wd_408 : (.laysFinal RXM "SplitForestModel" "part" "[I" : Cond) ∈ W0 := List.mem_of_getElem? (i := 408) rfl
set_option maxRecDepth 100000 in
theorem wd_409 : (.lays RXM "SplitForestModel" "steps" "I" : Cond) ∈ W0 := List.mem_of_getElem? (i := 409) rfl
set_option maxRecDepth 100000 in
theorem wd_410 : (.laysFinal RXM "SplitForestModel" "step" "[I" : Cond) ∈ W0 := List.mem_of_getElem? (i := 410) rfl
set_option maxRecDepth 100000 in
theorem wd_411 : (.lays RXM "SplitForestModel" "whole" "Z" : Cond) ∈ W0 := List.mem_of_getElem? (i := 411) rfl
set_option maxRecDepth 100000 in
theorem wd_412 : (.laysFinal RXM "SplitForestModel" "covers" "[I" : Cond) ∈ W0 := List.mem_of_getElem? (i := 412) rfl
set_option maxRecDepth 100000 in
theorem wd_413 : (.methodLink RXL 25 yXM_vertices : Cond) ∈ W0 := List.mem_of_getElem? (i := 413) rfl
set_option maxRecDepth 100000 in
theorem wd_414 : (.instanceMethod yXM_vertices : Cond) ∈ W0 := List.mem_of_getElem? (i := 414) rfl
set_option maxRecDepth 100000 in
theorem wd_415 : (.selects RXM yXM_vertices yXM_vertices : Cond) ∈ W0 := List.mem_of_getElem? (i := 415) rfl
set_option maxRecDepth 100000 in
theorem wd_416 : (.code yXM_vertices cXM_vertices 1 (some .int) : Cond) ∈ W0 := List.mem_of_getElem? (i := 416) rfl
set_option maxRecDepth 100000 in
theorem wd_417 : (.methodLink RXL 30 yXM_flip : Cond) ∈ W0 := List.mem_of_getElem? (i := 417) rfl
set_option maxRecDepth 100000 in
theorem wd_418 : (.instanceMethod yXM_flip : Cond) ∈ W0 := List.mem_of_getElem? (i := 418) rfl
set_option maxRecDepth 100000 in
theorem wd_419 : (.selects RXM yXM_flip yXM_flip : Cond) ∈ W0 := List.mem_of_getElem? (i := 419) rfl
set_option maxRecDepth 100000 in
theorem wd_420 : (.code yXM_flip cXM_flip 3 (some .boolean) : Cond) ∈ W0 := List.mem_of_getElem? (i := 420) rfl
set_option maxRecDepth 100000 in
theorem wd_421 : (.methodLink RXM 32 yXM_is : Cond) ∈ W0 := List.mem_of_getElem? (i := 421) rfl
set_option maxRecDepth 100000 in
theorem wd_422 : (.instanceMethod yXM_is : Cond) ∈ W0 := List.mem_of_getElem? (i := 422) rfl
set_option maxRecDepth 100000 in
theorem wd_423 : (.code yXM_is cXM_is 2 (some .boolean) : Cond) ∈ W0 := List.mem_of_getElem? (i := 423) rfl
set_option maxRecDepth 100000 in
theorem wd_424 : (.methodLink RXL 34 yXM_neighbours : Cond) ∈ W0 := List.mem_of_getElem? (i := 424) rfl
set_option maxRecDepth 100000 in
theorem wd_425 : (.instanceMethod yXM_neighbours : Cond) ∈ W0 := List.mem_of_getElem? (i := 425) rfl
set_option maxRecDepth 100000 in
theorem wd_426 : (.selects RXM yXM_neighbours yXM_neighbours : Cond) ∈ W0 := List.mem_of_getElem? (i := 426) rfl
set_option maxRecDepth 100000 in
theorem wd_427 : (.code yXM_neighbours cXM_neighbours 3 (some .boolean) : Cond) ∈ W0 := List.mem_of_getElem? (i := 427) rfl
set_option maxRecDepth 100000 in
theorem wd_428 : (.methodLink RXL 39 yXM_component : Cond) ∈ W0 := List.mem_of_getElem? (i := 428) rfl
set_option maxRecDepth 100000 in
theorem wd_429 : (.instanceMethod yXM_component : Cond) ∈ W0 := List.mem_of_getElem? (i := 429) rfl
set_option maxRecDepth 100000 in
theorem wd_430 : (.selects RXM yXM_component yXM_component : Cond) ∈ W0 := List.mem_of_getElem? (i := 430) rfl
set_option maxRecDepth 100000 in
theorem wd_431 : (.code yXM_component cXM_component 2 (some .int) : Cond) ∈ W0 := List.mem_of_getElem? (i := 431) rfl
set_option maxRecDepth 100000 in
theorem wd_432 : (.methodLink RXM 36 yXM_within : Cond) ∈ W0 := List.mem_of_getElem? (i := 432) rfl
set_option maxRecDepth 100000 in
theorem wd_433 : (.instanceMethod yXM_within : Cond) ∈ W0 := List.mem_of_getElem? (i := 433) rfl
set_option maxRecDepth 100000 in
theorem wd_434 : (.code yXM_within cXM_within 6 (some .int) : Cond) ∈ W0 := List.mem_of_getElem? (i := 434) rfl
set_option maxRecDepth 100000 in
theorem wd_435 : (.methodLink RXL 43 yXM_splits : Cond) ∈ W0 := List.mem_of_getElem? (i := 435) rfl
set_option maxRecDepth 100000 in
theorem wd_436 : (.instanceMethod yXM_splits : Cond) ∈ W0 := List.mem_of_getElem? (i := 436) rfl
set_option maxRecDepth 100000 in
theorem wd_437 : (.selects RXM yXM_splits yXM_splits : Cond) ∈ W0 := List.mem_of_getElem? (i := 437) rfl
set_option maxRecDepth 100000 in
theorem wd_438 : (.code yXM_splits cXM_splits 2 (some .int) : Cond) ∈ W0 := List.mem_of_getElem? (i := 438) rfl
set_option maxRecDepth 100000 in
theorem wd_439 : (.methodLink RXM 60 yXM_component : Cond) ∈ W0 := List.mem_of_getElem? (i := 439) rfl
set_option maxRecDepth 100000 in
theorem wd_440 : (.methodLink RXM 63 yXM_find : Cond) ∈ W0 := List.mem_of_getElem? (i := 440) rfl
set_option maxRecDepth 100000 in
theorem wd_441 : (.instanceMethod yXM_find : Cond) ∈ W0 := List.mem_of_getElem? (i := 441) rfl
set_option maxRecDepth 100000 in
theorem wd_442 : (.code yXM_find cXM_find 6 none : Cond) ∈ W0 := List.mem_of_getElem? (i := 442) rfl
set_option maxRecDepth 100000 in
theorem wd_443 : (.methodLink RXM 43 yXM_least : Cond) ∈ W0 := List.mem_of_getElem? (i := 443) rfl
set_option maxRecDepth 100000 in
theorem wd_444 : (.static yXM_least : Cond) ∈ W0 := List.mem_of_getElem? (i := 444) rfl
set_option maxRecDepth 100000 in
theorem wd_445 : (.code yXM_least cXM_least 2 (some .int) : Cond) ∈ W0 := List.mem_of_getElem? (i := 445) rfl
set_option maxRecDepth 100000 in
theorem wd_446 : (.methodLink RXM 47 yXM_size : Cond) ∈ W0 := List.mem_of_getElem? (i := 446) rfl
set_option maxRecDepth 100000 in
theorem wd_447 : (.static yXM_size : Cond) ∈ W0 := List.mem_of_getElem? (i := 447) rfl
set_option maxRecDepth 100000 in
theorem wd_448 : (.code yXM_size cXM_size 3 (some .int) : Cond) ∈ W0 := List.mem_of_getElem? (i := 448) rfl
set_option maxRecDepth 100000 in
theorem wd_449 : (.methodLink RXM 50 yXM_complete : Cond) ∈ W0 := List.mem_of_getElem? (i := 449) rfl
set_option maxRecDepth 100000 in
theorem wd_450 : (.instanceMethod yXM_complete : Cond) ∈ W0 := List.mem_of_getElem? (i := 450) rfl
set_option maxRecDepth 100000 in
theorem wd_451 : (.code yXM_complete cXM_complete 7 (some .boolean) : Cond) ∈ W0 := List.mem_of_getElem? (i := 451) rfl
set_option maxRecDepth 100000 in
theorem wd_452 : (.methodLink RXM 57 yXM_cross : Cond) ∈ W0 := List.mem_of_getElem? (i := 452) rfl
set_option maxRecDepth 100000 in
theorem wd_453 : (.static yXM_cross : Cond) ∈ W0 := List.mem_of_getElem? (i := 453) rfl
set_option maxRecDepth 100000 in
theorem wd_454 : (.code yXM_cross cXM_cross 2 (some .boolean) : Cond) ∈ W0 := List.mem_of_getElem? (i := 454) rfl
set_option maxRecDepth 100000 in
theorem wd_455 : (.methodLink RXL 47 yXM_strong : Cond) ∈ W0 := List.mem_of_getElem? (i := 455) rfl
set_option maxRecDepth 100000 in
theorem wd_456 : (.instanceMethod yXM_strong : Cond) ∈ W0 := List.mem_of_getElem? (i := 456) rfl
set_option maxRecDepth 100000 in
theorem wd_457 : (.selects RXM yXM_strong yXM_strong : Cond) ∈ W0 := List.mem_of_getElem? (i := 457) rfl
set_option maxRecDepth 100000 in
theorem wd_458 : (.code yXM_strong cXM_strong 2 (some .int) : Cond) ∈ W0 := List.mem_of_getElem? (i := 458) rfl
set_option maxRecDepth 100000 in
theorem wd_459 : (.methodLink RXL 52 yXM_set : Cond) ∈ W0 := List.mem_of_getElem? (i := 459) rfl
set_option maxRecDepth 100000 in
theorem wd_460 : (.instanceMethod yXM_set : Cond) ∈ W0 := List.mem_of_getElem? (i := 460) rfl
set_option maxRecDepth 100000 in
theorem wd_461 : (.selects RXM yXM_set yXM_set : Cond) ∈ W0 := List.mem_of_getElem? (i := 461) rfl
set_option maxRecDepth 100000 in
theorem wd_462 : (.code yXM_set cXM_set 3 (some .int) : Cond) ∈ W0 := List.mem_of_getElem? (i := 462) rfl
set_option maxRecDepth 100000 in
theorem wd_463 : (.methodLink RXM 67 yXM_nodeSet : Cond) ∈ W0 := List.mem_of_getElem? (i := 463) rfl
set_option maxRecDepth 100000 in
theorem wd_464 : (.instanceMethod yXM_nodeSet : Cond) ∈ W0 := List.mem_of_getElem? (i := 464) rfl
set_option maxRecDepth 100000 in
theorem wd_465 : (.code yXM_nodeSet cXM_nodeSet 4 (some .int) : Cond) ∈ W0 := List.mem_of_getElem? (i := 465) rfl
set_option maxRecDepth 100000 in
theorem wd_466 : (.methodLink RXL 56 yXM_kind : Cond) ∈ W0 := List.mem_of_getElem? (i := 466) rfl
set_option maxRecDepth 100000 in
theorem wd_467 : (.instanceMethod yXM_kind : Cond) ∈ W0 := List.mem_of_getElem? (i := 467) rfl
set_option maxRecDepth 100000 in
theorem wd_468 : (.selects RXM yXM_kind yXM_kind : Cond) ∈ W0 := List.mem_of_getElem? (i := 468) rfl
set_option maxRecDepth 100000 in
theorem wd_469 : (.code yXM_kind cXM_kind 4 (some .int) : Cond) ∈ W0 := List.mem_of_getElem? (i := 469) rfl
set_option maxRecDepth 100000 in
theorem wd_470 : (.methodLink RXM 86 yXM_open : Cond) ∈ W0 := List.mem_of_getElem? (i := 470) rfl
set_option maxRecDepth 100000 in
theorem wd_471 : (.instanceMethod yXM_open : Cond) ∈ W0 := List.mem_of_getElem? (i := 471) rfl
set_option maxRecDepth 100000 in
theorem wd_472 : (.code yXM_open cXM_open 6 (some .boolean) : Cond) ∈ W0 := List.mem_of_getElem? (i := 472) rfl
set_option maxRecDepth 100000 in
theorem wd_473 : (.methodLink RXM 76 yXM_isPart : Cond) ∈ W0 := List.mem_of_getElem? (i := 473) rfl
set_option maxRecDepth 100000 in
theorem wd_474 : (.instanceMethod yXM_isPart : Cond) ∈ W0 := List.mem_of_getElem? (i := 474) rfl
set_option maxRecDepth 100000 in
theorem wd_475 : (.code yXM_isPart cXM_isPart 10 (some .boolean) : Cond) ∈ W0 := List.mem_of_getElem? (i := 475) rfl
set_option maxRecDepth 100000 in
theorem wd_476 : (.methodLink RXM 70 yXM_inside : Cond) ∈ W0 := List.mem_of_getElem? (i := 476) rfl
set_option maxRecDepth 100000 in
theorem wd_477 : (.static yXM_inside : Cond) ∈ W0 := List.mem_of_getElem? (i := 477) rfl
set_option maxRecDepth 100000 in
theorem wd_478 : (.code yXM_inside cXM_inside 2 (some .boolean) : Cond) ∈ W0 := List.mem_of_getElem? (i := 478) rfl
set_option maxRecDepth 100000 in
theorem wd_479 : (.methodLink RXM 89 yXM_middle : Cond) ∈ W0 := List.mem_of_getElem? (i := 479) rfl
set_option maxRecDepth 100000 in
theorem wd_480 : (.instanceMethod yXM_middle : Cond) ∈ W0 := List.mem_of_getElem? (i := 480) rfl
set_option maxRecDepth 100000 in
theorem wd_481 : (.code yXM_middle cXM_middle 4 (some .int) : Cond) ∈ W0 := List.mem_of_getElem? (i := 481) rfl
set_option maxRecDepth 100000 in
theorem wd_482 : (.methodLink RXM 83 yXM_links : Cond) ∈ W0 := List.mem_of_getElem? (i := 482) rfl
set_option maxRecDepth 100000 in
theorem wd_483 : (.instanceMethod yXM_links : Cond) ∈ W0 := List.mem_of_getElem? (i := 483) rfl
set_option maxRecDepth 100000 in
theorem wd_484 : (.code yXM_links cXM_links 4 (some .int) : Cond) ∈ W0 := List.mem_of_getElem? (i := 484) rfl
set_option maxRecDepth 100000 in
theorem wd_485 : (.methodLink RXM 80 yXM_joined : Cond) ∈ W0 := List.mem_of_getElem? (i := 485) rfl
set_option maxRecDepth 100000 in
theorem wd_486 : (.instanceMethod yXM_joined : Cond) ∈ W0 := List.mem_of_getElem? (i := 486) rfl
set_option maxRecDepth 100000 in
theorem wd_487 : (.code yXM_joined cXM_joined 5 (some .boolean) : Cond) ∈ W0 := List.mem_of_getElem? (i := 487) rfl
set_option maxRecDepth 100000 in
theorem wd_488 : (.methodLink RXL 60 yXM_parts : Cond) ∈ W0 := List.mem_of_getElem? (i := 488) rfl
set_option maxRecDepth 100000 in
theorem wd_489 : (.instanceMethod yXM_parts : Cond) ∈ W0 := List.mem_of_getElem? (i := 489) rfl
set_option maxRecDepth 100000 in
theorem wd_490 : (.selects RXM yXM_parts yXM_parts : Cond) ∈ W0 := List.mem_of_getElem? (i := 490) rfl
set_option maxRecDepth 100000 in
theorem wd_491 : (.code yXM_parts cXM_parts 3 (some .int) : Cond) ∈ W0 := List.mem_of_getElem? (i := 491) rfl
set_option maxRecDepth 100000 in
theorem wd_492 : (.methodLink RXL 65 yXM_part : Cond) ∈ W0 := List.mem_of_getElem? (i := 492) rfl
set_option maxRecDepth 100000 in
theorem wd_493 : (.instanceMethod yXM_part : Cond) ∈ W0 := List.mem_of_getElem? (i := 493) rfl
set_option maxRecDepth 100000 in
theorem wd_494 : (.selects RXM yXM_part yXM_part : Cond) ∈ W0 := List.mem_of_getElem? (i := 494) rfl
set_option maxRecDepth 100000 in
theorem wd_495 : (.code yXM_part cXM_part 4 (some .int) : Cond) ∈ W0 := List.mem_of_getElem? (i := 495) rfl
set_option maxRecDepth 100000 in
theorem wd_496 : (.methodLink RXL 69 yXM_centre : Cond) ∈ W0 := List.mem_of_getElem? (i := 496) rfl
set_option maxRecDepth 100000 in
theorem wd_497 : (.instanceMethod yXM_centre : Cond) ∈ W0 := List.mem_of_getElem? (i := 497) rfl
set_option maxRecDepth 100000 in
theorem wd_498 : (.selects RXM yXM_centre yXM_centre : Cond) ∈ W0 := List.mem_of_getElem? (i := 498) rfl
set_option maxRecDepth 100000 in
theorem wd_499 : (.code yXM_centre cXM_centre 4 (some .int) : Cond) ∈ W0 := List.mem_of_getElem? (i := 499) rfl
set_option maxRecDepth 100000 in
theorem wd_500 : (.methodLink RXL 73 yXM_linked : Cond) ∈ W0 := List.mem_of_getElem? (i := 500) rfl
set_option maxRecDepth 100000 in
theorem wd_501 : (.instanceMethod yXM_linked : Cond) ∈ W0 := List.mem_of_getElem? (i := 501) rfl
set_option maxRecDepth 100000 in
theorem wd_502 : (.selects RXM yXM_linked yXM_linked : Cond) ∈ W0 := List.mem_of_getElem? (i := 502) rfl
set_option maxRecDepth 100000 in
theorem wd_503 : (.code yXM_linked cXM_linked 9 (some .boolean) : Cond) ∈ W0 := List.mem_of_getElem? (i := 503) rfl
set_option maxRecDepth 100000 in
theorem wd_504 : (.methodLink RXM 93 yXM_partOf : Cond) ∈ W0 := List.mem_of_getElem? (i := 504) rfl
set_option maxRecDepth 100000 in
theorem wd_505 : (.instanceMethod yXM_partOf : Cond) ∈ W0 := List.mem_of_getElem? (i := 505) rfl
set_option maxRecDepth 100000 in
theorem wd_506 : (.code yXM_partOf cXM_partOf 4 (some .int) : Cond) ∈ W0 := List.mem_of_getElem? (i := 506) rfl
set_option maxRecDepth 100000 in
theorem wd_507 : (.methodLink RXL 78 yXM_hereditary : Cond) ∈ W0 := List.mem_of_getElem? (i := 507) rfl
set_option maxRecDepth 100000 in
theorem wd_508 : (.instanceMethod yXM_hereditary : Cond) ∈ W0 := List.mem_of_getElem? (i := 508) rfl
set_option maxRecDepth 100000 in
theorem wd_509 : (.selects RXM yXM_hereditary yXM_hereditary : Cond) ∈ W0 := List.mem_of_getElem? (i := 509) rfl
set_option maxRecDepth 100000 in
theorem wd_510 : (.code yXM_hereditary cXM_hereditary 2 (some .boolean) : Cond) ∈ W0 := List.mem_of_getElem? (i := 510) rfl
set_option maxRecDepth 100000 in
theorem wd_511 : (.methodLink RXM 109 yXM_fine : Cond) ∈ W0 := List.mem_of_getElem? (i := 511) rfl
set_option maxRecDepth 100000 in
theorem wd_512 : (.instanceMethod yXM_fine : Cond) ∈ W0 := List.mem_of_getElem? (i := 512) rfl
set_option maxRecDepth 100000 in
theorem wd_513 : (.code yXM_fine cXM_fine 4 (some .boolean) : Cond) ∈ W0 := List.mem_of_getElem? (i := 513) rfl
set_option maxRecDepth 100000 in
theorem wd_514 : (.methodLink RXM 106 yXM_eliminate : Cond) ∈ W0 := List.mem_of_getElem? (i := 514) rfl
set_option maxRecDepth 100000 in
theorem wd_515 : (.instanceMethod yXM_eliminate : Cond) ∈ W0 := List.mem_of_getElem? (i := 515) rfl
set_option maxRecDepth 100000 in
theorem wd_516 : (.code yXM_eliminate cXM_eliminate 5 none : Cond) ∈ W0 := List.mem_of_getElem? (i := 516) rfl
set_option maxRecDepth 100000 in
theorem wd_517 : (.methodLink RXM 99 yXM_way : Cond) ∈ W0 := List.mem_of_getElem? (i := 517) rfl
set_option maxRecDepth 100000 in
theorem wd_518 : (.instanceMethod yXM_way : Cond) ∈ W0 := List.mem_of_getElem? (i := 518) rfl
set_option maxRecDepth 100000 in
theorem wd_519 : (.code yXM_way cXM_way 7 (some .int) : Cond) ∈ W0 := List.mem_of_getElem? (i := 519) rfl
set_option maxRecDepth 100000 in
theorem wd_520 : (.methodLink RXL 82 yXM_step : Cond) ∈ W0 := List.mem_of_getElem? (i := 520) rfl
set_option maxRecDepth 100000 in
theorem wd_521 : (.instanceMethod yXM_step : Cond) ∈ W0 := List.mem_of_getElem? (i := 521) rfl
set_option maxRecDepth 100000 in
theorem wd_522 : (.selects RXM yXM_step yXM_step : Cond) ∈ W0 := List.mem_of_getElem? (i := 522) rfl
set_option maxRecDepth 100000 in
theorem wd_523 : (.code yXM_step cXM_step 3 (some .int) : Cond) ∈ W0 := List.mem_of_getElem? (i := 523) rfl
set_option maxRecDepth 100000 in
theorem wd_524 : (.methodLink RXL 86 yXM_obstruction : Cond) ∈ W0 := List.mem_of_getElem? (i := 524) rfl
set_option maxRecDepth 100000 in
theorem wd_525 : (.instanceMethod yXM_obstruction : Cond) ∈ W0 := List.mem_of_getElem? (i := 525) rfl
set_option maxRecDepth 100000 in
theorem wd_526 : (.selects RXM yXM_obstruction yXM_obstruction : Cond) ∈ W0 := List.mem_of_getElem? (i := 526) rfl
set_option maxRecDepth 100000 in
theorem wd_527 : (.code yXM_obstruction cXM_obstruction 5 (some .int) : Cond) ∈ W0 := List.mem_of_getElem? (i := 527) rfl
set_option maxRecDepth 100000 in
theorem wd_528 : (.methodLink RXL 90 yXM_obstacle : Cond) ∈ W0 := List.mem_of_getElem? (i := 528) rfl
set_option maxRecDepth 100000 in
theorem wd_529 : (.instanceMethod yXM_obstacle : Cond) ∈ W0 := List.mem_of_getElem? (i := 529) rfl
set_option maxRecDepth 100000 in
theorem wd_530 : (.selects RXM yXM_obstacle yXM_obstacle : Cond) ∈ W0 := List.mem_of_getElem? (i := 530) rfl
set_option maxRecDepth 100000 in
theorem wd_531 : (.code yXM_obstacle cXM_obstacle 5 (some .int) : Cond) ∈ W0 := List.mem_of_getElem? (i := 531) rfl
set_option maxRecDepth 100000 in
theorem wd_532 : (.methodLink RXM 112 yXM_obstruction : Cond) ∈ W0 := List.mem_of_getElem? (i := 532) rfl
set_option maxRecDepth 100000 in
theorem wd_533 : (.methodLink RXM 115 yXM_edges : Cond) ∈ W0 := List.mem_of_getElem? (i := 533) rfl
set_option maxRecDepth 100000 in
theorem wd_534 : (.instanceMethod yXM_edges : Cond) ∈ W0 := List.mem_of_getElem? (i := 534) rfl
set_option maxRecDepth 100000 in
theorem wd_535 : (.code yXM_edges cXM_edges 4 (some .int) : Cond) ∈ W0 := List.mem_of_getElem? (i := 535) rfl
set_option maxRecDepth 100000 in
theorem wd_536 : (.methodLink RXL 94 yXM_apart : Cond) ∈ W0 := List.mem_of_getElem? (i := 536) rfl
set_option maxRecDepth 100000 in
theorem wd_537 : (.instanceMethod yXM_apart : Cond) ∈ W0 := List.mem_of_getElem? (i := 537) rfl
set_option maxRecDepth 100000 in
theorem wd_538 : (.selects RXM yXM_apart yXM_apart : Cond) ∈ W0 := List.mem_of_getElem? (i := 538) rfl
set_option maxRecDepth 100000 in
theorem wd_539 : (.code yXM_apart cXM_apart 2 (some .int) : Cond) ∈ W0 := List.mem_of_getElem? (i := 539) rfl
set_option maxRecDepth 100000 in
theorem wd_540 : (.methodLink RXM 118 yXM_hereditary : Cond) ∈ W0 := List.mem_of_getElem? (i := 540) rfl
set_option maxRecDepth 100000 in
theorem wd_541 : (.methodLink RXM 121 yXM_best : Cond) ∈ W0 := List.mem_of_getElem? (i := 541) rfl
set_option maxRecDepth 100000 in
theorem wd_542 : (.instanceMethod yXM_best : Cond) ∈ W0 := List.mem_of_getElem? (i := 542) rfl
set_option maxRecDepth 100000 in
theorem wd_543 : (.code yXM_best cXM_best 6 (some .int) : Cond) ∈ W0 := List.mem_of_getElem? (i := 543) rfl
set_option maxRecDepth 100000 in
theorem wd_544 : (.methodLink RXL 98 yXM_chosen : Cond) ∈ W0 := List.mem_of_getElem? (i := 544) rfl
set_option maxRecDepth 100000 in
theorem wd_545 : (.instanceMethod yXM_chosen : Cond) ∈ W0 := List.mem_of_getElem? (i := 545) rfl
set_option maxRecDepth 100000 in
theorem wd_546 : (.selects RXM yXM_chosen yXM_chosen : Cond) ∈ W0 := List.mem_of_getElem? (i := 546) rfl
set_option maxRecDepth 100000 in
theorem wd_547 : (.code yXM_chosen cXM_chosen 2 (some .int) : Cond) ∈ W0 := List.mem_of_getElem? (i := 547) rfl
set_option maxRecDepth 100000 in
theorem wd_548 : (.methodLink RXL 102 yXM_cover : Cond) ∈ W0 := List.mem_of_getElem? (i := 548) rfl
set_option maxRecDepth 100000 in
theorem wd_549 : (.instanceMethod yXM_cover : Cond) ∈ W0 := List.mem_of_getElem? (i := 549) rfl
set_option maxRecDepth 100000 in
theorem wd_550 : (.selects RXM yXM_cover yXM_cover : Cond) ∈ W0 := List.mem_of_getElem? (i := 550) rfl
set_option maxRecDepth 100000 in
theorem wd_551 : (.code yXM_cover cXM_cover 6 (some .int) : Cond) ∈ W0 := List.mem_of_getElem? (i := 551) rfl
set_option maxRecDepth 100000 in
theorem wd_552 : (.methodLink RXM 125 yXM_clique : Cond) ∈ W0 := List.mem_of_getElem? (i := 552) rfl
set_option maxRecDepth 100000 in
theorem wd_553 : (.instanceMethod yXM_clique : Cond) ∈ W0 := List.mem_of_getElem? (i := 553) rfl
set_option maxRecDepth 100000 in
theorem wd_554 : (.code yXM_clique cXM_clique 3 (some .boolean) : Cond) ∈ W0 := List.mem_of_getElem? (i := 554) rfl
theorem hinXC : ∀ w ∈ wsXC0, w ∈ W0 := by
  intro w hw
  obtain ⟨k, hk, rfl⟩ := List.mem_map.mp hw
  have hk : k < 2 := List.mem_range.mp hk
  rcases (show k = 0 ∨ k = 1 by omega) with rfl | rfl
  · exact wd_117
  · exact wd_118
theorem hinXE : ∀ w ∈ wsXE0, w ∈ W0 := by
  intro w hw
  obtain ⟨k, hk, rfl⟩ := List.mem_map.mp hw
  have hk : k < 4 := List.mem_range.mp hk
  rcases (show k = 0 ∨ k = 1 ∨ k = 2 ∨ k = 3 by omega) with rfl | rfl | rfl | rfl
  · exact wd_104
  · exact wd_105
  · exact wd_106
  · exact wd_107
theorem hinXG : ∀ w ∈ wsXG0, w ∈ W0 := by
  intro w hw
  obtain ⟨k, hk, rfl⟩ := List.mem_map.mp hw
  have hk : k < 2 := List.mem_range.mp hk
  rcases (show k = 0 ∨ k = 1 by omega) with rfl | rfl
  · exact wd_60
  · exact wd_61
theorem hinXT : ∀ w ∈ wsXT0, w ∈ W0 := by
  intro w hw
  obtain ⟨k, hk, rfl⟩ := List.mem_map.mp hw
  have hk : k < 10 := List.mem_range.mp hk
  rcases (show k = 0 ∨ k = 1 ∨ k = 2 ∨ k = 3 ∨ k = 4 ∨ k = 5 ∨ k = 6 ∨ k = 7 ∨ k = 8 ∨ k = 9 by omega) with rfl | rfl | rfl | rfl | rfl | rfl | rfl | rfl | rfl | rfl
  · exact wd_83
  · exact wd_84
  · exact wd_85
  · exact wd_86
  · exact wd_87
  · exact wd_88
  · exact wd_89
  · exact wd_90
  · exact wd_91
  · exact wd_92
theorem hinXF : ∀ w ∈ wsXF0, w ∈ W0 := by
  intro w hw
  obtain ⟨k, hk, rfl⟩ := List.mem_map.mp hw
  have hk : k < 4 := List.mem_range.mp hk
  rcases (show k = 0 ∨ k = 1 ∨ k = 2 ∨ k = 3 by omega) with rfl | rfl | rfl | rfl
  · exact wd_123
  · exact wd_124
  · exact wd_125
  · exact wd_126
theorem hinXM : ∀ w ∈ wsXM0, w ∈ W0 := by
  intro w hw
  obtain ⟨k, hk, rfl⟩ := List.mem_map.mp hw
  have hk : k < 12 := List.mem_range.mp hk
  rcases (show k = 0 ∨ k = 1 ∨ k = 2 ∨ k = 3 ∨ k = 4 ∨ k = 5 ∨ k = 6 ∨ k = 7 ∨ k = 8 ∨ k = 9 ∨ k = 10 ∨ k = 11 by omega) with rfl | rfl | rfl | rfl | rfl | rfl | rfl | rfl | rfl | rfl | rfl | rfl
  · exact wd_401
  · exact wd_402
  · exact wd_403
  · exact wd_404
  · exact wd_405
  · exact wd_406
  · exact wd_407
  · exact wd_408
  · exact wd_409
  · exact wd_410
  · exact wd_411
  · exact wd_412
theorem gC {y : MethodName} {b : ByteArray} {n : Nat} {r : Option FieldType} (h : Cond.code y b n r ∈ W0) : GoodIn W0 (Cond.code y b n r :: W0) := fun w hw => W0g w (by
  rcases List.mem_cons.mp hw with rfl | hw
  · exact h
  · exact hw)
theorem gV {own C : String} {i : Nat} {y : MethodName} {b : ByteArray} {n : Nat} {r : Option FieldType} (h1 : Cond.methodLink own i y ∈ W0) (h2 : Cond.instanceMethod y ∈ W0) (h3 : Cond.selects C y y ∈ W0) (h4 : Cond.initialized C ∈ W0) (h : Cond.code y b n r ∈ W0) : GoodIn W0 (wsV own i C y (Cond.code y b n r :: W0)) := by
  intro w hw
  unfold wsV at hw
  rcases List.mem_append.mp hw with hw | hw
  · simp only [List.mem_cons, List.not_mem_nil, or_false] at hw
    rcases hw with rfl | rfl | rfl | rfl
    · exact W0g _ h1
    · exact W0g _ h2
    · exact W0g _ h3
    · exact W0g _ h4
  · exact gC h w hw
theorem gS {own : String} {i : Nat} {y : MethodName} {b : ByteArray} {n : Nat} {r : Option FieldType} (h1 : Cond.methodLink own i y ∈ W0) (h2 : Cond.static y ∈ W0) (h4 : Cond.initialized own ∈ W0) (h : Cond.code y b n r ∈ W0) : GoodIn W0 (wsS own i y (Cond.code y b n r :: W0)) := by
  intro w hw
  unfold wsS at hw
  rcases List.mem_append.mp hw with hw | hw
  · simp only [List.mem_cons, List.not_mem_nil, or_false] at hw
    rcases hw with rfl | rfl | rfl
    · exact W0g _ h1
    · exact W0g _ h2
    · exact W0g _ h4
  · exact gC h w hw
abbrev wsXF_init : List Cond := .code yXF_init cXF_init 2 none :: W0
abbrev wsXG_init : List Cond := .code yXG_init cXG_init 2 none :: W0
abbrev wsXT_init : List Cond := .code yXT_init cXT_init 2 none :: W0
abbrev wsXG_size : List Cond := .code yXG_size cXG_size 1 (some .int) :: W0
abbrev wsXE_init : List Cond := .code yXE_init cXE_init 2 none :: W0
abbrev wsXC_init : List Cond := .code yXC_init cXC_init 2 none :: W0
abbrev wsXF_vertices : List Cond := .code yXF_vertices cXF_vertices 1 (some .int) :: W0
abbrev wsXF_flip : List Cond := .code yXF_flip cXF_flip 3 (some .boolean) :: W0
abbrev wsXG_has : List Cond := .code yXG_has cXG_has 2 (some .boolean) :: W0
abbrev wsXG_toggle : List Cond := .code yXG_toggle cXG_toggle 3 none :: W0
abbrev wsXT_forget : List Cond := .code yXT_forget cXT_forget 1 none :: W0
abbrev wsXG_edge : List Cond := .code yXG_edge cXG_edge 3 (some .boolean) :: W0
abbrev wsXF_contains : List Cond := .code yXF_contains cXF_contains 2 (some .boolean) :: W0
abbrev wsXF_neighbours : List Cond := .code yXF_neighbours cXF_neighbours 3 (some .boolean) :: W0
abbrev wsXF_component : List Cond := .code yXF_component cXF_component 2 (some .int) :: W0
abbrev wsXF_componentOf : List Cond := .code yXF_componentOf cXF_componentOf 2 (some .int) :: W0
abbrev wsXG_all : List Cond := .code yXG_all cXG_all 1 (some .int) :: W0
abbrev wsXG_reached : List Cond := .code yXG_reached cXG_reached 6 (some .int) :: W0
abbrev wsXG_nearToAny : List Cond := .code yXG_nearToAny cXG_nearToAny 5 (some .int) :: W0
abbrev wsXF_splits : List Cond := .code yXF_splits cXF_splits 2 (some .int) :: W0
abbrev wsXF_treeOf : List Cond := .code yXF_treeOf cXF_treeOf 2 (some (.object "SplitForest$SplitTree")) :: W0
abbrev wsXT_growFor : List Cond := .code yXT_growFor cXT_growFor 2 none :: W0
abbrev wsXT_findSplits : List Cond := .code yXT_findSplits cXT_findSplits 3 none :: W0
abbrev wsXT_isSplit : List Cond := .code yXT_isSplit cXT_isSplit 6 (some .boolean) :: W0
abbrev wsXJ_bitCount : List Cond := .code yXJ_bitCount cXJ_bitCount 1 (some .int) :: W0
abbrev wsXG_nearInside : List Cond := .code yXG_nearInside cXG_nearInside 3 (some .int) :: W0
abbrev wsXT_findNodes : List Cond := .code yXT_findNodes cXT_findNodes 2 none :: W0
abbrev wsXT_isStrong : List Cond := .code yXT_isStrong cXT_isStrong 4 (some .boolean) :: W0
abbrev wsXT_splitCount : List Cond := .code yXT_splitCount cXT_splitCount 1 (some .int) :: W0
abbrev wsXF_strong : List Cond := .code yXF_strong cXF_strong 2 (some .int) :: W0
abbrev wsXT_nodeCount : List Cond := .code yXT_nodeCount cXT_nodeCount 1 (some .int) :: W0
abbrev wsXF_set : List Cond := .code yXF_set cXF_set 3 (some .int) :: W0
abbrev wsXF_hasNode : List Cond := .code yXF_hasNode cXF_hasNode 3 (some .boolean) :: W0
abbrev wsXT_nodeSet : List Cond := .code yXT_nodeSet cXT_nodeSet 2 (some .int) :: W0
abbrev wsXF_kind : List Cond := .code yXF_kind cXF_kind 3 (some .int) :: W0
abbrev wsXT_nodeKind : List Cond := .code yXT_nodeKind cXT_nodeKind 2 (some .int) :: W0
abbrev wsXT_findJoins : List Cond := .code yXT_findJoins cXT_findJoins 4 none :: W0
abbrev wsXT_findParts : List Cond := .code yXT_findParts cXT_findParts 5 none :: W0
abbrev wsXT_partWith : List Cond := .code yXT_partWith cXT_partWith 7 (some .int) :: W0
abbrev wsXT_addPart : List Cond := .code yXT_addPart cXT_addPart 3 none :: W0
abbrev wsXG_joined : List Cond := .code yXG_joined cXG_joined 3 (some .boolean) :: W0
abbrev wsXT_centreIndex : List Cond := .code yXT_centreIndex cXT_centreIndex 2 (some .int) :: W0
abbrev wsXF_parts : List Cond := .code yXF_parts cXF_parts 3 (some .int) :: W0
abbrev wsXT_partCount : List Cond := .code yXT_partCount cXT_partCount 2 (some .int) :: W0
abbrev wsXF_part : List Cond := .code yXF_part cXF_part 4 (some .int) :: W0
abbrev wsXT_partSet : List Cond := .code yXT_partSet cXT_partSet 3 (some .int) :: W0
abbrev wsXF_centre : List Cond := .code yXF_centre cXF_centre 3 (some .int) :: W0
abbrev wsXT_centreSet : List Cond := .code yXT_centreSet cXT_centreSet 2 (some .int) :: W0
abbrev wsXF_linked : List Cond := .code yXF_linked cXF_linked 3 (some .boolean) :: W0
abbrev wsXT_links : List Cond := .code yXT_links cXT_links 6 (some .boolean) :: W0
abbrev wsXF_hereditary : List Cond := .code yXF_hereditary cXF_hereditary 2 (some .boolean) :: W0
abbrev wsXE_clears : List Cond := .code yXE_clears cXE_clears 5 (some .boolean) :: W0
abbrev wsXE_run : List Cond := .code yXE_run cXE_run 3 none :: W0
abbrev wsXE_nextStep : List Cond := .code yXE_nextStep cXE_nextStep 3 (some .int) :: W0
abbrev wsXE_stepAt : List Cond := .code yXE_stepAt cXE_stepAt 6 (some .int) :: W0
abbrev wsXG_areTwins : List Cond := .code yXG_areTwins cXG_areTwins 5 (some .boolean) :: W0
abbrev wsXF_step : List Cond := .code yXF_step cXF_step 3 (some .int) :: W0
abbrev wsXE_stepOf : List Cond := .code yXE_stepOf cXE_stepOf 3 (some .int) :: W0
abbrev wsXF_obstruction : List Cond := .code yXF_obstruction cXF_obstruction 2 (some .int) :: W0
abbrev wsXE_obstructionIn : List Cond := .code yXE_obstructionIn cXE_obstructionIn 5 (some .int) :: W0
abbrev wsXF_obstacle : List Cond := .code yXF_obstacle cXF_obstacle 3 (some .int) :: W0
abbrev wsXG_edgesInside : List Cond := .code yXG_edgesInside cXG_edgesInside 4 (some .int) :: W0
abbrev wsXF_obstacleKind : List Cond := .code yXF_obstacleKind cXF_obstacleKind 2 (some .int) :: W0
abbrev wsXF_apart : List Cond := .code yXF_apart cXF_apart 2 (some .int) :: W0
abbrev wsXC_largestApart : List Cond := .code yXC_largestApart cXC_largestApart 4 (some .int) :: W0
abbrev wsXF_chosen : List Cond := .code yXF_chosen cXF_chosen 2 (some .int) :: W0
abbrev wsXF_cover : List Cond := .code yXF_cover cXF_cover 2 (some .int) :: W0
abbrev wsXC_fewestCliques : List Cond := .code yXC_fewestCliques cXC_fewestCliques 4 (some .int) :: W0
abbrev wsXC_coverWith : List Cond := .code yXC_coverWith cXC_coverWith 4 none :: W0
abbrev wsXC_fewestWith : List Cond := .code yXC_fewestWith cXC_fewestWith 6 (some .int) :: W0
abbrev wsXL_cell : List Cond := .code yXL_cell cXL_cell 2 (some .int) :: W0
abbrev wsXM_init : List Cond := .code yXM_init cXM_init 2 none :: W0
abbrev wsXM_vertices : List Cond := .code yXM_vertices cXM_vertices 1 (some .int) :: W0
abbrev wsXM_flip : List Cond := .code yXM_flip cXM_flip 3 (some .boolean) :: W0
abbrev wsXM_is : List Cond := .code yXM_is cXM_is 2 (some .boolean) :: W0
abbrev wsXM_neighbours : List Cond := .code yXM_neighbours cXM_neighbours 3 (some .boolean) :: W0
abbrev wsXM_component : List Cond := .code yXM_component cXM_component 2 (some .int) :: W0
abbrev wsXM_within : List Cond := .code yXM_within cXM_within 6 (some .int) :: W0
abbrev wsXM_splits : List Cond := .code yXM_splits cXM_splits 2 (some .int) :: W0
abbrev wsXM_find : List Cond := .code yXM_find cXM_find 6 none :: W0
abbrev wsXM_least : List Cond := .code yXM_least cXM_least 2 (some .int) :: W0
abbrev wsXM_size : List Cond := .code yXM_size cXM_size 3 (some .int) :: W0
abbrev wsXM_complete : List Cond := .code yXM_complete cXM_complete 7 (some .boolean) :: W0
abbrev wsXM_cross : List Cond := .code yXM_cross cXM_cross 2 (some .boolean) :: W0
abbrev wsXM_strong : List Cond := .code yXM_strong cXM_strong 2 (some .int) :: W0
abbrev wsXM_set : List Cond := .code yXM_set cXM_set 3 (some .int) :: W0
abbrev wsXM_nodeSet : List Cond := .code yXM_nodeSet cXM_nodeSet 4 (some .int) :: W0
abbrev wsXM_kind : List Cond := .code yXM_kind cXM_kind 4 (some .int) :: W0
abbrev wsXM_open : List Cond := .code yXM_open cXM_open 6 (some .boolean) :: W0
abbrev wsXM_isPart : List Cond := .code yXM_isPart cXM_isPart 10 (some .boolean) :: W0
abbrev wsXM_inside : List Cond := .code yXM_inside cXM_inside 2 (some .boolean) :: W0
abbrev wsXM_middle : List Cond := .code yXM_middle cXM_middle 4 (some .int) :: W0
abbrev wsXM_links : List Cond := .code yXM_links cXM_links 4 (some .int) :: W0
abbrev wsXM_joined : List Cond := .code yXM_joined cXM_joined 5 (some .boolean) :: W0
abbrev wsXM_parts : List Cond := .code yXM_parts cXM_parts 3 (some .int) :: W0
abbrev wsXM_part : List Cond := .code yXM_part cXM_part 4 (some .int) :: W0
abbrev wsXM_centre : List Cond := .code yXM_centre cXM_centre 4 (some .int) :: W0
abbrev wsXM_linked : List Cond := .code yXM_linked cXM_linked 9 (some .boolean) :: W0
abbrev wsXM_partOf : List Cond := .code yXM_partOf cXM_partOf 4 (some .int) :: W0
abbrev wsXM_hereditary : List Cond := .code yXM_hereditary cXM_hereditary 2 (some .boolean) :: W0
abbrev wsXM_fine : List Cond := .code yXM_fine cXM_fine 4 (some .boolean) :: W0
abbrev wsXM_eliminate : List Cond := .code yXM_eliminate cXM_eliminate 5 none :: W0
abbrev wsXM_way : List Cond := .code yXM_way cXM_way 7 (some .int) :: W0
abbrev wsXM_step : List Cond := .code yXM_step cXM_step 3 (some .int) :: W0
abbrev wsXM_obstruction : List Cond := .code yXM_obstruction cXM_obstruction 5 (some .int) :: W0
abbrev wsXM_obstacle : List Cond := .code yXM_obstacle cXM_obstacle 5 (some .int) :: W0
abbrev wsXM_edges : List Cond := .code yXM_edges cXM_edges 4 (some .int) :: W0
abbrev wsXM_apart : List Cond := .code yXM_apart cXM_apart 2 (some .int) :: W0
abbrev wsXM_best : List Cond := .code yXM_best cXM_best 6 (some .int) :: W0
abbrev wsXM_chosen : List Cond := .code yXM_chosen cXM_chosen 2 (some .int) :: W0
abbrev wsXM_cover : List Cond := .code yXM_cover cXM_cover 6 (some .int) :: W0
abbrev wsXM_clique : List Cond := .code yXM_clique cXM_clique 3 (some .boolean) :: W0
/-- the links of nest mates: they stand in the contracts -/
def kN (U : State) : Prop := va_Nw (.methodLinkNest RXG 17 yXF_contains "SplitForest") U ∧ va_Nw (.methodLinkNest RXT 86 yXF_contains "SplitForest") U ∧ va_Nw (.methodLinkNest RXE 33 yXF_contains "SplitForest") U ∧ va_Nw (.methodLinkNest RXC 33 yXF_contains "SplitForest") U
theorem kN_same {u U : State} (h : u.vm = U.vm) (z : kN u) : kN U := ⟨va_Nw.same rfl h z.1, va_Nw.same rfl h z.2.1, va_Nw.same rfl h z.2.2.1, va_Nw.same rfl h z.2.2.2⟩
theorem kN_warm {s U : State} (h : s.WarmedH U.vm) (z : kN s) : kN U := ⟨va_Nw.warmM h z.1, va_Nw.warmM h z.2.1, va_Nw.warmM h z.2.2.1, va_Nw.warmM h z.2.2.2⟩
theorem kN_of {a : Array Value} {s : State} (h : ∀ w ∈ lw_tbl, w.before a s = true) : kN s := ⟨va_Nw.of rfl (h (.methodLinkNest RXG 17 yXF_contains "SplitForest") (by decide +kernel)), va_Nw.of rfl (h (.methodLinkNest RXT 86 yXF_contains "SplitForest") (by decide +kernel)), va_Nw.of rfl (h (.methodLinkNest RXE 33 yXF_contains "SplitForest") (by decide +kernel)), va_Nw.of rfl (h (.methodLinkNest RXC 33 yXF_contains "SplitForest") (by decide +kernel))⟩
end
section
theorem dXF_init_0 : decode cXF_init 0 = .ok (.aload_n 0, 1) := by decide +kernel
theorem dXF_init_1 : decode cXF_init 1 = .ok (.invokespecial 1, 3) := by decide +kernel
theorem dXF_init_4 : decode cXF_init 4 = .ok (.aload_n 0, 1) := by decide +kernel
theorem dXF_init_5 : decode cXF_init 5 = .ok (.new 7, 3) := by decide +kernel
theorem dXF_init_8 : decode cXF_init 8 = .ok (.dup, 1) := by decide +kernel
theorem dXF_init_9 : decode cXF_init 9 = .ok (.iload_n 1, 1) := by decide +kernel
theorem dXF_init_10 : decode cXF_init 10 = .ok (.iconst 1, 1) := by decide +kernel
theorem dXF_init_11 : decode cXF_init 11 = .ok (.if_icmp .lt 13, 3) := by decide +kernel
theorem dXF_init_14 : decode cXF_init 14 = .ok (.iload_n 1, 1) := by decide +kernel
theorem dXF_init_15 : decode cXF_init 15 = .ok (.bipush 9, 2) := by decide +kernel
theorem dXF_init_17 : decode cXF_init 17 = .ok (.if_icmp .gt 7, 3) := by decide +kernel
theorem dXF_init_20 : decode cXF_init 20 = .ok (.iload_n 1, 1) := by decide +kernel
theorem dXF_init_21 : decode cXF_init 21 = .ok (.goto 5, 3) := by decide +kernel
theorem dXF_init_24 : decode cXF_init 24 = .ok (.bipush 7, 2) := by decide +kernel
theorem dXF_init_26 : decode cXF_init 26 = .ok (.invokespecial 11, 3) := by decide +kernel
theorem dXF_init_29 : decode cXF_init 29 = .ok (.putfield 14, 3) := by decide +kernel
theorem dXF_init_32 : decode cXF_init 32 = .ok (.aload_n 0, 1) := by decide +kernel
theorem dXF_init_33 : decode cXF_init 33 = .ok (.new 18, 3) := by decide +kernel
theorem dXF_init_36 : decode cXF_init 36 = .ok (.dup, 1) := by decide +kernel
theorem dXF_init_37 : decode cXF_init 37 = .ok (.aload_n 0, 1) := by decide +kernel
theorem dXF_init_38 : decode cXF_init 38 = .ok (.getfield 14, 3) := by decide +kernel
theorem dXF_init_41 : decode cXF_init 41 = .ok (.invokespecial 20, 3) := by decide +kernel
theorem dXF_init_44 : decode cXF_init 44 = .ok (.putfield 23, 3) := by decide +kernel
theorem dXF_init_47 : decode cXF_init 47 = .ok (.aload_n 0, 1) := by decide +kernel
theorem dXF_init_48 : decode cXF_init 48 = .ok (.new 27, 3) := by decide +kernel
theorem dXF_init_51 : decode cXF_init 51 = .ok (.dup, 1) := by decide +kernel
theorem dXF_init_52 : decode cXF_init 52 = .ok (.aload_n 0, 1) := by decide +kernel
theorem dXF_init_53 : decode cXF_init 53 = .ok (.getfield 14, 3) := by decide +kernel
theorem dXF_init_56 : decode cXF_init 56 = .ok (.invokespecial 29, 3) := by decide +kernel
theorem dXF_init_59 : decode cXF_init 59 = .ok (.putfield 30, 3) := by decide +kernel
theorem dXF_init_62 : decode cXF_init 62 = .ok (.aload_n 0, 1) := by decide +kernel
theorem dXF_init_63 : decode cXF_init 63 = .ok (.new 34, 3) := by decide +kernel
theorem dXF_init_66 : decode cXF_init 66 = .ok (.dup, 1) := by decide +kernel
theorem dXF_init_67 : decode cXF_init 67 = .ok (.aload_n 0, 1) := by decide +kernel
theorem dXF_init_68 : decode cXF_init 68 = .ok (.getfield 14, 3) := by decide +kernel
theorem dXF_init_71 : decode cXF_init 71 = .ok (.invokespecial 36, 3) := by decide +kernel
theorem dXF_init_74 : decode cXF_init 74 = .ok (.putfield 37, 3) := by decide +kernel
theorem dXF_init_77 : decode cXF_init 77 = .ok (.return_, 1) := by decide +kernel
theorem dXF_vertices_0 : decode cXF_vertices 0 = .ok (.aload_n 0, 1) := by decide +kernel
theorem dXF_vertices_1 : decode cXF_vertices 1 = .ok (.getfield 14, 3) := by decide +kernel
theorem dXF_vertices_4 : decode cXF_vertices 4 = .ok (.invokevirtual 41, 3) := by decide +kernel
theorem dXF_vertices_7 : decode cXF_vertices 7 = .ok (.ireturn, 1) := by decide +kernel
theorem dXF_flip_0 : decode cXF_flip 0 = .ok (.aload_n 0, 1) := by decide +kernel
theorem dXF_flip_1 : decode cXF_flip 1 = .ok (.getfield 14, 3) := by decide +kernel
theorem dXF_flip_4 : decode cXF_flip 4 = .ok (.iload_n 1, 1) := by decide +kernel
theorem dXF_flip_5 : decode cXF_flip 5 = .ok (.invokevirtual 45, 3) := by decide +kernel
theorem dXF_flip_8 : decode cXF_flip 8 = .ok (.ifCond .eq 19, 3) := by decide +kernel
theorem dXF_flip_11 : decode cXF_flip 11 = .ok (.aload_n 0, 1) := by decide +kernel
theorem dXF_flip_12 : decode cXF_flip 12 = .ok (.getfield 14, 3) := by decide +kernel
theorem dXF_flip_15 : decode cXF_flip 15 = .ok (.iload_n 2, 1) := by decide +kernel
theorem dXF_flip_16 : decode cXF_flip 16 = .ok (.invokevirtual 45, 3) := by decide +kernel
theorem dXF_flip_19 : decode cXF_flip 19 = .ok (.ifCond .eq 8, 3) := by decide +kernel
theorem dXF_flip_22 : decode cXF_flip 22 = .ok (.iload_n 1, 1) := by decide +kernel
theorem dXF_flip_23 : decode cXF_flip 23 = .ok (.iload_n 2, 1) := by decide +kernel
theorem dXF_flip_24 : decode cXF_flip 24 = .ok (.if_icmp .ne 5, 3) := by decide +kernel
theorem dXF_flip_27 : decode cXF_flip 27 = .ok (.iconst 0, 1) := by decide +kernel
theorem dXF_flip_28 : decode cXF_flip 28 = .ok (.ireturn, 1) := by decide +kernel
theorem dXF_flip_29 : decode cXF_flip 29 = .ok (.aload_n 0, 1) := by decide +kernel
theorem dXF_flip_30 : decode cXF_flip 30 = .ok (.getfield 14, 3) := by decide +kernel
theorem dXF_flip_33 : decode cXF_flip 33 = .ok (.iload_n 1, 1) := by decide +kernel
theorem dXF_flip_34 : decode cXF_flip 34 = .ok (.iload_n 2, 1) := by decide +kernel
theorem dXF_flip_35 : decode cXF_flip 35 = .ok (.invokevirtual 49, 3) := by decide +kernel
theorem dXF_flip_38 : decode cXF_flip 38 = .ok (.aload_n 0, 1) := by decide +kernel
theorem dXF_flip_39 : decode cXF_flip 39 = .ok (.getfield 23, 3) := by decide +kernel
theorem dXF_flip_42 : decode cXF_flip 42 = .ok (.invokevirtual 53, 3) := by decide +kernel
theorem dXF_flip_45 : decode cXF_flip 45 = .ok (.aload_n 0, 1) := by decide +kernel
theorem dXF_flip_46 : decode cXF_flip 46 = .ok (.getfield 14, 3) := by decide +kernel
theorem dXF_flip_49 : decode cXF_flip 49 = .ok (.iload_n 1, 1) := by decide +kernel
theorem dXF_flip_50 : decode cXF_flip 50 = .ok (.iload_n 2, 1) := by decide +kernel
theorem dXF_flip_51 : decode cXF_flip 51 = .ok (.invokevirtual 56, 3) := by decide +kernel
theorem dXF_flip_54 : decode cXF_flip 54 = .ok (.ireturn, 1) := by decide +kernel
theorem dXF_contains_0 : decode cXF_contains 0 = .ok (.iload_n 0, 1) := by decide +kernel
theorem dXF_contains_1 : decode cXF_contains 1 = .ok (.iload_n 1, 1) := by decide +kernel
theorem dXF_contains_2 : decode cXF_contains 2 = .ok (.ishr, 1) := by decide +kernel
theorem dXF_contains_3 : decode cXF_contains 3 = .ok (.iconst 1, 1) := by decide +kernel
theorem dXF_contains_4 : decode cXF_contains 4 = .ok (.iand, 1) := by decide +kernel
theorem dXF_contains_5 : decode cXF_contains 5 = .ok (.ifCond .eq 7, 3) := by decide +kernel
theorem dXF_contains_8 : decode cXF_contains 8 = .ok (.iconst 1, 1) := by decide +kernel
theorem dXF_contains_9 : decode cXF_contains 9 = .ok (.goto 4, 3) := by decide +kernel
theorem dXF_contains_12 : decode cXF_contains 12 = .ok (.iconst 0, 1) := by decide +kernel
theorem dXF_contains_13 : decode cXF_contains 13 = .ok (.ireturn, 1) := by decide +kernel
theorem dXF_neighbours_0 : decode cXF_neighbours 0 = .ok (.aload_n 0, 1) := by decide +kernel
theorem dXF_neighbours_1 : decode cXF_neighbours 1 = .ok (.getfield 14, 3) := by decide +kernel
theorem dXF_neighbours_4 : decode cXF_neighbours 4 = .ok (.iload_n 1, 1) := by decide +kernel
theorem dXF_neighbours_5 : decode cXF_neighbours 5 = .ok (.invokevirtual 45, 3) := by decide +kernel
theorem dXF_neighbours_8 : decode cXF_neighbours 8 = .ok (.ifCond .eq 30, 3) := by decide +kernel
theorem dXF_neighbours_11 : decode cXF_neighbours 11 = .ok (.aload_n 0, 1) := by decide +kernel
theorem dXF_neighbours_12 : decode cXF_neighbours 12 = .ok (.getfield 14, 3) := by decide +kernel
theorem dXF_neighbours_15 : decode cXF_neighbours 15 = .ok (.iload_n 2, 1) := by decide +kernel
theorem dXF_neighbours_16 : decode cXF_neighbours 16 = .ok (.invokevirtual 45, 3) := by decide +kernel
theorem dXF_neighbours_19 : decode cXF_neighbours 19 = .ok (.ifCond .eq 19, 3) := by decide +kernel
theorem dXF_neighbours_22 : decode cXF_neighbours 22 = .ok (.aload_n 0, 1) := by decide +kernel
theorem dXF_neighbours_23 : decode cXF_neighbours 23 = .ok (.getfield 14, 3) := by decide +kernel
theorem dXF_neighbours_26 : decode cXF_neighbours 26 = .ok (.iload_n 1, 1) := by decide +kernel
theorem dXF_neighbours_27 : decode cXF_neighbours 27 = .ok (.iload_n 2, 1) := by decide +kernel
theorem dXF_neighbours_28 : decode cXF_neighbours 28 = .ok (.invokevirtual 56, 3) := by decide +kernel
theorem dXF_neighbours_31 : decode cXF_neighbours 31 = .ok (.ifCond .eq 7, 3) := by decide +kernel
theorem dXF_neighbours_34 : decode cXF_neighbours 34 = .ok (.iconst 1, 1) := by decide +kernel
theorem dXF_neighbours_35 : decode cXF_neighbours 35 = .ok (.goto 4, 3) := by decide +kernel
theorem dXF_neighbours_38 : decode cXF_neighbours 38 = .ok (.iconst 0, 1) := by decide +kernel
theorem dXF_neighbours_39 : decode cXF_neighbours 39 = .ok (.ireturn, 1) := by decide +kernel
theorem dXF_component_0 : decode cXF_component 0 = .ok (.aload_n 0, 1) := by decide +kernel
theorem dXF_component_1 : decode cXF_component 1 = .ok (.getfield 14, 3) := by decide +kernel
theorem dXF_component_4 : decode cXF_component 4 = .ok (.iload_n 1, 1) := by decide +kernel
theorem dXF_component_5 : decode cXF_component 5 = .ok (.invokevirtual 45, 3) := by decide +kernel
theorem dXF_component_8 : decode cXF_component 8 = .ok (.ifCond .eq 11, 3) := by decide +kernel
theorem dXF_component_11 : decode cXF_component 11 = .ok (.aload_n 0, 1) := by decide +kernel
theorem dXF_component_12 : decode cXF_component 12 = .ok (.iload_n 1, 1) := by decide +kernel
theorem dXF_component_13 : decode cXF_component 13 = .ok (.invokevirtual 60, 3) := by decide +kernel
theorem dXF_component_16 : decode cXF_component 16 = .ok (.goto 4, 3) := by decide +kernel
theorem dXF_component_19 : decode cXF_component 19 = .ok (.iconst 0, 1) := by decide +kernel
theorem dXF_component_20 : decode cXF_component 20 = .ok (.ireturn, 1) := by decide +kernel
theorem dXF_componentOf_0 : decode cXF_componentOf 0 = .ok (.aload_n 0, 1) := by decide +kernel
theorem dXF_componentOf_1 : decode cXF_componentOf 1 = .ok (.getfield 14, 3) := by decide +kernel
theorem dXF_componentOf_4 : decode cXF_componentOf 4 = .ok (.iload_n 1, 1) := by decide +kernel
theorem dXF_componentOf_5 : decode cXF_componentOf 5 = .ok (.aload_n 0, 1) := by decide +kernel
theorem dXF_componentOf_6 : decode cXF_componentOf 6 = .ok (.getfield 14, 3) := by decide +kernel
theorem dXF_componentOf_9 : decode cXF_componentOf 9 = .ok (.invokevirtual 128, 3) := by decide +kernel
theorem dXF_componentOf_12 : decode cXF_componentOf 12 = .ok (.invokevirtual 131, 3) := by decide +kernel
theorem dXF_componentOf_15 : decode cXF_componentOf 15 = .ok (.ireturn, 1) := by decide +kernel
theorem dXF_splits_0 : decode cXF_splits 0 = .ok (.aload_n 0, 1) := by decide +kernel
theorem dXF_splits_1 : decode cXF_splits 1 = .ok (.getfield 14, 3) := by decide +kernel
theorem dXF_splits_4 : decode cXF_splits 4 = .ok (.iload_n 1, 1) := by decide +kernel
theorem dXF_splits_5 : decode cXF_splits 5 = .ok (.invokevirtual 45, 3) := by decide +kernel
theorem dXF_splits_8 : decode cXF_splits 8 = .ok (.ifCond .eq 14, 3) := by decide +kernel
theorem dXF_splits_11 : decode cXF_splits 11 = .ok (.aload_n 0, 1) := by decide +kernel
theorem dXF_splits_12 : decode cXF_splits 12 = .ok (.iload_n 1, 1) := by decide +kernel
theorem dXF_splits_13 : decode cXF_splits 13 = .ok (.invokevirtual 64, 3) := by decide +kernel
theorem dXF_splits_16 : decode cXF_splits 16 = .ok (.invokevirtual 68, 3) := by decide +kernel
theorem dXF_splits_19 : decode cXF_splits 19 = .ok (.goto 4, 3) := by decide +kernel
theorem dXF_splits_22 : decode cXF_splits 22 = .ok (.iconst (-1), 1) := by decide +kernel
theorem dXF_splits_23 : decode cXF_splits 23 = .ok (.ireturn, 1) := by decide +kernel
theorem dXF_treeOf_0 : decode cXF_treeOf 0 = .ok (.aload_n 0, 1) := by decide +kernel
theorem dXF_treeOf_1 : decode cXF_treeOf 1 = .ok (.getfield 23, 3) := by decide +kernel
theorem dXF_treeOf_4 : decode cXF_treeOf 4 = .ok (.aload_n 0, 1) := by decide +kernel
theorem dXF_treeOf_5 : decode cXF_treeOf 5 = .ok (.iload_n 1, 1) := by decide +kernel
theorem dXF_treeOf_6 : decode cXF_treeOf 6 = .ok (.invokevirtual 60, 3) := by decide +kernel
theorem dXF_treeOf_9 : decode cXF_treeOf 9 = .ok (.invokevirtual 134, 3) := by decide +kernel
theorem dXF_treeOf_12 : decode cXF_treeOf 12 = .ok (.aload_n 0, 1) := by decide +kernel
theorem dXF_treeOf_13 : decode cXF_treeOf 13 = .ok (.getfield 23, 3) := by decide +kernel
theorem dXF_treeOf_16 : decode cXF_treeOf 16 = .ok (.areturn, 1) := by decide +kernel
theorem dXF_strong_0 : decode cXF_strong 0 = .ok (.aload_n 0, 1) := by decide +kernel
theorem dXF_strong_1 : decode cXF_strong 1 = .ok (.getfield 14, 3) := by decide +kernel
theorem dXF_strong_4 : decode cXF_strong 4 = .ok (.iload_n 1, 1) := by decide +kernel
theorem dXF_strong_5 : decode cXF_strong 5 = .ok (.invokevirtual 45, 3) := by decide +kernel
theorem dXF_strong_8 : decode cXF_strong 8 = .ok (.ifCond .eq 16, 3) := by decide +kernel
theorem dXF_strong_11 : decode cXF_strong 11 = .ok (.aload_n 0, 1) := by decide +kernel
theorem dXF_strong_12 : decode cXF_strong 12 = .ok (.iload_n 1, 1) := by decide +kernel
theorem dXF_strong_13 : decode cXF_strong 13 = .ok (.invokevirtual 64, 3) := by decide +kernel
theorem dXF_strong_16 : decode cXF_strong 16 = .ok (.invokevirtual 71, 3) := by decide +kernel
theorem dXF_strong_19 : decode cXF_strong 19 = .ok (.iconst 1, 1) := by decide +kernel
theorem dXF_strong_20 : decode cXF_strong 20 = .ok (.isub, 1) := by decide +kernel
theorem dXF_strong_21 : decode cXF_strong 21 = .ok (.goto 4, 3) := by decide +kernel
theorem dXF_strong_24 : decode cXF_strong 24 = .ok (.iconst (-1), 1) := by decide +kernel
theorem dXF_strong_25 : decode cXF_strong 25 = .ok (.ireturn, 1) := by decide +kernel
theorem dXF_set_0 : decode cXF_set 0 = .ok (.aload_n 0, 1) := by decide +kernel
theorem dXF_set_1 : decode cXF_set 1 = .ok (.iload_n 1, 1) := by decide +kernel
theorem dXF_set_2 : decode cXF_set 2 = .ok (.iload_n 2, 1) := by decide +kernel
theorem dXF_set_3 : decode cXF_set 3 = .ok (.invokevirtual 74, 3) := by decide +kernel
theorem dXF_set_6 : decode cXF_set 6 = .ok (.ifCond .eq 14, 3) := by decide +kernel
theorem dXF_set_9 : decode cXF_set 9 = .ok (.aload_n 0, 1) := by decide +kernel
theorem dXF_set_10 : decode cXF_set 10 = .ok (.getfield 23, 3) := by decide +kernel
theorem dXF_set_13 : decode cXF_set 13 = .ok (.iload_n 2, 1) := by decide +kernel
theorem dXF_set_14 : decode cXF_set 14 = .ok (.invokevirtual 77, 3) := by decide +kernel
theorem dXF_set_17 : decode cXF_set 17 = .ok (.goto 4, 3) := by decide +kernel
theorem dXF_set_20 : decode cXF_set 20 = .ok (.iconst (-1), 1) := by decide +kernel
theorem dXF_set_21 : decode cXF_set 21 = .ok (.ireturn, 1) := by decide +kernel
theorem dXF_hasNode_0 : decode cXF_hasNode 0 = .ok (.aload_n 0, 1) := by decide +kernel
theorem dXF_hasNode_1 : decode cXF_hasNode 1 = .ok (.getfield 14, 3) := by decide +kernel
theorem dXF_hasNode_4 : decode cXF_hasNode 4 = .ok (.iload_n 1, 1) := by decide +kernel
theorem dXF_hasNode_5 : decode cXF_hasNode 5 = .ok (.invokevirtual 45, 3) := by decide +kernel
theorem dXF_hasNode_8 : decode cXF_hasNode 8 = .ok (.ifCond .eq 23, 3) := by decide +kernel
theorem dXF_hasNode_11 : decode cXF_hasNode 11 = .ok (.iload_n 2, 1) := by decide +kernel
theorem dXF_hasNode_12 : decode cXF_hasNode 12 = .ok (.ifCond .lt 19, 3) := by decide +kernel
theorem dXF_hasNode_15 : decode cXF_hasNode 15 = .ok (.iload_n 2, 1) := by decide +kernel
theorem dXF_hasNode_16 : decode cXF_hasNode 16 = .ok (.aload_n 0, 1) := by decide +kernel
theorem dXF_hasNode_17 : decode cXF_hasNode 17 = .ok (.iload_n 1, 1) := by decide +kernel
theorem dXF_hasNode_18 : decode cXF_hasNode 18 = .ok (.invokevirtual 64, 3) := by decide +kernel
theorem dXF_hasNode_21 : decode cXF_hasNode 21 = .ok (.invokevirtual 71, 3) := by decide +kernel
theorem dXF_hasNode_24 : decode cXF_hasNode 24 = .ok (.if_icmp .ge 7, 3) := by decide +kernel
theorem dXF_hasNode_27 : decode cXF_hasNode 27 = .ok (.iconst 1, 1) := by decide +kernel
theorem dXF_hasNode_28 : decode cXF_hasNode 28 = .ok (.goto 4, 3) := by decide +kernel
theorem dXF_hasNode_31 : decode cXF_hasNode 31 = .ok (.iconst 0, 1) := by decide +kernel
theorem dXF_hasNode_32 : decode cXF_hasNode 32 = .ok (.ireturn, 1) := by decide +kernel
theorem dXF_kind_0 : decode cXF_kind 0 = .ok (.aload_n 0, 1) := by decide +kernel
theorem dXF_kind_1 : decode cXF_kind 1 = .ok (.iload_n 1, 1) := by decide +kernel
theorem dXF_kind_2 : decode cXF_kind 2 = .ok (.iload_n 2, 1) := by decide +kernel
theorem dXF_kind_3 : decode cXF_kind 3 = .ok (.invokevirtual 74, 3) := by decide +kernel
theorem dXF_kind_6 : decode cXF_kind 6 = .ok (.ifCond .eq 14, 3) := by decide +kernel
theorem dXF_kind_9 : decode cXF_kind 9 = .ok (.aload_n 0, 1) := by decide +kernel
theorem dXF_kind_10 : decode cXF_kind 10 = .ok (.getfield 23, 3) := by decide +kernel
theorem dXF_kind_13 : decode cXF_kind 13 = .ok (.iload_n 2, 1) := by decide +kernel
theorem dXF_kind_14 : decode cXF_kind 14 = .ok (.invokevirtual 80, 3) := by decide +kernel
theorem dXF_kind_17 : decode cXF_kind 17 = .ok (.goto 4, 3) := by decide +kernel
theorem dXF_kind_20 : decode cXF_kind 20 = .ok (.iconst (-1), 1) := by decide +kernel
theorem dXF_kind_21 : decode cXF_kind 21 = .ok (.ireturn, 1) := by decide +kernel
theorem dXF_parts_0 : decode cXF_parts 0 = .ok (.aload_n 0, 1) := by decide +kernel
theorem dXF_parts_1 : decode cXF_parts 1 = .ok (.iload_n 1, 1) := by decide +kernel
theorem dXF_parts_2 : decode cXF_parts 2 = .ok (.iload_n 2, 1) := by decide +kernel
theorem dXF_parts_3 : decode cXF_parts 3 = .ok (.invokevirtual 74, 3) := by decide +kernel
theorem dXF_parts_6 : decode cXF_parts 6 = .ok (.ifCond .eq 14, 3) := by decide +kernel
theorem dXF_parts_9 : decode cXF_parts 9 = .ok (.aload_n 0, 1) := by decide +kernel
theorem dXF_parts_10 : decode cXF_parts 10 = .ok (.getfield 23, 3) := by decide +kernel
theorem dXF_parts_13 : decode cXF_parts 13 = .ok (.iload_n 2, 1) := by decide +kernel
theorem dXF_parts_14 : decode cXF_parts 14 = .ok (.invokevirtual 83, 3) := by decide +kernel
theorem dXF_parts_17 : decode cXF_parts 17 = .ok (.goto 4, 3) := by decide +kernel
theorem dXF_parts_20 : decode cXF_parts 20 = .ok (.iconst (-1), 1) := by decide +kernel
theorem dXF_parts_21 : decode cXF_parts 21 = .ok (.ireturn, 1) := by decide +kernel
theorem dXF_part_0 : decode cXF_part 0 = .ok (.aload_n 0, 1) := by decide +kernel
theorem dXF_part_1 : decode cXF_part 1 = .ok (.iload_n 1, 1) := by decide +kernel
theorem dXF_part_2 : decode cXF_part 2 = .ok (.iload_n 2, 1) := by decide +kernel
theorem dXF_part_3 : decode cXF_part 3 = .ok (.invokevirtual 74, 3) := by decide +kernel
theorem dXF_part_6 : decode cXF_part 6 = .ok (.ifCond .eq 15, 3) := by decide +kernel
theorem dXF_part_9 : decode cXF_part 9 = .ok (.aload_n 0, 1) := by decide +kernel
theorem dXF_part_10 : decode cXF_part 10 = .ok (.getfield 23, 3) := by decide +kernel
theorem dXF_part_13 : decode cXF_part 13 = .ok (.iload_n 2, 1) := by decide +kernel
theorem dXF_part_14 : decode cXF_part 14 = .ok (.iload_n 3, 1) := by decide +kernel
theorem dXF_part_15 : decode cXF_part 15 = .ok (.invokevirtual 86, 3) := by decide +kernel
theorem dXF_part_18 : decode cXF_part 18 = .ok (.goto 4, 3) := by decide +kernel
theorem dXF_part_21 : decode cXF_part 21 = .ok (.iconst (-1), 1) := by decide +kernel
theorem dXF_part_22 : decode cXF_part 22 = .ok (.ireturn, 1) := by decide +kernel
theorem dXF_centre_0 : decode cXF_centre 0 = .ok (.aload_n 0, 1) := by decide +kernel
theorem dXF_centre_1 : decode cXF_centre 1 = .ok (.iload_n 1, 1) := by decide +kernel
theorem dXF_centre_2 : decode cXF_centre 2 = .ok (.iload_n 2, 1) := by decide +kernel
theorem dXF_centre_3 : decode cXF_centre 3 = .ok (.invokevirtual 74, 3) := by decide +kernel
theorem dXF_centre_6 : decode cXF_centre 6 = .ok (.ifCond .eq 14, 3) := by decide +kernel
theorem dXF_centre_9 : decode cXF_centre 9 = .ok (.aload_n 0, 1) := by decide +kernel
theorem dXF_centre_10 : decode cXF_centre 10 = .ok (.getfield 23, 3) := by decide +kernel
theorem dXF_centre_13 : decode cXF_centre 13 = .ok (.iload_n 2, 1) := by decide +kernel
theorem dXF_centre_14 : decode cXF_centre 14 = .ok (.invokevirtual 90, 3) := by decide +kernel
theorem dXF_centre_17 : decode cXF_centre 17 = .ok (.goto 4, 3) := by decide +kernel
theorem dXF_centre_20 : decode cXF_centre 20 = .ok (.iconst (-1), 1) := by decide +kernel
theorem dXF_centre_21 : decode cXF_centre 21 = .ok (.ireturn, 1) := by decide +kernel
theorem dXF_linked_0 : decode cXF_linked 0 = .ok (.aload_n 0, 1) := by decide +kernel
theorem dXF_linked_1 : decode cXF_linked 1 = .ok (.getfield 14, 3) := by decide +kernel
theorem dXF_linked_4 : decode cXF_linked 4 = .ok (.iload_n 1, 1) := by decide +kernel
theorem dXF_linked_5 : decode cXF_linked 5 = .ok (.invokevirtual 45, 3) := by decide +kernel
theorem dXF_linked_8 : decode cXF_linked 8 = .ok (.ifCond .eq 19, 3) := by decide +kernel
theorem dXF_linked_11 : decode cXF_linked 11 = .ok (.aload_n 0, 1) := by decide +kernel
theorem dXF_linked_12 : decode cXF_linked 12 = .ok (.getfield 14, 3) := by decide +kernel
theorem dXF_linked_15 : decode cXF_linked 15 = .ok (.iload_n 2, 1) := by decide +kernel
theorem dXF_linked_16 : decode cXF_linked 16 = .ok (.invokevirtual 45, 3) := by decide +kernel
theorem dXF_linked_19 : decode cXF_linked 19 = .ok (.ifCond .eq 8, 3) := by decide +kernel
theorem dXF_linked_22 : decode cXF_linked 22 = .ok (.iload_n 1, 1) := by decide +kernel
theorem dXF_linked_23 : decode cXF_linked 23 = .ok (.iload_n 2, 1) := by decide +kernel
theorem dXF_linked_24 : decode cXF_linked 24 = .ok (.if_icmp .ne 5, 3) := by decide +kernel
theorem dXF_linked_27 : decode cXF_linked 27 = .ok (.iconst 0, 1) := by decide +kernel
theorem dXF_linked_28 : decode cXF_linked 28 = .ok (.ireturn, 1) := by decide +kernel
theorem dXF_linked_29 : decode cXF_linked 29 = .ok (.aload_n 0, 1) := by decide +kernel
theorem dXF_linked_30 : decode cXF_linked 30 = .ok (.iload_n 1, 1) := by decide +kernel
theorem dXF_linked_31 : decode cXF_linked 31 = .ok (.invokevirtual 60, 3) := by decide +kernel
theorem dXF_linked_34 : decode cXF_linked 34 = .ok (.iload_n 2, 1) := by decide +kernel
theorem dXF_linked_35 : decode cXF_linked 35 = .ok (.invokestatic 93, 3) := by decide +kernel
theorem dXF_linked_38 : decode cXF_linked 38 = .ok (.ifCond .eq 20, 3) := by decide +kernel
theorem dXF_linked_41 : decode cXF_linked 41 = .ok (.aload_n 0, 1) := by decide +kernel
theorem dXF_linked_42 : decode cXF_linked 42 = .ok (.iload_n 1, 1) := by decide +kernel
theorem dXF_linked_43 : decode cXF_linked 43 = .ok (.invokevirtual 64, 3) := by decide +kernel
theorem dXF_linked_46 : decode cXF_linked 46 = .ok (.iload_n 1, 1) := by decide +kernel
theorem dXF_linked_47 : decode cXF_linked 47 = .ok (.iload_n 2, 1) := by decide +kernel
theorem dXF_linked_48 : decode cXF_linked 48 = .ok (.invokevirtual 96, 3) := by decide +kernel
theorem dXF_linked_51 : decode cXF_linked 51 = .ok (.ifCond .eq 7, 3) := by decide +kernel
theorem dXF_linked_54 : decode cXF_linked 54 = .ok (.iconst 1, 1) := by decide +kernel
theorem dXF_linked_55 : decode cXF_linked 55 = .ok (.goto 4, 3) := by decide +kernel
theorem dXF_linked_58 : decode cXF_linked 58 = .ok (.iconst 0, 1) := by decide +kernel
theorem dXF_linked_59 : decode cXF_linked 59 = .ok (.ireturn, 1) := by decide +kernel
theorem dXF_hereditary_0 : decode cXF_hereditary 0 = .ok (.aload_n 0, 1) := by decide +kernel
theorem dXF_hereditary_1 : decode cXF_hereditary 1 = .ok (.getfield 14, 3) := by decide +kernel
theorem dXF_hereditary_4 : decode cXF_hereditary 4 = .ok (.iload_n 1, 1) := by decide +kernel
theorem dXF_hereditary_5 : decode cXF_hereditary 5 = .ok (.invokevirtual 45, 3) := by decide +kernel
theorem dXF_hereditary_8 : decode cXF_hereditary 8 = .ok (.ifCond .eq 22, 3) := by decide +kernel
theorem dXF_hereditary_11 : decode cXF_hereditary 11 = .ok (.aload_n 0, 1) := by decide +kernel
theorem dXF_hereditary_12 : decode cXF_hereditary 12 = .ok (.getfield 30, 3) := by decide +kernel
theorem dXF_hereditary_15 : decode cXF_hereditary 15 = .ok (.aload_n 0, 1) := by decide +kernel
theorem dXF_hereditary_16 : decode cXF_hereditary 16 = .ok (.iload_n 1, 1) := by decide +kernel
theorem dXF_hereditary_17 : decode cXF_hereditary 17 = .ok (.invokevirtual 60, 3) := by decide +kernel
theorem dXF_hereditary_20 : decode cXF_hereditary 20 = .ok (.invokevirtual 99, 3) := by decide +kernel
theorem dXF_hereditary_23 : decode cXF_hereditary 23 = .ok (.ifCond .eq 7, 3) := by decide +kernel
theorem dXF_hereditary_26 : decode cXF_hereditary 26 = .ok (.iconst 1, 1) := by decide +kernel
theorem dXF_hereditary_27 : decode cXF_hereditary 27 = .ok (.goto 4, 3) := by decide +kernel
theorem dXF_hereditary_30 : decode cXF_hereditary 30 = .ok (.iconst 0, 1) := by decide +kernel
theorem dXF_hereditary_31 : decode cXF_hereditary 31 = .ok (.ireturn, 1) := by decide +kernel
theorem dXF_step_0 : decode cXF_step 0 = .ok (.aload_n 0, 1) := by decide +kernel
theorem dXF_step_1 : decode cXF_step 1 = .ok (.getfield 14, 3) := by decide +kernel
theorem dXF_step_4 : decode cXF_step 4 = .ok (.iload_n 1, 1) := by decide +kernel
theorem dXF_step_5 : decode cXF_step 5 = .ok (.invokevirtual 45, 3) := by decide +kernel
theorem dXF_step_8 : decode cXF_step 8 = .ok (.ifCond .eq 19, 3) := by decide +kernel
theorem dXF_step_11 : decode cXF_step 11 = .ok (.aload_n 0, 1) := by decide +kernel
theorem dXF_step_12 : decode cXF_step 12 = .ok (.getfield 30, 3) := by decide +kernel
theorem dXF_step_15 : decode cXF_step 15 = .ok (.aload_n 0, 1) := by decide +kernel
theorem dXF_step_16 : decode cXF_step 16 = .ok (.iload_n 1, 1) := by decide +kernel
theorem dXF_step_17 : decode cXF_step 17 = .ok (.invokevirtual 60, 3) := by decide +kernel
theorem dXF_step_20 : decode cXF_step 20 = .ok (.iload_n 2, 1) := by decide +kernel
theorem dXF_step_21 : decode cXF_step 21 = .ok (.invokevirtual 102, 3) := by decide +kernel
theorem dXF_step_24 : decode cXF_step 24 = .ok (.goto 4, 3) := by decide +kernel
theorem dXF_step_27 : decode cXF_step 27 = .ok (.iconst (-1), 1) := by decide +kernel
theorem dXF_step_28 : decode cXF_step 28 = .ok (.ireturn, 1) := by decide +kernel
theorem dXF_obstruction_0 : decode cXF_obstruction 0 = .ok (.aload_n 0, 1) := by decide +kernel
theorem dXF_obstruction_1 : decode cXF_obstruction 1 = .ok (.getfield 14, 3) := by decide +kernel
theorem dXF_obstruction_4 : decode cXF_obstruction 4 = .ok (.iload_n 1, 1) := by decide +kernel
theorem dXF_obstruction_5 : decode cXF_obstruction 5 = .ok (.invokevirtual 45, 3) := by decide +kernel
theorem dXF_obstruction_8 : decode cXF_obstruction 8 = .ok (.ifCond .eq 18, 3) := by decide +kernel
theorem dXF_obstruction_11 : decode cXF_obstruction 11 = .ok (.aload_n 0, 1) := by decide +kernel
theorem dXF_obstruction_12 : decode cXF_obstruction 12 = .ok (.getfield 30, 3) := by decide +kernel
theorem dXF_obstruction_15 : decode cXF_obstruction 15 = .ok (.aload_n 0, 1) := by decide +kernel
theorem dXF_obstruction_16 : decode cXF_obstruction 16 = .ok (.iload_n 1, 1) := by decide +kernel
theorem dXF_obstruction_17 : decode cXF_obstruction 17 = .ok (.invokevirtual 60, 3) := by decide +kernel
theorem dXF_obstruction_20 : decode cXF_obstruction 20 = .ok (.invokevirtual 105, 3) := by decide +kernel
theorem dXF_obstruction_23 : decode cXF_obstruction 23 = .ok (.goto 4, 3) := by decide +kernel
theorem dXF_obstruction_26 : decode cXF_obstruction 26 = .ok (.iconst (-1), 1) := by decide +kernel
theorem dXF_obstruction_27 : decode cXF_obstruction 27 = .ok (.ireturn, 1) := by decide +kernel
theorem dXF_obstacle_0 : decode cXF_obstacle 0 = .ok (.aload_n 0, 1) := by decide +kernel
theorem dXF_obstacle_1 : decode cXF_obstacle 1 = .ok (.getfield 14, 3) := by decide +kernel
theorem dXF_obstacle_4 : decode cXF_obstacle 4 = .ok (.iload_n 1, 1) := by decide +kernel
theorem dXF_obstacle_5 : decode cXF_obstacle 5 = .ok (.invokevirtual 45, 3) := by decide +kernel
theorem dXF_obstacle_8 : decode cXF_obstacle 8 = .ok (.ifCond .eq 18, 3) := by decide +kernel
theorem dXF_obstacle_11 : decode cXF_obstacle 11 = .ok (.aload_n 0, 1) := by decide +kernel
theorem dXF_obstacle_12 : decode cXF_obstacle 12 = .ok (.getfield 30, 3) := by decide +kernel
theorem dXF_obstacle_15 : decode cXF_obstacle 15 = .ok (.aload_n 0, 1) := by decide +kernel
theorem dXF_obstacle_16 : decode cXF_obstacle 16 = .ok (.iload_n 1, 1) := by decide +kernel
theorem dXF_obstacle_17 : decode cXF_obstacle 17 = .ok (.invokevirtual 60, 3) := by decide +kernel
theorem dXF_obstacle_20 : decode cXF_obstacle 20 = .ok (.invokevirtual 105, 3) := by decide +kernel
theorem dXF_obstacle_23 : decode cXF_obstacle 23 = .ok (.goto 4, 3) := by decide +kernel
theorem dXF_obstacle_26 : decode cXF_obstacle 26 = .ok (.iconst (-1), 1) := by decide +kernel
theorem dXF_obstacle_27 : decode cXF_obstacle 27 = .ok (.istore_n 2, 1) := by decide +kernel
theorem dXF_obstacle_28 : decode cXF_obstacle 28 = .ok (.iload_n 2, 1) := by decide +kernel
theorem dXF_obstacle_29 : decode cXF_obstacle 29 = .ok (.iconst (-1), 1) := by decide +kernel
theorem dXF_obstacle_30 : decode cXF_obstacle 30 = .ok (.if_icmp .ne 7, 3) := by decide +kernel
theorem dXF_obstacle_33 : decode cXF_obstacle 33 = .ok (.iconst (-1), 1) := by decide +kernel
theorem dXF_obstacle_34 : decode cXF_obstacle 34 = .ok (.goto 18, 3) := by decide +kernel
theorem dXF_obstacle_37 : decode cXF_obstacle 37 = .ok (.iload_n 2, 1) := by decide +kernel
theorem dXF_obstacle_38 : decode cXF_obstacle 38 = .ok (.invokestatic 108, 3) := by decide +kernel
theorem dXF_obstacle_41 : decode cXF_obstacle 41 = .ok (.aload_n 0, 1) := by decide +kernel
theorem dXF_obstacle_42 : decode cXF_obstacle 42 = .ok (.getfield 14, 3) := by decide +kernel
theorem dXF_obstacle_45 : decode cXF_obstacle 45 = .ok (.iload_n 2, 1) := by decide +kernel
theorem dXF_obstacle_46 : decode cXF_obstacle 46 = .ok (.invokevirtual 113, 3) := by decide +kernel
theorem dXF_obstacle_49 : decode cXF_obstacle 49 = .ok (.invokestatic 116, 3) := by decide +kernel
theorem dXF_obstacle_52 : decode cXF_obstacle 52 = .ok (.ireturn, 1) := by decide +kernel
theorem dXF_obstacleKind_0 : decode cXF_obstacleKind 0 = .ok (.iload_n 1, 1) := by decide +kernel
theorem dXF_obstacleKind_1 : decode cXF_obstacleKind 1 = .ok (.iload_n 0, 1) := by decide +kernel
theorem dXF_obstacleKind_2 : decode cXF_obstacleKind 2 = .ok (.if_icmp .ne 5, 3) := by decide +kernel
theorem dXF_obstacleKind_5 : decode cXF_obstacleKind 5 = .ok (.iconst 1, 1) := by decide +kernel
theorem dXF_obstacleKind_6 : decode cXF_obstacleKind 6 = .ok (.ireturn, 1) := by decide +kernel
theorem dXF_obstacleKind_7 : decode cXF_obstacleKind 7 = .ok (.iload_n 0, 1) := by decide +kernel
theorem dXF_obstacleKind_8 : decode cXF_obstacleKind 8 = .ok (.bipush 6, 2) := by decide +kernel
theorem dXF_obstacleKind_10 : decode cXF_obstacleKind 10 = .ok (.if_icmp .ne 5, 3) := by decide +kernel
theorem dXF_obstacleKind_13 : decode cXF_obstacleKind 13 = .ok (.iconst 4, 1) := by decide +kernel
theorem dXF_obstacleKind_14 : decode cXF_obstacleKind 14 = .ok (.ireturn, 1) := by decide +kernel
theorem dXF_obstacleKind_15 : decode cXF_obstacleKind 15 = .ok (.iload_n 1, 1) := by decide +kernel
theorem dXF_obstacleKind_16 : decode cXF_obstacleKind 16 = .ok (.bipush 6, 2) := by decide +kernel
theorem dXF_obstacleKind_18 : decode cXF_obstacleKind 18 = .ok (.if_icmp .ne 7, 3) := by decide +kernel
theorem dXF_obstacleKind_21 : decode cXF_obstacleKind 21 = .ok (.iconst 2, 1) := by decide +kernel
theorem dXF_obstacleKind_22 : decode cXF_obstacleKind 22 = .ok (.goto 4, 3) := by decide +kernel
theorem dXF_obstacleKind_25 : decode cXF_obstacleKind 25 = .ok (.iconst 3, 1) := by decide +kernel
theorem dXF_obstacleKind_26 : decode cXF_obstacleKind 26 = .ok (.ireturn, 1) := by decide +kernel
theorem dXF_apart_0 : decode cXF_apart 0 = .ok (.aload_n 0, 1) := by decide +kernel
theorem dXF_apart_1 : decode cXF_apart 1 = .ok (.iload_n 1, 1) := by decide +kernel
theorem dXF_apart_2 : decode cXF_apart 2 = .ok (.invokevirtual 119, 3) := by decide +kernel
theorem dXF_apart_5 : decode cXF_apart 5 = .ok (.ifCond .eq 21, 3) := by decide +kernel
theorem dXF_apart_8 : decode cXF_apart 8 = .ok (.aload_n 0, 1) := by decide +kernel
theorem dXF_apart_9 : decode cXF_apart 9 = .ok (.getfield 37, 3) := by decide +kernel
theorem dXF_apart_12 : decode cXF_apart 12 = .ok (.aload_n 0, 1) := by decide +kernel
theorem dXF_apart_13 : decode cXF_apart 13 = .ok (.iload_n 1, 1) := by decide +kernel
theorem dXF_apart_14 : decode cXF_apart 14 = .ok (.invokevirtual 60, 3) := by decide +kernel
theorem dXF_apart_17 : decode cXF_apart 17 = .ok (.invokevirtual 122, 3) := by decide +kernel
theorem dXF_apart_20 : decode cXF_apart 20 = .ok (.invokestatic 108, 3) := by decide +kernel
theorem dXF_apart_23 : decode cXF_apart 23 = .ok (.goto 4, 3) := by decide +kernel
theorem dXF_apart_26 : decode cXF_apart 26 = .ok (.iconst (-1), 1) := by decide +kernel
theorem dXF_apart_27 : decode cXF_apart 27 = .ok (.ireturn, 1) := by decide +kernel
theorem dXF_chosen_0 : decode cXF_chosen 0 = .ok (.aload_n 0, 1) := by decide +kernel
theorem dXF_chosen_1 : decode cXF_chosen 1 = .ok (.iload_n 1, 1) := by decide +kernel
theorem dXF_chosen_2 : decode cXF_chosen 2 = .ok (.invokevirtual 119, 3) := by decide +kernel
theorem dXF_chosen_5 : decode cXF_chosen 5 = .ok (.ifCond .eq 18, 3) := by decide +kernel
theorem dXF_chosen_8 : decode cXF_chosen 8 = .ok (.aload_n 0, 1) := by decide +kernel
theorem dXF_chosen_9 : decode cXF_chosen 9 = .ok (.getfield 37, 3) := by decide +kernel
theorem dXF_chosen_12 : decode cXF_chosen 12 = .ok (.aload_n 0, 1) := by decide +kernel
theorem dXF_chosen_13 : decode cXF_chosen 13 = .ok (.iload_n 1, 1) := by decide +kernel
theorem dXF_chosen_14 : decode cXF_chosen 14 = .ok (.invokevirtual 60, 3) := by decide +kernel
theorem dXF_chosen_17 : decode cXF_chosen 17 = .ok (.invokevirtual 122, 3) := by decide +kernel
theorem dXF_chosen_20 : decode cXF_chosen 20 = .ok (.goto 4, 3) := by decide +kernel
theorem dXF_chosen_23 : decode cXF_chosen 23 = .ok (.iconst (-1), 1) := by decide +kernel
theorem dXF_chosen_24 : decode cXF_chosen 24 = .ok (.ireturn, 1) := by decide +kernel
theorem dXF_cover_0 : decode cXF_cover 0 = .ok (.aload_n 0, 1) := by decide +kernel
theorem dXF_cover_1 : decode cXF_cover 1 = .ok (.iload_n 1, 1) := by decide +kernel
theorem dXF_cover_2 : decode cXF_cover 2 = .ok (.invokevirtual 119, 3) := by decide +kernel
theorem dXF_cover_5 : decode cXF_cover 5 = .ok (.ifCond .eq 18, 3) := by decide +kernel
theorem dXF_cover_8 : decode cXF_cover 8 = .ok (.aload_n 0, 1) := by decide +kernel
theorem dXF_cover_9 : decode cXF_cover 9 = .ok (.getfield 37, 3) := by decide +kernel
theorem dXF_cover_12 : decode cXF_cover 12 = .ok (.aload_n 0, 1) := by decide +kernel
theorem dXF_cover_13 : decode cXF_cover 13 = .ok (.iload_n 1, 1) := by decide +kernel
theorem dXF_cover_14 : decode cXF_cover 14 = .ok (.invokevirtual 60, 3) := by decide +kernel
theorem dXF_cover_17 : decode cXF_cover 17 = .ok (.invokevirtual 125, 3) := by decide +kernel
theorem dXF_cover_20 : decode cXF_cover 20 = .ok (.goto 4, 3) := by decide +kernel
theorem dXF_cover_23 : decode cXF_cover 23 = .ok (.iconst (-1), 1) := by decide +kernel
theorem dXF_cover_24 : decode cXF_cover 24 = .ok (.ireturn, 1) := by decide +kernel
end
section
theorem dXG_init_0 : decode cXG_init 0 = .ok (.aload_n 0, 1) := by decide +kernel
theorem dXG_init_1 : decode cXG_init 1 = .ok (.invokespecial 1, 3) := by decide +kernel
theorem dXG_init_4 : decode cXG_init 4 = .ok (.aload_n 0, 1) := by decide +kernel
theorem dXG_init_5 : decode cXG_init 5 = .ok (.iload_n 1, 1) := by decide +kernel
theorem dXG_init_6 : decode cXG_init 6 = .ok (.putfield 7, 3) := by decide +kernel
theorem dXG_init_9 : decode cXG_init 9 = .ok (.aload_n 0, 1) := by decide +kernel
theorem dXG_init_10 : decode cXG_init 10 = .ok (.iload_n 1, 1) := by decide +kernel
theorem dXG_init_11 : decode cXG_init 11 = .ok (.newarray .int, 2) := by decide +kernel
theorem dXG_init_13 : decode cXG_init 13 = .ok (.putfield 13, 3) := by decide +kernel
theorem dXG_init_16 : decode cXG_init 16 = .ok (.return_, 1) := by decide +kernel
theorem dXG_size_0 : decode cXG_size 0 = .ok (.aload_n 0, 1) := by decide +kernel
theorem dXG_size_1 : decode cXG_size 1 = .ok (.getfield 7, 3) := by decide +kernel
theorem dXG_size_4 : decode cXG_size 4 = .ok (.ireturn, 1) := by decide +kernel
theorem dXG_has_0 : decode cXG_has 0 = .ok (.iload_n 1, 1) := by decide +kernel
theorem dXG_has_1 : decode cXG_has 1 = .ok (.ifCond .lt 15, 3) := by decide +kernel
theorem dXG_has_4 : decode cXG_has 4 = .ok (.iload_n 1, 1) := by decide +kernel
theorem dXG_has_5 : decode cXG_has 5 = .ok (.aload_n 0, 1) := by decide +kernel
theorem dXG_has_6 : decode cXG_has 6 = .ok (.getfield 7, 3) := by decide +kernel
theorem dXG_has_9 : decode cXG_has 9 = .ok (.if_icmp .ge 7, 3) := by decide +kernel
theorem dXG_has_12 : decode cXG_has 12 = .ok (.iconst 1, 1) := by decide +kernel
theorem dXG_has_13 : decode cXG_has 13 = .ok (.goto 4, 3) := by decide +kernel
theorem dXG_has_16 : decode cXG_has 16 = .ok (.iconst 0, 1) := by decide +kernel
theorem dXG_has_17 : decode cXG_has 17 = .ok (.ireturn, 1) := by decide +kernel
theorem dXG_toggle_0 : decode cXG_toggle 0 = .ok (.aload_n 0, 1) := by decide +kernel
theorem dXG_toggle_1 : decode cXG_toggle 1 = .ok (.getfield 13, 3) := by decide +kernel
theorem dXG_toggle_4 : decode cXG_toggle 4 = .ok (.iload_n 1, 1) := by decide +kernel
theorem dXG_toggle_5 : decode cXG_toggle 5 = .ok (.dup2, 1) := by decide +kernel
theorem dXG_toggle_6 : decode cXG_toggle 6 = .ok (.iaload, 1) := by decide +kernel
theorem dXG_toggle_7 : decode cXG_toggle 7 = .ok (.iconst 1, 1) := by decide +kernel
theorem dXG_toggle_8 : decode cXG_toggle 8 = .ok (.iload_n 2, 1) := by decide +kernel
theorem dXG_toggle_9 : decode cXG_toggle 9 = .ok (.ishl, 1) := by decide +kernel
theorem dXG_toggle_10 : decode cXG_toggle 10 = .ok (.ixor, 1) := by decide +kernel
theorem dXG_toggle_11 : decode cXG_toggle 11 = .ok (.iastore, 1) := by decide +kernel
theorem dXG_toggle_12 : decode cXG_toggle 12 = .ok (.aload_n 0, 1) := by decide +kernel
theorem dXG_toggle_13 : decode cXG_toggle 13 = .ok (.getfield 13, 3) := by decide +kernel
theorem dXG_toggle_16 : decode cXG_toggle 16 = .ok (.iload_n 2, 1) := by decide +kernel
theorem dXG_toggle_17 : decode cXG_toggle 17 = .ok (.dup2, 1) := by decide +kernel
theorem dXG_toggle_18 : decode cXG_toggle 18 = .ok (.iaload, 1) := by decide +kernel
theorem dXG_toggle_19 : decode cXG_toggle 19 = .ok (.iconst 1, 1) := by decide +kernel
theorem dXG_toggle_20 : decode cXG_toggle 20 = .ok (.iload_n 1, 1) := by decide +kernel
theorem dXG_toggle_21 : decode cXG_toggle 21 = .ok (.ishl, 1) := by decide +kernel
theorem dXG_toggle_22 : decode cXG_toggle 22 = .ok (.ixor, 1) := by decide +kernel
theorem dXG_toggle_23 : decode cXG_toggle 23 = .ok (.iastore, 1) := by decide +kernel
theorem dXG_toggle_24 : decode cXG_toggle 24 = .ok (.return_, 1) := by decide +kernel
theorem dXG_edge_0 : decode cXG_edge 0 = .ok (.aload_n 0, 1) := by decide +kernel
theorem dXG_edge_1 : decode cXG_edge 1 = .ok (.getfield 13, 3) := by decide +kernel
theorem dXG_edge_4 : decode cXG_edge 4 = .ok (.iload_n 1, 1) := by decide +kernel
theorem dXG_edge_5 : decode cXG_edge 5 = .ok (.iaload, 1) := by decide +kernel
theorem dXG_edge_6 : decode cXG_edge 6 = .ok (.iload_n 2, 1) := by decide +kernel
theorem dXG_edge_7 : decode cXG_edge 7 = .ok (.invokestatic 17, 3) := by decide +kernel
theorem dXG_edge_10 : decode cXG_edge 10 = .ok (.ireturn, 1) := by decide +kernel
theorem dXG_all_0 : decode cXG_all 0 = .ok (.iconst 1, 1) := by decide +kernel
theorem dXG_all_1 : decode cXG_all 1 = .ok (.aload_n 0, 1) := by decide +kernel
theorem dXG_all_2 : decode cXG_all 2 = .ok (.getfield 7, 3) := by decide +kernel
theorem dXG_all_5 : decode cXG_all 5 = .ok (.ishl, 1) := by decide +kernel
theorem dXG_all_6 : decode cXG_all 6 = .ok (.iconst 1, 1) := by decide +kernel
theorem dXG_all_7 : decode cXG_all 7 = .ok (.isub, 1) := by decide +kernel
theorem dXG_all_8 : decode cXG_all 8 = .ok (.ireturn, 1) := by decide +kernel
theorem dXG_reached_0 : decode cXG_reached 0 = .ok (.iconst 1, 1) := by decide +kernel
theorem dXG_reached_1 : decode cXG_reached 1 = .ok (.iload_n 1, 1) := by decide +kernel
theorem dXG_reached_2 : decode cXG_reached 2 = .ok (.ishl, 1) := by decide +kernel
theorem dXG_reached_3 : decode cXG_reached 3 = .ok (.istore_n 3, 1) := by decide +kernel
theorem dXG_reached_4 : decode cXG_reached 4 = .ok (.iconst 0, 1) := by decide +kernel
theorem dXG_reached_5 : decode cXG_reached 5 = .ok (.istore 4, 2) := by decide +kernel
theorem dXG_reached_7 : decode cXG_reached 7 = .ok (.iload 4, 2) := by decide +kernel
theorem dXG_reached_9 : decode cXG_reached 9 = .ok (.aload_n 0, 1) := by decide +kernel
theorem dXG_reached_10 : decode cXG_reached 10 = .ok (.getfield 7, 3) := by decide +kernel
theorem dXG_reached_13 : decode cXG_reached 13 = .ok (.if_icmp .ge 31, 3) := by decide +kernel
theorem dXG_reached_16 : decode cXG_reached 16 = .ok (.iload_n 3, 1) := by decide +kernel
theorem dXG_reached_17 : decode cXG_reached 17 = .ok (.aload_n 0, 1) := by decide +kernel
theorem dXG_reached_18 : decode cXG_reached 18 = .ok (.iload_n 3, 1) := by decide +kernel
theorem dXG_reached_19 : decode cXG_reached 19 = .ok (.iload_n 2, 1) := by decide +kernel
theorem dXG_reached_20 : decode cXG_reached 20 = .ok (.invokevirtual 23, 3) := by decide +kernel
theorem dXG_reached_23 : decode cXG_reached 23 = .ok (.ior, 1) := by decide +kernel
theorem dXG_reached_24 : decode cXG_reached 24 = .ok (.istore 5, 2) := by decide +kernel
theorem dXG_reached_26 : decode cXG_reached 26 = .ok (.iload 5, 2) := by decide +kernel
theorem dXG_reached_28 : decode cXG_reached 28 = .ok (.iload_n 3, 1) := by decide +kernel
theorem dXG_reached_29 : decode cXG_reached 29 = .ok (.if_icmp .ne 6, 3) := by decide +kernel
theorem dXG_reached_32 : decode cXG_reached 32 = .ok (.goto 12, 3) := by decide +kernel
theorem dXG_reached_35 : decode cXG_reached 35 = .ok (.iload 5, 2) := by decide +kernel
theorem dXG_reached_37 : decode cXG_reached 37 = .ok (.istore_n 3, 1) := by decide +kernel
theorem dXG_reached_38 : decode cXG_reached 38 = .ok (.iinc 4 1, 3) := by decide +kernel
theorem dXG_reached_41 : decode cXG_reached 41 = .ok (.goto (-34), 3) := by decide +kernel
theorem dXG_reached_44 : decode cXG_reached 44 = .ok (.iload_n 3, 1) := by decide +kernel
theorem dXG_reached_45 : decode cXG_reached 45 = .ok (.ireturn, 1) := by decide +kernel
theorem dXG_nearToAny_0 : decode cXG_nearToAny 0 = .ok (.iconst 0, 1) := by decide +kernel
theorem dXG_nearToAny_1 : decode cXG_nearToAny 1 = .ok (.istore_n 3, 1) := by decide +kernel
theorem dXG_nearToAny_2 : decode cXG_nearToAny 2 = .ok (.iconst 0, 1) := by decide +kernel
theorem dXG_nearToAny_3 : decode cXG_nearToAny 3 = .ok (.istore 4, 2) := by decide +kernel
theorem dXG_nearToAny_5 : decode cXG_nearToAny 5 = .ok (.iload 4, 2) := by decide +kernel
theorem dXG_nearToAny_7 : decode cXG_nearToAny 7 = .ok (.aload_n 0, 1) := by decide +kernel
theorem dXG_nearToAny_8 : decode cXG_nearToAny 8 = .ok (.getfield 7, 3) := by decide +kernel
theorem dXG_nearToAny_11 : decode cXG_nearToAny 11 = .ok (.if_icmp .ge 30, 3) := by decide +kernel
theorem dXG_nearToAny_14 : decode cXG_nearToAny 14 = .ok (.iload_n 1, 1) := by decide +kernel
theorem dXG_nearToAny_15 : decode cXG_nearToAny 15 = .ok (.iload 4, 2) := by decide +kernel
theorem dXG_nearToAny_17 : decode cXG_nearToAny 17 = .ok (.invokestatic 17, 3) := by decide +kernel
theorem dXG_nearToAny_20 : decode cXG_nearToAny 20 = .ok (.ifCond .eq 15, 3) := by decide +kernel
theorem dXG_nearToAny_23 : decode cXG_nearToAny 23 = .ok (.iload_n 3, 1) := by decide +kernel
theorem dXG_nearToAny_24 : decode cXG_nearToAny 24 = .ok (.aload_n 0, 1) := by decide +kernel
theorem dXG_nearToAny_25 : decode cXG_nearToAny 25 = .ok (.getfield 13, 3) := by decide +kernel
theorem dXG_nearToAny_28 : decode cXG_nearToAny 28 = .ok (.iload 4, 2) := by decide +kernel
theorem dXG_nearToAny_30 : decode cXG_nearToAny 30 = .ok (.iaload, 1) := by decide +kernel
theorem dXG_nearToAny_31 : decode cXG_nearToAny 31 = .ok (.iload_n 2, 1) := by decide +kernel
theorem dXG_nearToAny_32 : decode cXG_nearToAny 32 = .ok (.iand, 1) := by decide +kernel
theorem dXG_nearToAny_33 : decode cXG_nearToAny 33 = .ok (.ior, 1) := by decide +kernel
theorem dXG_nearToAny_34 : decode cXG_nearToAny 34 = .ok (.istore_n 3, 1) := by decide +kernel
theorem dXG_nearToAny_35 : decode cXG_nearToAny 35 = .ok (.iinc 4 1, 3) := by decide +kernel
theorem dXG_nearToAny_38 : decode cXG_nearToAny 38 = .ok (.goto (-33), 3) := by decide +kernel
theorem dXG_nearToAny_41 : decode cXG_nearToAny 41 = .ok (.iload_n 3, 1) := by decide +kernel
theorem dXG_nearToAny_42 : decode cXG_nearToAny 42 = .ok (.ireturn, 1) := by decide +kernel
theorem dXG_nearInside_0 : decode cXG_nearInside 0 = .ok (.aload_n 0, 1) := by decide +kernel
theorem dXG_nearInside_1 : decode cXG_nearInside 1 = .ok (.getfield 13, 3) := by decide +kernel
theorem dXG_nearInside_4 : decode cXG_nearInside 4 = .ok (.iload_n 1, 1) := by decide +kernel
theorem dXG_nearInside_5 : decode cXG_nearInside 5 = .ok (.iaload, 1) := by decide +kernel
theorem dXG_nearInside_6 : decode cXG_nearInside 6 = .ok (.iload_n 2, 1) := by decide +kernel
theorem dXG_nearInside_7 : decode cXG_nearInside 7 = .ok (.iand, 1) := by decide +kernel
theorem dXG_nearInside_8 : decode cXG_nearInside 8 = .ok (.ireturn, 1) := by decide +kernel
theorem dXG_joined_0 : decode cXG_joined 0 = .ok (.aload_n 0, 1) := by decide +kernel
theorem dXG_joined_1 : decode cXG_joined 1 = .ok (.iload_n 1, 1) := by decide +kernel
theorem dXG_joined_2 : decode cXG_joined 2 = .ok (.iload_n 2, 1) := by decide +kernel
theorem dXG_joined_3 : decode cXG_joined 3 = .ok (.invokevirtual 23, 3) := by decide +kernel
theorem dXG_joined_6 : decode cXG_joined 6 = .ok (.ifCond .eq 7, 3) := by decide +kernel
theorem dXG_joined_9 : decode cXG_joined 9 = .ok (.iconst 1, 1) := by decide +kernel
theorem dXG_joined_10 : decode cXG_joined 10 = .ok (.goto 4, 3) := by decide +kernel
theorem dXG_joined_13 : decode cXG_joined 13 = .ok (.iconst 0, 1) := by decide +kernel
theorem dXG_joined_14 : decode cXG_joined 14 = .ok (.ireturn, 1) := by decide +kernel
theorem dXG_areTwins_0 : decode cXG_areTwins 0 = .ok (.iload_n 3, 1) := by decide +kernel
theorem dXG_areTwins_1 : decode cXG_areTwins 1 = .ok (.iconst 1, 1) := by decide +kernel
theorem dXG_areTwins_2 : decode cXG_areTwins 2 = .ok (.iload_n 1, 1) := by decide +kernel
theorem dXG_areTwins_3 : decode cXG_areTwins 3 = .ok (.ishl, 1) := by decide +kernel
theorem dXG_areTwins_4 : decode cXG_areTwins 4 = .ok (.iconst (-1), 1) := by decide +kernel
theorem dXG_areTwins_5 : decode cXG_areTwins 5 = .ok (.ixor, 1) := by decide +kernel
theorem dXG_areTwins_6 : decode cXG_areTwins 6 = .ok (.iand, 1) := by decide +kernel
theorem dXG_areTwins_7 : decode cXG_areTwins 7 = .ok (.iconst 1, 1) := by decide +kernel
theorem dXG_areTwins_8 : decode cXG_areTwins 8 = .ok (.iload_n 2, 1) := by decide +kernel
theorem dXG_areTwins_9 : decode cXG_areTwins 9 = .ok (.ishl, 1) := by decide +kernel
theorem dXG_areTwins_10 : decode cXG_areTwins 10 = .ok (.iconst (-1), 1) := by decide +kernel
theorem dXG_areTwins_11 : decode cXG_areTwins 11 = .ok (.ixor, 1) := by decide +kernel
theorem dXG_areTwins_12 : decode cXG_areTwins 12 = .ok (.iand, 1) := by decide +kernel
theorem dXG_areTwins_13 : decode cXG_areTwins 13 = .ok (.istore 4, 2) := by decide +kernel
theorem dXG_areTwins_15 : decode cXG_areTwins 15 = .ok (.aload_n 0, 1) := by decide +kernel
theorem dXG_areTwins_16 : decode cXG_areTwins 16 = .ok (.getfield 13, 3) := by decide +kernel
theorem dXG_areTwins_19 : decode cXG_areTwins 19 = .ok (.iload_n 1, 1) := by decide +kernel
theorem dXG_areTwins_20 : decode cXG_areTwins 20 = .ok (.iaload, 1) := by decide +kernel
theorem dXG_areTwins_21 : decode cXG_areTwins 21 = .ok (.iload 4, 2) := by decide +kernel
theorem dXG_areTwins_23 : decode cXG_areTwins 23 = .ok (.iand, 1) := by decide +kernel
theorem dXG_areTwins_24 : decode cXG_areTwins 24 = .ok (.aload_n 0, 1) := by decide +kernel
theorem dXG_areTwins_25 : decode cXG_areTwins 25 = .ok (.getfield 13, 3) := by decide +kernel
theorem dXG_areTwins_28 : decode cXG_areTwins 28 = .ok (.iload_n 2, 1) := by decide +kernel
theorem dXG_areTwins_29 : decode cXG_areTwins 29 = .ok (.iaload, 1) := by decide +kernel
theorem dXG_areTwins_30 : decode cXG_areTwins 30 = .ok (.iload 4, 2) := by decide +kernel
theorem dXG_areTwins_32 : decode cXG_areTwins 32 = .ok (.iand, 1) := by decide +kernel
theorem dXG_areTwins_33 : decode cXG_areTwins 33 = .ok (.if_icmp .ne 7, 3) := by decide +kernel
theorem dXG_areTwins_36 : decode cXG_areTwins 36 = .ok (.iconst 1, 1) := by decide +kernel
theorem dXG_areTwins_37 : decode cXG_areTwins 37 = .ok (.goto 4, 3) := by decide +kernel
theorem dXG_areTwins_40 : decode cXG_areTwins 40 = .ok (.iconst 0, 1) := by decide +kernel
theorem dXG_areTwins_41 : decode cXG_areTwins 41 = .ok (.ireturn, 1) := by decide +kernel
theorem dXG_edgesInside_0 : decode cXG_edgesInside 0 = .ok (.iconst 0, 1) := by decide +kernel
theorem dXG_edgesInside_1 : decode cXG_edgesInside 1 = .ok (.istore_n 2, 1) := by decide +kernel
theorem dXG_edgesInside_2 : decode cXG_edgesInside 2 = .ok (.iconst 0, 1) := by decide +kernel
theorem dXG_edgesInside_3 : decode cXG_edgesInside 3 = .ok (.istore_n 3, 1) := by decide +kernel
theorem dXG_edgesInside_4 : decode cXG_edgesInside 4 = .ok (.iload_n 3, 1) := by decide +kernel
theorem dXG_edgesInside_5 : decode cXG_edgesInside 5 = .ok (.aload_n 0, 1) := by decide +kernel
theorem dXG_edgesInside_6 : decode cXG_edgesInside 6 = .ok (.getfield 7, 3) := by decide +kernel
theorem dXG_edgesInside_9 : decode cXG_edgesInside 9 = .ok (.if_icmp .ge 31, 3) := by decide +kernel
theorem dXG_edgesInside_12 : decode cXG_edgesInside 12 = .ok (.iload_n 1, 1) := by decide +kernel
theorem dXG_edgesInside_13 : decode cXG_edgesInside 13 = .ok (.iload_n 3, 1) := by decide +kernel
theorem dXG_edgesInside_14 : decode cXG_edgesInside 14 = .ok (.invokestatic 17, 3) := by decide +kernel
theorem dXG_edgesInside_17 : decode cXG_edgesInside 17 = .ok (.ifCond .eq 17, 3) := by decide +kernel
theorem dXG_edgesInside_20 : decode cXG_edgesInside 20 = .ok (.iload_n 2, 1) := by decide +kernel
theorem dXG_edgesInside_21 : decode cXG_edgesInside 21 = .ok (.aload_n 0, 1) := by decide +kernel
theorem dXG_edgesInside_22 : decode cXG_edgesInside 22 = .ok (.getfield 13, 3) := by decide +kernel
theorem dXG_edgesInside_25 : decode cXG_edgesInside 25 = .ok (.iload_n 3, 1) := by decide +kernel
theorem dXG_edgesInside_26 : decode cXG_edgesInside 26 = .ok (.iaload, 1) := by decide +kernel
theorem dXG_edgesInside_27 : decode cXG_edgesInside 27 = .ok (.iload_n 1, 1) := by decide +kernel
theorem dXG_edgesInside_28 : decode cXG_edgesInside 28 = .ok (.iand, 1) := by decide +kernel
theorem dXG_edgesInside_29 : decode cXG_edgesInside 29 = .ok (.invokestatic 27, 3) := by decide +kernel
theorem dXG_edgesInside_32 : decode cXG_edgesInside 32 = .ok (.iadd, 1) := by decide +kernel
theorem dXG_edgesInside_33 : decode cXG_edgesInside 33 = .ok (.istore_n 2, 1) := by decide +kernel
theorem dXG_edgesInside_34 : decode cXG_edgesInside 34 = .ok (.iinc 3 1, 3) := by decide +kernel
theorem dXG_edgesInside_37 : decode cXG_edgesInside 37 = .ok (.goto (-33), 3) := by decide +kernel
theorem dXG_edgesInside_40 : decode cXG_edgesInside 40 = .ok (.iload_n 2, 1) := by decide +kernel
theorem dXG_edgesInside_41 : decode cXG_edgesInside 41 = .ok (.iconst 2, 1) := by decide +kernel
theorem dXG_edgesInside_42 : decode cXG_edgesInside 42 = .ok (.idiv, 1) := by decide +kernel
theorem dXG_edgesInside_43 : decode cXG_edgesInside 43 = .ok (.ireturn, 1) := by decide +kernel
end
section
theorem dXT_init_0 : decode cXT_init 0 = .ok (.aload_n 0, 1) := by decide +kernel
theorem dXT_init_1 : decode cXT_init 1 = .ok (.invokespecial 3, 3) := by decide +kernel
theorem dXT_init_4 : decode cXT_init 4 = .ok (.aload_n 0, 1) := by decide +kernel
theorem dXT_init_5 : decode cXT_init 5 = .ok (.aload_n 1, 1) := by decide +kernel
theorem dXT_init_6 : decode cXT_init 6 = .ok (.putfield 9, 3) := by decide +kernel
theorem dXT_init_9 : decode cXT_init 9 = .ok (.aload_n 0, 1) := by decide +kernel
theorem dXT_init_10 : decode cXT_init 10 = .ok (.iconst 1, 1) := by decide +kernel
theorem dXT_init_11 : decode cXT_init 11 = .ok (.aload_n 1, 1) := by decide +kernel
theorem dXT_init_12 : decode cXT_init 12 = .ok (.invokevirtual 15, 3) := by decide +kernel
theorem dXT_init_15 : decode cXT_init 15 = .ok (.iconst 1, 1) := by decide +kernel
theorem dXT_init_16 : decode cXT_init 16 = .ok (.isub, 1) := by decide +kernel
theorem dXT_init_17 : decode cXT_init 17 = .ok (.ishl, 1) := by decide +kernel
theorem dXT_init_18 : decode cXT_init 18 = .ok (.newarray .int, 2) := by decide +kernel
theorem dXT_init_20 : decode cXT_init 20 = .ok (.putfield 21, 3) := by decide +kernel
theorem dXT_init_23 : decode cXT_init 23 = .ok (.aload_n 0, 1) := by decide +kernel
theorem dXT_init_24 : decode cXT_init 24 = .ok (.iconst 1, 1) := by decide +kernel
theorem dXT_init_25 : decode cXT_init 25 = .ok (.aload_n 1, 1) := by decide +kernel
theorem dXT_init_26 : decode cXT_init 26 = .ok (.invokevirtual 15, 3) := by decide +kernel
theorem dXT_init_29 : decode cXT_init 29 = .ok (.iconst 1, 1) := by decide +kernel
theorem dXT_init_30 : decode cXT_init 30 = .ok (.isub, 1) := by decide +kernel
theorem dXT_init_31 : decode cXT_init 31 = .ok (.ishl, 1) := by decide +kernel
theorem dXT_init_32 : decode cXT_init 32 = .ok (.newarray .int, 2) := by decide +kernel
theorem dXT_init_34 : decode cXT_init 34 = .ok (.putfield 25, 3) := by decide +kernel
theorem dXT_init_37 : decode cXT_init 37 = .ok (.aload_n 0, 1) := by decide +kernel
theorem dXT_init_38 : decode cXT_init 38 = .ok (.aload_n 1, 1) := by decide +kernel
theorem dXT_init_39 : decode cXT_init 39 = .ok (.invokevirtual 15, 3) := by decide +kernel
theorem dXT_init_42 : decode cXT_init 42 = .ok (.newarray .int, 2) := by decide +kernel
theorem dXT_init_44 : decode cXT_init 44 = .ok (.putfield 28, 3) := by decide +kernel
theorem dXT_init_47 : decode cXT_init 47 = .ok (.aload_n 0, 1) := by decide +kernel
theorem dXT_init_48 : decode cXT_init 48 = .ok (.aload_n 1, 1) := by decide +kernel
theorem dXT_init_49 : decode cXT_init 49 = .ok (.invokevirtual 15, 3) := by decide +kernel
theorem dXT_init_52 : decode cXT_init 52 = .ok (.newarray .int, 2) := by decide +kernel
theorem dXT_init_54 : decode cXT_init 54 = .ok (.putfield 31, 3) := by decide +kernel
theorem dXT_init_57 : decode cXT_init 57 = .ok (.return_, 1) := by decide +kernel
theorem dXT_forget_0 : decode cXT_forget 0 = .ok (.aload_n 0, 1) := by decide +kernel
theorem dXT_forget_1 : decode cXT_forget 1 = .ok (.iconst 0, 1) := by decide +kernel
theorem dXT_forget_2 : decode cXT_forget 2 = .ok (.putfield 34, 3) := by decide +kernel
theorem dXT_forget_5 : decode cXT_forget 5 = .ok (.return_, 1) := by decide +kernel
theorem dXT_growFor_0 : decode cXT_growFor 0 = .ok (.aload_n 0, 1) := by decide +kernel
theorem dXT_growFor_1 : decode cXT_growFor 1 = .ok (.getfield 34, 3) := by decide +kernel
theorem dXT_growFor_4 : decode cXT_growFor 4 = .ok (.iload_n 1, 1) := by decide +kernel
theorem dXT_growFor_5 : decode cXT_growFor 5 = .ok (.if_icmp .eq 16, 3) := by decide +kernel
theorem dXT_growFor_8 : decode cXT_growFor 8 = .ok (.aload_n 0, 1) := by decide +kernel
theorem dXT_growFor_9 : decode cXT_growFor 9 = .ok (.iload_n 1, 1) := by decide +kernel
theorem dXT_growFor_10 : decode cXT_growFor 10 = .ok (.putfield 34, 3) := by decide +kernel
theorem dXT_growFor_13 : decode cXT_growFor 13 = .ok (.aload_n 0, 1) := by decide +kernel
theorem dXT_growFor_14 : decode cXT_growFor 14 = .ok (.invokevirtual 38, 3) := by decide +kernel
theorem dXT_growFor_17 : decode cXT_growFor 17 = .ok (.aload_n 0, 1) := by decide +kernel
theorem dXT_growFor_18 : decode cXT_growFor 18 = .ok (.invokevirtual 41, 3) := by decide +kernel
theorem dXT_growFor_21 : decode cXT_growFor 21 = .ok (.return_, 1) := by decide +kernel
theorem dXT_findSplits_0 : decode cXT_findSplits 0 = .ok (.aload_n 0, 1) := by decide +kernel
theorem dXT_findSplits_1 : decode cXT_findSplits 1 = .ok (.getfield 34, 3) := by decide +kernel
theorem dXT_findSplits_4 : decode cXT_findSplits 4 = .ok (.aload_n 0, 1) := by decide +kernel
theorem dXT_findSplits_5 : decode cXT_findSplits 5 = .ok (.getfield 34, 3) := by decide +kernel
theorem dXT_findSplits_8 : decode cXT_findSplits 8 = .ok (.iconst 1, 1) := by decide +kernel
theorem dXT_findSplits_9 : decode cXT_findSplits 9 = .ok (.isub, 1) := by decide +kernel
theorem dXT_findSplits_10 : decode cXT_findSplits 10 = .ok (.iand, 1) := by decide +kernel
theorem dXT_findSplits_11 : decode cXT_findSplits 11 = .ok (.istore_n 1, 1) := by decide +kernel
theorem dXT_findSplits_12 : decode cXT_findSplits 12 = .ok (.aload_n 0, 1) := by decide +kernel
theorem dXT_findSplits_13 : decode cXT_findSplits 13 = .ok (.iconst 0, 1) := by decide +kernel
theorem dXT_findSplits_14 : decode cXT_findSplits 14 = .ok (.putfield 44, 3) := by decide +kernel
theorem dXT_findSplits_17 : decode cXT_findSplits 17 = .ok (.iconst 1, 1) := by decide +kernel
theorem dXT_findSplits_18 : decode cXT_findSplits 18 = .ok (.istore_n 2, 1) := by decide +kernel
theorem dXT_findSplits_19 : decode cXT_findSplits 19 = .ok (.iload_n 2, 1) := by decide +kernel
theorem dXT_findSplits_20 : decode cXT_findSplits 20 = .ok (.iload_n 1, 1) := by decide +kernel
theorem dXT_findSplits_21 : decode cXT_findSplits 21 = .ok (.if_icmp .gt 53, 3) := by decide +kernel
theorem dXT_findSplits_24 : decode cXT_findSplits 24 = .ok (.iload_n 2, 1) := by decide +kernel
theorem dXT_findSplits_25 : decode cXT_findSplits 25 = .ok (.iload_n 1, 1) := by decide +kernel
theorem dXT_findSplits_26 : decode cXT_findSplits 26 = .ok (.iconst (-1), 1) := by decide +kernel
theorem dXT_findSplits_27 : decode cXT_findSplits 27 = .ok (.ixor, 1) := by decide +kernel
theorem dXT_findSplits_28 : decode cXT_findSplits 28 = .ok (.iand, 1) := by decide +kernel
theorem dXT_findSplits_29 : decode cXT_findSplits 29 = .ok (.ifCond .ne 39, 3) := by decide +kernel
theorem dXT_findSplits_32 : decode cXT_findSplits 32 = .ok (.aload_n 0, 1) := by decide +kernel
theorem dXT_findSplits_33 : decode cXT_findSplits 33 = .ok (.iload_n 2, 1) := by decide +kernel
theorem dXT_findSplits_34 : decode cXT_findSplits 34 = .ok (.aload_n 0, 1) := by decide +kernel
theorem dXT_findSplits_35 : decode cXT_findSplits 35 = .ok (.getfield 34, 3) := by decide +kernel
theorem dXT_findSplits_38 : decode cXT_findSplits 38 = .ok (.iload_n 2, 1) := by decide +kernel
theorem dXT_findSplits_39 : decode cXT_findSplits 39 = .ok (.iconst (-1), 1) := by decide +kernel
theorem dXT_findSplits_40 : decode cXT_findSplits 40 = .ok (.ixor, 1) := by decide +kernel
theorem dXT_findSplits_41 : decode cXT_findSplits 41 = .ok (.iand, 1) := by decide +kernel
theorem dXT_findSplits_42 : decode cXT_findSplits 42 = .ok (.invokevirtual 78, 3) := by decide +kernel
theorem dXT_findSplits_45 : decode cXT_findSplits 45 = .ok (.ifCond .eq 23, 3) := by decide +kernel
theorem dXT_findSplits_48 : decode cXT_findSplits 48 = .ok (.aload_n 0, 1) := by decide +kernel
theorem dXT_findSplits_49 : decode cXT_findSplits 49 = .ok (.getfield 21, 3) := by decide +kernel
theorem dXT_findSplits_52 : decode cXT_findSplits 52 = .ok (.aload_n 0, 1) := by decide +kernel
theorem dXT_findSplits_53 : decode cXT_findSplits 53 = .ok (.getfield 44, 3) := by decide +kernel
theorem dXT_findSplits_56 : decode cXT_findSplits 56 = .ok (.iload_n 2, 1) := by decide +kernel
theorem dXT_findSplits_57 : decode cXT_findSplits 57 = .ok (.iastore, 1) := by decide +kernel
theorem dXT_findSplits_58 : decode cXT_findSplits 58 = .ok (.aload_n 0, 1) := by decide +kernel
theorem dXT_findSplits_59 : decode cXT_findSplits 59 = .ok (.dup, 1) := by decide +kernel
theorem dXT_findSplits_60 : decode cXT_findSplits 60 = .ok (.getfield 44, 3) := by decide +kernel
theorem dXT_findSplits_63 : decode cXT_findSplits 63 = .ok (.iconst 1, 1) := by decide +kernel
theorem dXT_findSplits_64 : decode cXT_findSplits 64 = .ok (.iadd, 1) := by decide +kernel
theorem dXT_findSplits_65 : decode cXT_findSplits 65 = .ok (.putfield 44, 3) := by decide +kernel
theorem dXT_findSplits_68 : decode cXT_findSplits 68 = .ok (.iinc 2 1, 3) := by decide +kernel
theorem dXT_findSplits_71 : decode cXT_findSplits 71 = .ok (.goto (-52), 3) := by decide +kernel
theorem dXT_findSplits_74 : decode cXT_findSplits 74 = .ok (.return_, 1) := by decide +kernel
theorem dXT_isSplit_0 : decode cXT_isSplit 0 = .ok (.iload_n 1, 1) := by decide +kernel
theorem dXT_isSplit_1 : decode cXT_isSplit 1 = .ok (.invokestatic 81, 3) := by decide +kernel
theorem dXT_isSplit_4 : decode cXT_isSplit 4 = .ok (.iconst 2, 1) := by decide +kernel
theorem dXT_isSplit_5 : decode cXT_isSplit 5 = .ok (.if_icmp .lt 11, 3) := by decide +kernel
theorem dXT_isSplit_8 : decode cXT_isSplit 8 = .ok (.iload_n 2, 1) := by decide +kernel
theorem dXT_isSplit_9 : decode cXT_isSplit 9 = .ok (.invokestatic 81, 3) := by decide +kernel
theorem dXT_isSplit_12 : decode cXT_isSplit 12 = .ok (.iconst 2, 1) := by decide +kernel
theorem dXT_isSplit_13 : decode cXT_isSplit 13 = .ok (.if_icmp .ge 5, 3) := by decide +kernel
theorem dXT_isSplit_16 : decode cXT_isSplit 16 = .ok (.iconst 0, 1) := by decide +kernel
theorem dXT_isSplit_17 : decode cXT_isSplit 17 = .ok (.ireturn, 1) := by decide +kernel
theorem dXT_isSplit_18 : decode cXT_isSplit 18 = .ok (.iconst 0, 1) := by decide +kernel
theorem dXT_isSplit_19 : decode cXT_isSplit 19 = .ok (.istore_n 3, 1) := by decide +kernel
theorem dXT_isSplit_20 : decode cXT_isSplit 20 = .ok (.iconst 0, 1) := by decide +kernel
theorem dXT_isSplit_21 : decode cXT_isSplit 21 = .ok (.istore 4, 2) := by decide +kernel
theorem dXT_isSplit_23 : decode cXT_isSplit 23 = .ok (.iload 4, 2) := by decide +kernel
theorem dXT_isSplit_25 : decode cXT_isSplit 25 = .ok (.aload_n 0, 1) := by decide +kernel
theorem dXT_isSplit_26 : decode cXT_isSplit 26 = .ok (.getfield 9, 3) := by decide +kernel
theorem dXT_isSplit_29 : decode cXT_isSplit 29 = .ok (.invokevirtual 15, 3) := by decide +kernel
theorem dXT_isSplit_32 : decode cXT_isSplit 32 = .ok (.if_icmp .ge 56, 3) := by decide +kernel
theorem dXT_isSplit_35 : decode cXT_isSplit 35 = .ok (.iload_n 1, 1) := by decide +kernel
theorem dXT_isSplit_36 : decode cXT_isSplit 36 = .ok (.iload 4, 2) := by decide +kernel
theorem dXT_isSplit_38 : decode cXT_isSplit 38 = .ok (.invokestatic 86, 3) := by decide +kernel
theorem dXT_isSplit_41 : decode cXT_isSplit 41 = .ok (.ifCond .eq 16, 3) := by decide +kernel
theorem dXT_isSplit_44 : decode cXT_isSplit 44 = .ok (.aload_n 0, 1) := by decide +kernel
theorem dXT_isSplit_45 : decode cXT_isSplit 45 = .ok (.getfield 9, 3) := by decide +kernel
theorem dXT_isSplit_48 : decode cXT_isSplit 48 = .ok (.iload 4, 2) := by decide +kernel
theorem dXT_isSplit_50 : decode cXT_isSplit 50 = .ok (.iload_n 2, 1) := by decide +kernel
theorem dXT_isSplit_51 : decode cXT_isSplit 51 = .ok (.invokevirtual 89, 3) := by decide +kernel
theorem dXT_isSplit_54 : decode cXT_isSplit 54 = .ok (.goto 4, 3) := by decide +kernel
theorem dXT_isSplit_57 : decode cXT_isSplit 57 = .ok (.iconst 0, 1) := by decide +kernel
theorem dXT_isSplit_58 : decode cXT_isSplit 58 = .ok (.istore 5, 2) := by decide +kernel
theorem dXT_isSplit_60 : decode cXT_isSplit 60 = .ok (.iload 5, 2) := by decide +kernel
theorem dXT_isSplit_62 : decode cXT_isSplit 62 = .ok (.ifCond .eq 15, 3) := by decide +kernel
theorem dXT_isSplit_65 : decode cXT_isSplit 65 = .ok (.iload_n 3, 1) := by decide +kernel
theorem dXT_isSplit_66 : decode cXT_isSplit 66 = .ok (.ifCond .eq 11, 3) := by decide +kernel
theorem dXT_isSplit_69 : decode cXT_isSplit 69 = .ok (.iload 5, 2) := by decide +kernel
theorem dXT_isSplit_71 : decode cXT_isSplit 71 = .ok (.iload_n 3, 1) := by decide +kernel
theorem dXT_isSplit_72 : decode cXT_isSplit 72 = .ok (.if_icmp .eq 5, 3) := by decide +kernel
theorem dXT_isSplit_75 : decode cXT_isSplit 75 = .ok (.iconst 0, 1) := by decide +kernel
theorem dXT_isSplit_76 : decode cXT_isSplit 76 = .ok (.ireturn, 1) := by decide +kernel
theorem dXT_isSplit_77 : decode cXT_isSplit 77 = .ok (.iload_n 3, 1) := by decide +kernel
theorem dXT_isSplit_78 : decode cXT_isSplit 78 = .ok (.iload 5, 2) := by decide +kernel
theorem dXT_isSplit_80 : decode cXT_isSplit 80 = .ok (.ior, 1) := by decide +kernel
theorem dXT_isSplit_81 : decode cXT_isSplit 81 = .ok (.istore_n 3, 1) := by decide +kernel
theorem dXT_isSplit_82 : decode cXT_isSplit 82 = .ok (.iinc 4 1, 3) := by decide +kernel
theorem dXT_isSplit_85 : decode cXT_isSplit 85 = .ok (.goto (-62), 3) := by decide +kernel
theorem dXT_isSplit_88 : decode cXT_isSplit 88 = .ok (.iconst 1, 1) := by decide +kernel
theorem dXT_isSplit_89 : decode cXT_isSplit 89 = .ok (.ireturn, 1) := by decide +kernel
theorem dXT_findNodes_0 : decode cXT_findNodes 0 = .ok (.aload_n 0, 1) := by decide +kernel
theorem dXT_findNodes_1 : decode cXT_findNodes 1 = .ok (.getfield 25, 3) := by decide +kernel
theorem dXT_findNodes_4 : decode cXT_findNodes 4 = .ok (.iconst 0, 1) := by decide +kernel
theorem dXT_findNodes_5 : decode cXT_findNodes 5 = .ok (.aload_n 0, 1) := by decide +kernel
theorem dXT_findNodes_6 : decode cXT_findNodes 6 = .ok (.getfield 34, 3) := by decide +kernel
theorem dXT_findNodes_9 : decode cXT_findNodes 9 = .ok (.iastore, 1) := by decide +kernel
theorem dXT_findNodes_10 : decode cXT_findNodes 10 = .ok (.aload_n 0, 1) := by decide +kernel
theorem dXT_findNodes_11 : decode cXT_findNodes 11 = .ok (.iconst 1, 1) := by decide +kernel
theorem dXT_findNodes_12 : decode cXT_findNodes 12 = .ok (.putfield 47, 3) := by decide +kernel
theorem dXT_findNodes_15 : decode cXT_findNodes 15 = .ok (.iconst 0, 1) := by decide +kernel
theorem dXT_findNodes_16 : decode cXT_findNodes 16 = .ok (.istore_n 1, 1) := by decide +kernel
theorem dXT_findNodes_17 : decode cXT_findNodes 17 = .ok (.iload_n 1, 1) := by decide +kernel
theorem dXT_findNodes_18 : decode cXT_findNodes 18 = .ok (.aload_n 0, 1) := by decide +kernel
theorem dXT_findNodes_19 : decode cXT_findNodes 19 = .ok (.getfield 44, 3) := by decide +kernel
theorem dXT_findNodes_22 : decode cXT_findNodes 22 = .ok (.if_icmp .ge 47, 3) := by decide +kernel
theorem dXT_findNodes_25 : decode cXT_findNodes 25 = .ok (.aload_n 0, 1) := by decide +kernel
theorem dXT_findNodes_26 : decode cXT_findNodes 26 = .ok (.aload_n 0, 1) := by decide +kernel
theorem dXT_findNodes_27 : decode cXT_findNodes 27 = .ok (.getfield 21, 3) := by decide +kernel
theorem dXT_findNodes_30 : decode cXT_findNodes 30 = .ok (.iload_n 1, 1) := by decide +kernel
theorem dXT_findNodes_31 : decode cXT_findNodes 31 = .ok (.iaload, 1) := by decide +kernel
theorem dXT_findNodes_32 : decode cXT_findNodes 32 = .ok (.invokevirtual 92, 3) := by decide +kernel
theorem dXT_findNodes_35 : decode cXT_findNodes 35 = .ok (.ifCond .eq 28, 3) := by decide +kernel
theorem dXT_findNodes_38 : decode cXT_findNodes 38 = .ok (.aload_n 0, 1) := by decide +kernel
theorem dXT_findNodes_39 : decode cXT_findNodes 39 = .ok (.getfield 25, 3) := by decide +kernel
theorem dXT_findNodes_42 : decode cXT_findNodes 42 = .ok (.aload_n 0, 1) := by decide +kernel
theorem dXT_findNodes_43 : decode cXT_findNodes 43 = .ok (.getfield 47, 3) := by decide +kernel
theorem dXT_findNodes_46 : decode cXT_findNodes 46 = .ok (.aload_n 0, 1) := by decide +kernel
theorem dXT_findNodes_47 : decode cXT_findNodes 47 = .ok (.getfield 21, 3) := by decide +kernel
theorem dXT_findNodes_50 : decode cXT_findNodes 50 = .ok (.iload_n 1, 1) := by decide +kernel
theorem dXT_findNodes_51 : decode cXT_findNodes 51 = .ok (.iaload, 1) := by decide +kernel
theorem dXT_findNodes_52 : decode cXT_findNodes 52 = .ok (.iastore, 1) := by decide +kernel
theorem dXT_findNodes_53 : decode cXT_findNodes 53 = .ok (.aload_n 0, 1) := by decide +kernel
theorem dXT_findNodes_54 : decode cXT_findNodes 54 = .ok (.dup, 1) := by decide +kernel
theorem dXT_findNodes_55 : decode cXT_findNodes 55 = .ok (.getfield 47, 3) := by decide +kernel
theorem dXT_findNodes_58 : decode cXT_findNodes 58 = .ok (.iconst 1, 1) := by decide +kernel
theorem dXT_findNodes_59 : decode cXT_findNodes 59 = .ok (.iadd, 1) := by decide +kernel
theorem dXT_findNodes_60 : decode cXT_findNodes 60 = .ok (.putfield 47, 3) := by decide +kernel
theorem dXT_findNodes_63 : decode cXT_findNodes 63 = .ok (.iinc 1 1, 3) := by decide +kernel
theorem dXT_findNodes_66 : decode cXT_findNodes 66 = .ok (.goto (-49), 3) := by decide +kernel
theorem dXT_findNodes_69 : decode cXT_findNodes 69 = .ok (.return_, 1) := by decide +kernel
theorem dXT_isStrong_0 : decode cXT_isStrong 0 = .ok (.iconst 0, 1) := by decide +kernel
theorem dXT_isStrong_1 : decode cXT_isStrong 1 = .ok (.istore_n 2, 1) := by decide +kernel
theorem dXT_isStrong_2 : decode cXT_isStrong 2 = .ok (.iload_n 2, 1) := by decide +kernel
theorem dXT_isStrong_3 : decode cXT_isStrong 3 = .ok (.aload_n 0, 1) := by decide +kernel
theorem dXT_isStrong_4 : decode cXT_isStrong 4 = .ok (.getfield 44, 3) := by decide +kernel
theorem dXT_isStrong_7 : decode cXT_isStrong 7 = .ok (.if_icmp .ge 40, 3) := by decide +kernel
theorem dXT_isStrong_10 : decode cXT_isStrong 10 = .ok (.aload_n 0, 1) := by decide +kernel
theorem dXT_isStrong_11 : decode cXT_isStrong 11 = .ok (.getfield 21, 3) := by decide +kernel
theorem dXT_isStrong_14 : decode cXT_isStrong 14 = .ok (.iload_n 2, 1) := by decide +kernel
theorem dXT_isStrong_15 : decode cXT_isStrong 15 = .ok (.iaload, 1) := by decide +kernel
theorem dXT_isStrong_16 : decode cXT_isStrong 16 = .ok (.istore_n 3, 1) := by decide +kernel
theorem dXT_isStrong_17 : decode cXT_isStrong 17 = .ok (.iload_n 1, 1) := by decide +kernel
theorem dXT_isStrong_18 : decode cXT_isStrong 18 = .ok (.iload_n 3, 1) := by decide +kernel
theorem dXT_isStrong_19 : decode cXT_isStrong 19 = .ok (.iand, 1) := by decide +kernel
theorem dXT_isStrong_20 : decode cXT_isStrong 20 = .ok (.ifCond .eq 21, 3) := by decide +kernel
theorem dXT_isStrong_23 : decode cXT_isStrong 23 = .ok (.iload_n 1, 1) := by decide +kernel
theorem dXT_isStrong_24 : decode cXT_isStrong 24 = .ok (.iload_n 3, 1) := by decide +kernel
theorem dXT_isStrong_25 : decode cXT_isStrong 25 = .ok (.iconst (-1), 1) := by decide +kernel
theorem dXT_isStrong_26 : decode cXT_isStrong 26 = .ok (.ixor, 1) := by decide +kernel
theorem dXT_isStrong_27 : decode cXT_isStrong 27 = .ok (.iand, 1) := by decide +kernel
theorem dXT_isStrong_28 : decode cXT_isStrong 28 = .ok (.ifCond .eq 13, 3) := by decide +kernel
theorem dXT_isStrong_31 : decode cXT_isStrong 31 = .ok (.iload_n 3, 1) := by decide +kernel
theorem dXT_isStrong_32 : decode cXT_isStrong 32 = .ok (.iload_n 1, 1) := by decide +kernel
theorem dXT_isStrong_33 : decode cXT_isStrong 33 = .ok (.iconst (-1), 1) := by decide +kernel
theorem dXT_isStrong_34 : decode cXT_isStrong 34 = .ok (.ixor, 1) := by decide +kernel
theorem dXT_isStrong_35 : decode cXT_isStrong 35 = .ok (.iand, 1) := by decide +kernel
theorem dXT_isStrong_36 : decode cXT_isStrong 36 = .ok (.ifCond .eq 5, 3) := by decide +kernel
theorem dXT_isStrong_39 : decode cXT_isStrong 39 = .ok (.iconst 0, 1) := by decide +kernel
theorem dXT_isStrong_40 : decode cXT_isStrong 40 = .ok (.ireturn, 1) := by decide +kernel
theorem dXT_isStrong_41 : decode cXT_isStrong 41 = .ok (.iinc 2 1, 3) := by decide +kernel
theorem dXT_isStrong_44 : decode cXT_isStrong 44 = .ok (.goto (-42), 3) := by decide +kernel
theorem dXT_isStrong_47 : decode cXT_isStrong 47 = .ok (.iconst 1, 1) := by decide +kernel
theorem dXT_isStrong_48 : decode cXT_isStrong 48 = .ok (.ireturn, 1) := by decide +kernel
theorem dXT_splitCount_0 : decode cXT_splitCount 0 = .ok (.aload_n 0, 1) := by decide +kernel
theorem dXT_splitCount_1 : decode cXT_splitCount 1 = .ok (.getfield 44, 3) := by decide +kernel
theorem dXT_splitCount_4 : decode cXT_splitCount 4 = .ok (.ireturn, 1) := by decide +kernel
theorem dXT_nodeCount_0 : decode cXT_nodeCount 0 = .ok (.aload_n 0, 1) := by decide +kernel
theorem dXT_nodeCount_1 : decode cXT_nodeCount 1 = .ok (.getfield 47, 3) := by decide +kernel
theorem dXT_nodeCount_4 : decode cXT_nodeCount 4 = .ok (.ireturn, 1) := by decide +kernel
theorem dXT_nodeSet_0 : decode cXT_nodeSet 0 = .ok (.aload_n 0, 1) := by decide +kernel
theorem dXT_nodeSet_1 : decode cXT_nodeSet 1 = .ok (.getfield 25, 3) := by decide +kernel
theorem dXT_nodeSet_4 : decode cXT_nodeSet 4 = .ok (.iload_n 1, 1) := by decide +kernel
theorem dXT_nodeSet_5 : decode cXT_nodeSet 5 = .ok (.iaload, 1) := by decide +kernel
theorem dXT_nodeSet_6 : decode cXT_nodeSet 6 = .ok (.ireturn, 1) := by decide +kernel
theorem dXT_nodeKind_0 : decode cXT_nodeKind 0 = .ok (.aload_n 0, 1) := by decide +kernel
theorem dXT_nodeKind_1 : decode cXT_nodeKind 1 = .ok (.iload_n 1, 1) := by decide +kernel
theorem dXT_nodeKind_2 : decode cXT_nodeKind 2 = .ok (.invokevirtual 57, 3) := by decide +kernel
theorem dXT_nodeKind_5 : decode cXT_nodeKind 5 = .ok (.aload_n 0, 1) := by decide +kernel
theorem dXT_nodeKind_6 : decode cXT_nodeKind 6 = .ok (.getfield 60, 3) := by decide +kernel
theorem dXT_nodeKind_9 : decode cXT_nodeKind 9 = .ok (.aload_n 0, 1) := by decide +kernel
theorem dXT_nodeKind_10 : decode cXT_nodeKind 10 = .ok (.getfield 54, 3) := by decide +kernel
theorem dXT_nodeKind_13 : decode cXT_nodeKind 13 = .ok (.aload_n 0, 1) := by decide +kernel
theorem dXT_nodeKind_14 : decode cXT_nodeKind 14 = .ok (.getfield 54, 3) := by decide +kernel
theorem dXT_nodeKind_17 : decode cXT_nodeKind 17 = .ok (.iconst 1, 1) := by decide +kernel
theorem dXT_nodeKind_18 : decode cXT_nodeKind 18 = .ok (.isub, 1) := by decide +kernel
theorem dXT_nodeKind_19 : decode cXT_nodeKind 19 = .ok (.imul, 1) := by decide +kernel
theorem dXT_nodeKind_20 : decode cXT_nodeKind 20 = .ok (.iconst 2, 1) := by decide +kernel
theorem dXT_nodeKind_21 : decode cXT_nodeKind 21 = .ok (.idiv, 1) := by decide +kernel
theorem dXT_nodeKind_22 : decode cXT_nodeKind 22 = .ok (.if_icmp .ne 5, 3) := by decide +kernel
theorem dXT_nodeKind_25 : decode cXT_nodeKind 25 = .ok (.iconst 1, 1) := by decide +kernel
theorem dXT_nodeKind_26 : decode cXT_nodeKind 26 = .ok (.ireturn, 1) := by decide +kernel
theorem dXT_nodeKind_27 : decode cXT_nodeKind 27 = .ok (.aload_n 0, 1) := by decide +kernel
theorem dXT_nodeKind_28 : decode cXT_nodeKind 28 = .ok (.invokevirtual 63, 3) := by decide +kernel
theorem dXT_nodeKind_31 : decode cXT_nodeKind 31 = .ok (.iconst (-1), 1) := by decide +kernel
theorem dXT_nodeKind_32 : decode cXT_nodeKind 32 = .ok (.if_icmp .ne 7, 3) := by decide +kernel
theorem dXT_nodeKind_35 : decode cXT_nodeKind 35 = .ok (.iconst 3, 1) := by decide +kernel
theorem dXT_nodeKind_36 : decode cXT_nodeKind 36 = .ok (.goto 4, 3) := by decide +kernel
theorem dXT_nodeKind_39 : decode cXT_nodeKind 39 = .ok (.iconst 2, 1) := by decide +kernel
theorem dXT_nodeKind_40 : decode cXT_nodeKind 40 = .ok (.ireturn, 1) := by decide +kernel
theorem dXT_findJoins_0 : decode cXT_findJoins 0 = .ok (.aload_n 0, 1) := by decide +kernel
theorem dXT_findJoins_1 : decode cXT_findJoins 1 = .ok (.iload_n 1, 1) := by decide +kernel
theorem dXT_findJoins_2 : decode cXT_findJoins 2 = .ok (.invokevirtual 50, 3) := by decide +kernel
theorem dXT_findJoins_5 : decode cXT_findJoins 5 = .ok (.aload_n 0, 1) := by decide +kernel
theorem dXT_findJoins_6 : decode cXT_findJoins 6 = .ok (.iconst 0, 1) := by decide +kernel
theorem dXT_findJoins_7 : decode cXT_findJoins 7 = .ok (.putfield 60, 3) := by decide +kernel
theorem dXT_findJoins_10 : decode cXT_findJoins 10 = .ok (.iconst 0, 1) := by decide +kernel
theorem dXT_findJoins_11 : decode cXT_findJoins 11 = .ok (.istore_n 2, 1) := by decide +kernel
theorem dXT_findJoins_12 : decode cXT_findJoins 12 = .ok (.iload_n 2, 1) := by decide +kernel
theorem dXT_findJoins_13 : decode cXT_findJoins 13 = .ok (.aload_n 0, 1) := by decide +kernel
theorem dXT_findJoins_14 : decode cXT_findJoins 14 = .ok (.getfield 54, 3) := by decide +kernel
theorem dXT_findJoins_17 : decode cXT_findJoins 17 = .ok (.if_icmp .ge 81, 3) := by decide +kernel
theorem dXT_findJoins_20 : decode cXT_findJoins 20 = .ok (.aload_n 0, 1) := by decide +kernel
theorem dXT_findJoins_21 : decode cXT_findJoins 21 = .ok (.getfield 31, 3) := by decide +kernel
theorem dXT_findJoins_24 : decode cXT_findJoins 24 = .ok (.iload_n 2, 1) := by decide +kernel
theorem dXT_findJoins_25 : decode cXT_findJoins 25 = .ok (.iconst 0, 1) := by decide +kernel
theorem dXT_findJoins_26 : decode cXT_findJoins 26 = .ok (.iastore, 1) := by decide +kernel
theorem dXT_findJoins_27 : decode cXT_findJoins 27 = .ok (.iconst 0, 1) := by decide +kernel
theorem dXT_findJoins_28 : decode cXT_findJoins 28 = .ok (.istore_n 3, 1) := by decide +kernel
theorem dXT_findJoins_29 : decode cXT_findJoins 29 = .ok (.iload_n 3, 1) := by decide +kernel
theorem dXT_findJoins_30 : decode cXT_findJoins 30 = .ok (.iload_n 2, 1) := by decide +kernel
theorem dXT_findJoins_31 : decode cXT_findJoins 31 = .ok (.if_icmp .ge 61, 3) := by decide +kernel
theorem dXT_findJoins_34 : decode cXT_findJoins 34 = .ok (.aload_n 0, 1) := by decide +kernel
theorem dXT_findJoins_35 : decode cXT_findJoins 35 = .ok (.getfield 9, 3) := by decide +kernel
theorem dXT_findJoins_38 : decode cXT_findJoins 38 = .ok (.aload_n 0, 1) := by decide +kernel
theorem dXT_findJoins_39 : decode cXT_findJoins 39 = .ok (.getfield 28, 3) := by decide +kernel
theorem dXT_findJoins_42 : decode cXT_findJoins 42 = .ok (.iload_n 2, 1) := by decide +kernel
theorem dXT_findJoins_43 : decode cXT_findJoins 43 = .ok (.iaload, 1) := by decide +kernel
theorem dXT_findJoins_44 : decode cXT_findJoins 44 = .ok (.aload_n 0, 1) := by decide +kernel
theorem dXT_findJoins_45 : decode cXT_findJoins 45 = .ok (.getfield 28, 3) := by decide +kernel
theorem dXT_findJoins_48 : decode cXT_findJoins 48 = .ok (.iload_n 3, 1) := by decide +kernel
theorem dXT_findJoins_49 : decode cXT_findJoins 49 = .ok (.iaload, 1) := by decide +kernel
theorem dXT_findJoins_50 : decode cXT_findJoins 50 = .ok (.invokevirtual 74, 3) := by decide +kernel
theorem dXT_findJoins_53 : decode cXT_findJoins 53 = .ok (.ifCond .eq 33, 3) := by decide +kernel
theorem dXT_findJoins_56 : decode cXT_findJoins 56 = .ok (.aload_n 0, 1) := by decide +kernel
theorem dXT_findJoins_57 : decode cXT_findJoins 57 = .ok (.getfield 31, 3) := by decide +kernel
theorem dXT_findJoins_60 : decode cXT_findJoins 60 = .ok (.iload_n 2, 1) := by decide +kernel
theorem dXT_findJoins_61 : decode cXT_findJoins 61 = .ok (.dup2, 1) := by decide +kernel
theorem dXT_findJoins_62 : decode cXT_findJoins 62 = .ok (.iaload, 1) := by decide +kernel
theorem dXT_findJoins_63 : decode cXT_findJoins 63 = .ok (.iconst 1, 1) := by decide +kernel
theorem dXT_findJoins_64 : decode cXT_findJoins 64 = .ok (.iadd, 1) := by decide +kernel
theorem dXT_findJoins_65 : decode cXT_findJoins 65 = .ok (.iastore, 1) := by decide +kernel
theorem dXT_findJoins_66 : decode cXT_findJoins 66 = .ok (.aload_n 0, 1) := by decide +kernel
theorem dXT_findJoins_67 : decode cXT_findJoins 67 = .ok (.getfield 31, 3) := by decide +kernel
theorem dXT_findJoins_70 : decode cXT_findJoins 70 = .ok (.iload_n 3, 1) := by decide +kernel
theorem dXT_findJoins_71 : decode cXT_findJoins 71 = .ok (.dup2, 1) := by decide +kernel
theorem dXT_findJoins_72 : decode cXT_findJoins 72 = .ok (.iaload, 1) := by decide +kernel
theorem dXT_findJoins_73 : decode cXT_findJoins 73 = .ok (.iconst 1, 1) := by decide +kernel
theorem dXT_findJoins_74 : decode cXT_findJoins 74 = .ok (.iadd, 1) := by decide +kernel
theorem dXT_findJoins_75 : decode cXT_findJoins 75 = .ok (.iastore, 1) := by decide +kernel
theorem dXT_findJoins_76 : decode cXT_findJoins 76 = .ok (.aload_n 0, 1) := by decide +kernel
theorem dXT_findJoins_77 : decode cXT_findJoins 77 = .ok (.dup, 1) := by decide +kernel
theorem dXT_findJoins_78 : decode cXT_findJoins 78 = .ok (.getfield 60, 3) := by decide +kernel
theorem dXT_findJoins_81 : decode cXT_findJoins 81 = .ok (.iconst 1, 1) := by decide +kernel
theorem dXT_findJoins_82 : decode cXT_findJoins 82 = .ok (.iadd, 1) := by decide +kernel
theorem dXT_findJoins_83 : decode cXT_findJoins 83 = .ok (.putfield 60, 3) := by decide +kernel
theorem dXT_findJoins_86 : decode cXT_findJoins 86 = .ok (.iinc 3 1, 3) := by decide +kernel
theorem dXT_findJoins_89 : decode cXT_findJoins 89 = .ok (.goto (-60), 3) := by decide +kernel
theorem dXT_findJoins_92 : decode cXT_findJoins 92 = .ok (.iinc 2 1, 3) := by decide +kernel
theorem dXT_findJoins_95 : decode cXT_findJoins 95 = .ok (.goto (-83), 3) := by decide +kernel
theorem dXT_findJoins_98 : decode cXT_findJoins 98 = .ok (.return_, 1) := by decide +kernel
theorem dXT_findParts_0 : decode cXT_findParts 0 = .ok (.aload_n 0, 1) := by decide +kernel
theorem dXT_findParts_1 : decode cXT_findParts 1 = .ok (.getfield 34, 3) := by decide +kernel
theorem dXT_findParts_4 : decode cXT_findParts 4 = .ok (.istore_n 2, 1) := by decide +kernel
theorem dXT_findParts_5 : decode cXT_findParts 5 = .ok (.aload_n 0, 1) := by decide +kernel
theorem dXT_findParts_6 : decode cXT_findParts 6 = .ok (.iconst 0, 1) := by decide +kernel
theorem dXT_findParts_7 : decode cXT_findParts 7 = .ok (.putfield 54, 3) := by decide +kernel
theorem dXT_findParts_10 : decode cXT_findParts 10 = .ok (.iconst 0, 1) := by decide +kernel
theorem dXT_findParts_11 : decode cXT_findParts 11 = .ok (.istore_n 3, 1) := by decide +kernel
theorem dXT_findParts_12 : decode cXT_findParts 12 = .ok (.iload_n 3, 1) := by decide +kernel
theorem dXT_findParts_13 : decode cXT_findParts 13 = .ok (.aload_n 0, 1) := by decide +kernel
theorem dXT_findParts_14 : decode cXT_findParts 14 = .ok (.getfield 9, 3) := by decide +kernel
theorem dXT_findParts_17 : decode cXT_findParts 17 = .ok (.invokevirtual 15, 3) := by decide +kernel
theorem dXT_findParts_20 : decode cXT_findParts 20 = .ok (.if_icmp .ge 38, 3) := by decide +kernel
theorem dXT_findParts_23 : decode cXT_findParts 23 = .ok (.iload_n 2, 1) := by decide +kernel
theorem dXT_findParts_24 : decode cXT_findParts 24 = .ok (.iload_n 3, 1) := by decide +kernel
theorem dXT_findParts_25 : decode cXT_findParts 25 = .ok (.invokestatic 86, 3) := by decide +kernel
theorem dXT_findParts_28 : decode cXT_findParts 28 = .ok (.ifCond .eq 24, 3) := by decide +kernel
theorem dXT_findParts_31 : decode cXT_findParts 31 = .ok (.aload_n 0, 1) := by decide +kernel
theorem dXT_findParts_32 : decode cXT_findParts 32 = .ok (.iload_n 1, 1) := by decide +kernel
theorem dXT_findParts_33 : decode cXT_findParts 33 = .ok (.iload_n 3, 1) := by decide +kernel
theorem dXT_findParts_34 : decode cXT_findParts 34 = .ok (.invokevirtual 70, 3) := by decide +kernel
theorem dXT_findParts_37 : decode cXT_findParts 37 = .ok (.istore 4, 2) := by decide +kernel
theorem dXT_findParts_39 : decode cXT_findParts 39 = .ok (.iload_n 2, 1) := by decide +kernel
theorem dXT_findParts_40 : decode cXT_findParts 40 = .ok (.iload 4, 2) := by decide +kernel
theorem dXT_findParts_42 : decode cXT_findParts 42 = .ok (.iconst (-1), 1) := by decide +kernel
theorem dXT_findParts_43 : decode cXT_findParts 43 = .ok (.ixor, 1) := by decide +kernel
theorem dXT_findParts_44 : decode cXT_findParts 44 = .ok (.iand, 1) := by decide +kernel
theorem dXT_findParts_45 : decode cXT_findParts 45 = .ok (.istore_n 2, 1) := by decide +kernel
theorem dXT_findParts_46 : decode cXT_findParts 46 = .ok (.aload_n 0, 1) := by decide +kernel
theorem dXT_findParts_47 : decode cXT_findParts 47 = .ok (.iload 4, 2) := by decide +kernel
theorem dXT_findParts_49 : decode cXT_findParts 49 = .ok (.invokevirtual 96, 3) := by decide +kernel
theorem dXT_findParts_52 : decode cXT_findParts 52 = .ok (.iinc 3 1, 3) := by decide +kernel
theorem dXT_findParts_55 : decode cXT_findParts 55 = .ok (.goto (-43), 3) := by decide +kernel
theorem dXT_findParts_58 : decode cXT_findParts 58 = .ok (.return_, 1) := by decide +kernel
theorem dXT_partWith_0 : decode cXT_partWith 0 = .ok (.aload_n 0, 1) := by decide +kernel
theorem dXT_partWith_1 : decode cXT_partWith 1 = .ok (.getfield 25, 3) := by decide +kernel
theorem dXT_partWith_4 : decode cXT_partWith 4 = .ok (.iload_n 1, 1) := by decide +kernel
theorem dXT_partWith_5 : decode cXT_partWith 5 = .ok (.iaload, 1) := by decide +kernel
theorem dXT_partWith_6 : decode cXT_partWith 6 = .ok (.istore_n 3, 1) := by decide +kernel
theorem dXT_partWith_7 : decode cXT_partWith 7 = .ok (.iload_n 3, 1) := by decide +kernel
theorem dXT_partWith_8 : decode cXT_partWith 8 = .ok (.iload_n 2, 1) := by decide +kernel
theorem dXT_partWith_9 : decode cXT_partWith 9 = .ok (.invokestatic 86, 3) := by decide +kernel
theorem dXT_partWith_12 : decode cXT_partWith 12 = .ok (.ifCond .ne 12, 3) := by decide +kernel
theorem dXT_partWith_15 : decode cXT_partWith 15 = .ok (.aload_n 0, 1) := by decide +kernel
theorem dXT_partWith_16 : decode cXT_partWith 16 = .ok (.getfield 34, 3) := by decide +kernel
theorem dXT_partWith_19 : decode cXT_partWith 19 = .ok (.iload_n 3, 1) := by decide +kernel
theorem dXT_partWith_20 : decode cXT_partWith 20 = .ok (.iconst (-1), 1) := by decide +kernel
theorem dXT_partWith_21 : decode cXT_partWith 21 = .ok (.ixor, 1) := by decide +kernel
theorem dXT_partWith_22 : decode cXT_partWith 22 = .ok (.iand, 1) := by decide +kernel
theorem dXT_partWith_23 : decode cXT_partWith 23 = .ok (.ireturn, 1) := by decide +kernel
theorem dXT_partWith_24 : decode cXT_partWith 24 = .ok (.iconst 1, 1) := by decide +kernel
theorem dXT_partWith_25 : decode cXT_partWith 25 = .ok (.iload_n 2, 1) := by decide +kernel
theorem dXT_partWith_26 : decode cXT_partWith 26 = .ok (.ishl, 1) := by decide +kernel
theorem dXT_partWith_27 : decode cXT_partWith 27 = .ok (.istore 4, 2) := by decide +kernel
theorem dXT_partWith_29 : decode cXT_partWith 29 = .ok (.iconst 1, 1) := by decide +kernel
theorem dXT_partWith_30 : decode cXT_partWith 30 = .ok (.istore 5, 2) := by decide +kernel
theorem dXT_partWith_32 : decode cXT_partWith 32 = .ok (.iload 5, 2) := by decide +kernel
theorem dXT_partWith_34 : decode cXT_partWith 34 = .ok (.aload_n 0, 1) := by decide +kernel
theorem dXT_partWith_35 : decode cXT_partWith 35 = .ok (.getfield 47, 3) := by decide +kernel
theorem dXT_partWith_38 : decode cXT_partWith 38 = .ok (.if_icmp .ge 46, 3) := by decide +kernel
theorem dXT_partWith_41 : decode cXT_partWith 41 = .ok (.aload_n 0, 1) := by decide +kernel
theorem dXT_partWith_42 : decode cXT_partWith 42 = .ok (.getfield 25, 3) := by decide +kernel
theorem dXT_partWith_45 : decode cXT_partWith 45 = .ok (.iload 5, 2) := by decide +kernel
theorem dXT_partWith_47 : decode cXT_partWith 47 = .ok (.iaload, 1) := by decide +kernel
theorem dXT_partWith_48 : decode cXT_partWith 48 = .ok (.istore 6, 2) := by decide +kernel
theorem dXT_partWith_50 : decode cXT_partWith 50 = .ok (.iload 6, 2) := by decide +kernel
theorem dXT_partWith_52 : decode cXT_partWith 52 = .ok (.iload_n 2, 1) := by decide +kernel
theorem dXT_partWith_53 : decode cXT_partWith 53 = .ok (.invokestatic 86, 3) := by decide +kernel
theorem dXT_partWith_56 : decode cXT_partWith 56 = .ok (.ifCond .eq 22, 3) := by decide +kernel
theorem dXT_partWith_59 : decode cXT_partWith 59 = .ok (.iload 6, 2) := by decide +kernel
theorem dXT_partWith_61 : decode cXT_partWith 61 = .ok (.iload_n 3, 1) := by decide +kernel
theorem dXT_partWith_62 : decode cXT_partWith 62 = .ok (.if_icmp .eq 16, 3) := by decide +kernel
theorem dXT_partWith_65 : decode cXT_partWith 65 = .ok (.iload 6, 2) := by decide +kernel
theorem dXT_partWith_67 : decode cXT_partWith 67 = .ok (.iload_n 3, 1) := by decide +kernel
theorem dXT_partWith_68 : decode cXT_partWith 68 = .ok (.iconst (-1), 1) := by decide +kernel
theorem dXT_partWith_69 : decode cXT_partWith 69 = .ok (.ixor, 1) := by decide +kernel
theorem dXT_partWith_70 : decode cXT_partWith 70 = .ok (.iand, 1) := by decide +kernel
theorem dXT_partWith_71 : decode cXT_partWith 71 = .ok (.ifCond .ne 7, 3) := by decide +kernel
theorem dXT_partWith_74 : decode cXT_partWith 74 = .ok (.iload 6, 2) := by decide +kernel
theorem dXT_partWith_76 : decode cXT_partWith 76 = .ok (.istore 4, 2) := by decide +kernel
theorem dXT_partWith_78 : decode cXT_partWith 78 = .ok (.iinc 5 1, 3) := by decide +kernel
theorem dXT_partWith_81 : decode cXT_partWith 81 = .ok (.goto (-49), 3) := by decide +kernel
theorem dXT_partWith_84 : decode cXT_partWith 84 = .ok (.iload 4, 2) := by decide +kernel
theorem dXT_partWith_86 : decode cXT_partWith 86 = .ok (.ireturn, 1) := by decide +kernel
theorem dXT_addPart_0 : decode cXT_addPart 0 = .ok (.aload_n 0, 1) := by decide +kernel
end
section
theorem dXT_addPart_1 : decode cXT_addPart 1 = .ok (.getfield 54, 3) := by decide +kernel
theorem dXT_addPart_4 : decode cXT_addPart 4 = .ok (.istore_n 2, 1) := by decide +kernel
theorem dXT_addPart_5 : decode cXT_addPart 5 = .ok (.iload_n 2, 1) := by decide +kernel
theorem dXT_addPart_6 : decode cXT_addPart 6 = .ok (.ifCond .le 35, 3) := by decide +kernel
theorem dXT_addPart_9 : decode cXT_addPart 9 = .ok (.aload_n 0, 1) := by decide +kernel
theorem dXT_addPart_10 : decode cXT_addPart 10 = .ok (.getfield 28, 3) := by decide +kernel
theorem dXT_addPart_13 : decode cXT_addPart 13 = .ok (.iload_n 2, 1) := by decide +kernel
theorem dXT_addPart_14 : decode cXT_addPart 14 = .ok (.iconst 1, 1) := by decide +kernel
theorem dXT_addPart_15 : decode cXT_addPart 15 = .ok (.isub, 1) := by decide +kernel
theorem dXT_addPart_16 : decode cXT_addPart 16 = .ok (.iaload, 1) := by decide +kernel
theorem dXT_addPart_17 : decode cXT_addPart 17 = .ok (.iload_n 1, 1) := by decide +kernel
theorem dXT_addPart_18 : decode cXT_addPart 18 = .ok (.if_icmp .le 23, 3) := by decide +kernel
theorem dXT_addPart_21 : decode cXT_addPart 21 = .ok (.aload_n 0, 1) := by decide +kernel
theorem dXT_addPart_22 : decode cXT_addPart 22 = .ok (.getfield 28, 3) := by decide +kernel
theorem dXT_addPart_25 : decode cXT_addPart 25 = .ok (.iload_n 2, 1) := by decide +kernel
theorem dXT_addPart_26 : decode cXT_addPart 26 = .ok (.aload_n 0, 1) := by decide +kernel
theorem dXT_addPart_27 : decode cXT_addPart 27 = .ok (.getfield 28, 3) := by decide +kernel
theorem dXT_addPart_30 : decode cXT_addPart 30 = .ok (.iload_n 2, 1) := by decide +kernel
theorem dXT_addPart_31 : decode cXT_addPart 31 = .ok (.iconst 1, 1) := by decide +kernel
theorem dXT_addPart_32 : decode cXT_addPart 32 = .ok (.isub, 1) := by decide +kernel
theorem dXT_addPart_33 : decode cXT_addPart 33 = .ok (.iaload, 1) := by decide +kernel
theorem dXT_addPart_34 : decode cXT_addPart 34 = .ok (.iastore, 1) := by decide +kernel
theorem dXT_addPart_35 : decode cXT_addPart 35 = .ok (.iinc 2 (-1), 3) := by decide +kernel
theorem dXT_addPart_38 : decode cXT_addPart 38 = .ok (.goto (-33), 3) := by decide +kernel
theorem dXT_addPart_41 : decode cXT_addPart 41 = .ok (.aload_n 0, 1) := by decide +kernel
theorem dXT_addPart_42 : decode cXT_addPart 42 = .ok (.getfield 28, 3) := by decide +kernel
theorem dXT_addPart_45 : decode cXT_addPart 45 = .ok (.iload_n 2, 1) := by decide +kernel
theorem dXT_addPart_46 : decode cXT_addPart 46 = .ok (.iload_n 1, 1) := by decide +kernel
theorem dXT_addPart_47 : decode cXT_addPart 47 = .ok (.iastore, 1) := by decide +kernel
theorem dXT_addPart_48 : decode cXT_addPart 48 = .ok (.aload_n 0, 1) := by decide +kernel
theorem dXT_addPart_49 : decode cXT_addPart 49 = .ok (.dup, 1) := by decide +kernel
theorem dXT_addPart_50 : decode cXT_addPart 50 = .ok (.getfield 54, 3) := by decide +kernel
theorem dXT_addPart_53 : decode cXT_addPart 53 = .ok (.iconst 1, 1) := by decide +kernel
theorem dXT_addPart_54 : decode cXT_addPart 54 = .ok (.iadd, 1) := by decide +kernel
theorem dXT_addPart_55 : decode cXT_addPart 55 = .ok (.putfield 54, 3) := by decide +kernel
theorem dXT_addPart_58 : decode cXT_addPart 58 = .ok (.return_, 1) := by decide +kernel
theorem dXT_centreIndex_0 : decode cXT_centreIndex 0 = .ok (.iconst 0, 1) := by decide +kernel
theorem dXT_centreIndex_1 : decode cXT_centreIndex 1 = .ok (.istore_n 1, 1) := by decide +kernel
theorem dXT_centreIndex_2 : decode cXT_centreIndex 2 = .ok (.iload_n 1, 1) := by decide +kernel
theorem dXT_centreIndex_3 : decode cXT_centreIndex 3 = .ok (.aload_n 0, 1) := by decide +kernel
theorem dXT_centreIndex_4 : decode cXT_centreIndex 4 = .ok (.getfield 54, 3) := by decide +kernel
theorem dXT_centreIndex_7 : decode cXT_centreIndex 7 = .ok (.if_icmp .ge 39, 3) := by decide +kernel
theorem dXT_centreIndex_10 : decode cXT_centreIndex 10 = .ok (.aload_n 0, 1) := by decide +kernel
theorem dXT_centreIndex_11 : decode cXT_centreIndex 11 = .ok (.getfield 31, 3) := by decide +kernel
theorem dXT_centreIndex_14 : decode cXT_centreIndex 14 = .ok (.iload_n 1, 1) := by decide +kernel
theorem dXT_centreIndex_15 : decode cXT_centreIndex 15 = .ok (.iaload, 1) := by decide +kernel
theorem dXT_centreIndex_16 : decode cXT_centreIndex 16 = .ok (.aload_n 0, 1) := by decide +kernel
theorem dXT_centreIndex_17 : decode cXT_centreIndex 17 = .ok (.getfield 54, 3) := by decide +kernel
theorem dXT_centreIndex_20 : decode cXT_centreIndex 20 = .ok (.iconst 1, 1) := by decide +kernel
theorem dXT_centreIndex_21 : decode cXT_centreIndex 21 = .ok (.isub, 1) := by decide +kernel
theorem dXT_centreIndex_22 : decode cXT_centreIndex 22 = .ok (.if_icmp .ne 18, 3) := by decide +kernel
theorem dXT_centreIndex_25 : decode cXT_centreIndex 25 = .ok (.aload_n 0, 1) := by decide +kernel
theorem dXT_centreIndex_26 : decode cXT_centreIndex 26 = .ok (.getfield 60, 3) := by decide +kernel
theorem dXT_centreIndex_29 : decode cXT_centreIndex 29 = .ok (.aload_n 0, 1) := by decide +kernel
theorem dXT_centreIndex_30 : decode cXT_centreIndex 30 = .ok (.getfield 54, 3) := by decide +kernel
theorem dXT_centreIndex_33 : decode cXT_centreIndex 33 = .ok (.iconst 1, 1) := by decide +kernel
theorem dXT_centreIndex_34 : decode cXT_centreIndex 34 = .ok (.isub, 1) := by decide +kernel
theorem dXT_centreIndex_35 : decode cXT_centreIndex 35 = .ok (.if_icmp .ne 5, 3) := by decide +kernel
theorem dXT_centreIndex_38 : decode cXT_centreIndex 38 = .ok (.iload_n 1, 1) := by decide +kernel
theorem dXT_centreIndex_39 : decode cXT_centreIndex 39 = .ok (.ireturn, 1) := by decide +kernel
theorem dXT_centreIndex_40 : decode cXT_centreIndex 40 = .ok (.iinc 1 1, 3) := by decide +kernel
theorem dXT_centreIndex_43 : decode cXT_centreIndex 43 = .ok (.goto (-41), 3) := by decide +kernel
theorem dXT_centreIndex_46 : decode cXT_centreIndex 46 = .ok (.iconst (-1), 1) := by decide +kernel
theorem dXT_centreIndex_47 : decode cXT_centreIndex 47 = .ok (.ireturn, 1) := by decide +kernel
theorem dXT_partCount_0 : decode cXT_partCount 0 = .ok (.aload_n 0, 1) := by decide +kernel
theorem dXT_partCount_1 : decode cXT_partCount 1 = .ok (.iload_n 1, 1) := by decide +kernel
theorem dXT_partCount_2 : decode cXT_partCount 2 = .ok (.invokevirtual 50, 3) := by decide +kernel
theorem dXT_partCount_5 : decode cXT_partCount 5 = .ok (.aload_n 0, 1) := by decide +kernel
theorem dXT_partCount_6 : decode cXT_partCount 6 = .ok (.getfield 54, 3) := by decide +kernel
theorem dXT_partCount_9 : decode cXT_partCount 9 = .ok (.ireturn, 1) := by decide +kernel
theorem dXT_partSet_0 : decode cXT_partSet 0 = .ok (.aload_n 0, 1) := by decide +kernel
theorem dXT_partSet_1 : decode cXT_partSet 1 = .ok (.iload_n 1, 1) := by decide +kernel
theorem dXT_partSet_2 : decode cXT_partSet 2 = .ok (.invokevirtual 50, 3) := by decide +kernel
theorem dXT_partSet_5 : decode cXT_partSet 5 = .ok (.iload_n 2, 1) := by decide +kernel
theorem dXT_partSet_6 : decode cXT_partSet 6 = .ok (.ifCond .lt 20, 3) := by decide +kernel
theorem dXT_partSet_9 : decode cXT_partSet 9 = .ok (.iload_n 2, 1) := by decide +kernel
theorem dXT_partSet_10 : decode cXT_partSet 10 = .ok (.aload_n 0, 1) := by decide +kernel
theorem dXT_partSet_11 : decode cXT_partSet 11 = .ok (.getfield 54, 3) := by decide +kernel
theorem dXT_partSet_14 : decode cXT_partSet 14 = .ok (.if_icmp .ge 12, 3) := by decide +kernel
theorem dXT_partSet_17 : decode cXT_partSet 17 = .ok (.aload_n 0, 1) := by decide +kernel
theorem dXT_partSet_18 : decode cXT_partSet 18 = .ok (.getfield 28, 3) := by decide +kernel
theorem dXT_partSet_21 : decode cXT_partSet 21 = .ok (.iload_n 2, 1) := by decide +kernel
theorem dXT_partSet_22 : decode cXT_partSet 22 = .ok (.iaload, 1) := by decide +kernel
theorem dXT_partSet_23 : decode cXT_partSet 23 = .ok (.goto 4, 3) := by decide +kernel
theorem dXT_partSet_26 : decode cXT_partSet 26 = .ok (.iconst (-1), 1) := by decide +kernel
theorem dXT_partSet_27 : decode cXT_partSet 27 = .ok (.ireturn, 1) := by decide +kernel
theorem dXT_centreSet_0 : decode cXT_centreSet 0 = .ok (.aload_n 0, 1) := by decide +kernel
theorem dXT_centreSet_1 : decode cXT_centreSet 1 = .ok (.iload_n 1, 1) := by decide +kernel
theorem dXT_centreSet_2 : decode cXT_centreSet 2 = .ok (.invokevirtual 66, 3) := by decide +kernel
theorem dXT_centreSet_5 : decode cXT_centreSet 5 = .ok (.iconst 2, 1) := by decide +kernel
theorem dXT_centreSet_6 : decode cXT_centreSet 6 = .ok (.if_icmp .ne 15, 3) := by decide +kernel
theorem dXT_centreSet_9 : decode cXT_centreSet 9 = .ok (.aload_n 0, 1) := by decide +kernel
theorem dXT_centreSet_10 : decode cXT_centreSet 10 = .ok (.getfield 28, 3) := by decide +kernel
theorem dXT_centreSet_13 : decode cXT_centreSet 13 = .ok (.aload_n 0, 1) := by decide +kernel
theorem dXT_centreSet_14 : decode cXT_centreSet 14 = .ok (.invokevirtual 63, 3) := by decide +kernel
theorem dXT_centreSet_17 : decode cXT_centreSet 17 = .ok (.iaload, 1) := by decide +kernel
theorem dXT_centreSet_18 : decode cXT_centreSet 18 = .ok (.goto 4, 3) := by decide +kernel
theorem dXT_centreSet_21 : decode cXT_centreSet 21 = .ok (.iconst (-1), 1) := by decide +kernel
theorem dXT_centreSet_22 : decode cXT_centreSet 22 = .ok (.ireturn, 1) := by decide +kernel
theorem dXT_links_0 : decode cXT_links 0 = .ok (.iconst 0, 1) := by decide +kernel
theorem dXT_links_1 : decode cXT_links 1 = .ok (.istore_n 3, 1) := by decide +kernel
theorem dXT_links_2 : decode cXT_links 2 = .ok (.iload_n 3, 1) := by decide +kernel
theorem dXT_links_3 : decode cXT_links 3 = .ok (.aload_n 0, 1) := by decide +kernel
theorem dXT_links_4 : decode cXT_links 4 = .ok (.getfield 47, 3) := by decide +kernel
theorem dXT_links_7 : decode cXT_links 7 = .ok (.if_icmp .ge 48, 3) := by decide +kernel
theorem dXT_links_10 : decode cXT_links 10 = .ok (.aload_n 0, 1) := by decide +kernel
theorem dXT_links_11 : decode cXT_links 11 = .ok (.iload_n 3, 1) := by decide +kernel
theorem dXT_links_12 : decode cXT_links 12 = .ok (.iload_n 1, 1) := by decide +kernel
theorem dXT_links_13 : decode cXT_links 13 = .ok (.invokevirtual 70, 3) := by decide +kernel
theorem dXT_links_16 : decode cXT_links 16 = .ok (.istore 4, 2) := by decide +kernel
theorem dXT_links_18 : decode cXT_links 18 = .ok (.aload_n 0, 1) := by decide +kernel
theorem dXT_links_19 : decode cXT_links 19 = .ok (.iload_n 3, 1) := by decide +kernel
theorem dXT_links_20 : decode cXT_links 20 = .ok (.iload_n 2, 1) := by decide +kernel
theorem dXT_links_21 : decode cXT_links 21 = .ok (.invokevirtual 70, 3) := by decide +kernel
theorem dXT_links_24 : decode cXT_links 24 = .ok (.istore 5, 2) := by decide +kernel
theorem dXT_links_26 : decode cXT_links 26 = .ok (.iload 4, 2) := by decide +kernel
theorem dXT_links_28 : decode cXT_links 28 = .ok (.iload 5, 2) := by decide +kernel
theorem dXT_links_30 : decode cXT_links 30 = .ok (.if_icmp .eq 19, 3) := by decide +kernel
theorem dXT_links_33 : decode cXT_links 33 = .ok (.aload_n 0, 1) := by decide +kernel
theorem dXT_links_34 : decode cXT_links 34 = .ok (.getfield 9, 3) := by decide +kernel
theorem dXT_links_37 : decode cXT_links 37 = .ok (.iload 4, 2) := by decide +kernel
theorem dXT_links_39 : decode cXT_links 39 = .ok (.iload 5, 2) := by decide +kernel
theorem dXT_links_41 : decode cXT_links 41 = .ok (.invokevirtual 74, 3) := by decide +kernel
theorem dXT_links_44 : decode cXT_links 44 = .ok (.ifCond .ne 5, 3) := by decide +kernel
theorem dXT_links_47 : decode cXT_links 47 = .ok (.iconst 0, 1) := by decide +kernel
theorem dXT_links_48 : decode cXT_links 48 = .ok (.ireturn, 1) := by decide +kernel
theorem dXT_links_49 : decode cXT_links 49 = .ok (.iinc 3 1, 3) := by decide +kernel
theorem dXT_links_52 : decode cXT_links 52 = .ok (.goto (-50), 3) := by decide +kernel
theorem dXT_links_55 : decode cXT_links 55 = .ok (.iconst 1, 1) := by decide +kernel
theorem dXT_links_56 : decode cXT_links 56 = .ok (.ireturn, 1) := by decide +kernel
end
section
theorem dXE_init_0 : decode cXE_init 0 = .ok (.aload_n 0, 1) := by decide +kernel
theorem dXE_init_1 : decode cXE_init 1 = .ok (.invokespecial 3, 3) := by decide +kernel
theorem dXE_init_4 : decode cXE_init 4 = .ok (.aload_n 0, 1) := by decide +kernel
theorem dXE_init_5 : decode cXE_init 5 = .ok (.aload_n 1, 1) := by decide +kernel
theorem dXE_init_6 : decode cXE_init 6 = .ok (.putfield 9, 3) := by decide +kernel
theorem dXE_init_9 : decode cXE_init 9 = .ok (.aload_n 0, 1) := by decide +kernel
theorem dXE_init_10 : decode cXE_init 10 = .ok (.aload_n 1, 1) := by decide +kernel
theorem dXE_init_11 : decode cXE_init 11 = .ok (.invokevirtual 15, 3) := by decide +kernel
theorem dXE_init_14 : decode cXE_init 14 = .ok (.newarray .int, 2) := by decide +kernel
theorem dXE_init_16 : decode cXE_init 16 = .ok (.putfield 21, 3) := by decide +kernel
theorem dXE_init_19 : decode cXE_init 19 = .ok (.return_, 1) := by decide +kernel
theorem dXE_clears_0 : decode cXE_clears 0 = .ok (.iload_n 1, 1) := by decide +kernel
theorem dXE_clears_1 : decode cXE_clears 1 = .ok (.istore_n 2, 1) := by decide +kernel
theorem dXE_clears_2 : decode cXE_clears 2 = .ok (.iconst 0, 1) := by decide +kernel
theorem dXE_clears_3 : decode cXE_clears 3 = .ok (.istore_n 3, 1) := by decide +kernel
theorem dXE_clears_4 : decode cXE_clears 4 = .ok (.iload_n 3, 1) := by decide +kernel
theorem dXE_clears_5 : decode cXE_clears 5 = .ok (.aload_n 0, 1) := by decide +kernel
theorem dXE_clears_6 : decode cXE_clears 6 = .ok (.getfield 9, 3) := by decide +kernel
theorem dXE_clears_9 : decode cXE_clears 9 = .ok (.invokevirtual 15, 3) := by decide +kernel
theorem dXE_clears_12 : decode cXE_clears 12 = .ok (.if_icmp .ge 54, 3) := by decide +kernel
theorem dXE_clears_15 : decode cXE_clears 15 = .ok (.iload_n 2, 1) := by decide +kernel
theorem dXE_clears_16 : decode cXE_clears 16 = .ok (.iload_n 3, 1) := by decide +kernel
theorem dXE_clears_17 : decode cXE_clears 17 = .ok (.invokestatic 33, 3) := by decide +kernel
theorem dXE_clears_20 : decode cXE_clears 20 = .ok (.ifCond .eq 40, 3) := by decide +kernel
theorem dXE_clears_23 : decode cXE_clears 23 = .ok (.aload_n 0, 1) := by decide +kernel
theorem dXE_clears_24 : decode cXE_clears 24 = .ok (.getfield 9, 3) := by decide +kernel
theorem dXE_clears_27 : decode cXE_clears 27 = .ok (.iload_n 3, 1) := by decide +kernel
theorem dXE_clears_28 : decode cXE_clears 28 = .ok (.iload_n 1, 1) := by decide +kernel
theorem dXE_clears_29 : decode cXE_clears 29 = .ok (.invokevirtual 37, 3) := by decide +kernel
theorem dXE_clears_32 : decode cXE_clears 32 = .ok (.istore 4, 2) := by decide +kernel
theorem dXE_clears_34 : decode cXE_clears 34 = .ok (.iload_n 2, 1) := by decide +kernel
theorem dXE_clears_35 : decode cXE_clears 35 = .ok (.iload 4, 2) := by decide +kernel
theorem dXE_clears_37 : decode cXE_clears 37 = .ok (.iconst (-1), 1) := by decide +kernel
theorem dXE_clears_38 : decode cXE_clears 38 = .ok (.ixor, 1) := by decide +kernel
theorem dXE_clears_39 : decode cXE_clears 39 = .ok (.iand, 1) := by decide +kernel
theorem dXE_clears_40 : decode cXE_clears 40 = .ok (.istore_n 2, 1) := by decide +kernel
theorem dXE_clears_41 : decode cXE_clears 41 = .ok (.aload_n 0, 1) := by decide +kernel
theorem dXE_clears_42 : decode cXE_clears 42 = .ok (.iload 4, 2) := by decide +kernel
theorem dXE_clears_44 : decode cXE_clears 44 = .ok (.invokevirtual 25, 3) := by decide +kernel
theorem dXE_clears_47 : decode cXE_clears 47 = .ok (.aload_n 0, 1) := by decide +kernel
theorem dXE_clears_48 : decode cXE_clears 48 = .ok (.getfield 41, 3) := by decide +kernel
theorem dXE_clears_51 : decode cXE_clears 51 = .ok (.invokestatic 44, 3) := by decide +kernel
theorem dXE_clears_54 : decode cXE_clears 54 = .ok (.iconst 1, 1) := by decide +kernel
theorem dXE_clears_55 : decode cXE_clears 55 = .ok (.if_icmp .eq 5, 3) := by decide +kernel
theorem dXE_clears_58 : decode cXE_clears 58 = .ok (.iconst 0, 1) := by decide +kernel
theorem dXE_clears_59 : decode cXE_clears 59 = .ok (.ireturn, 1) := by decide +kernel
theorem dXE_clears_60 : decode cXE_clears 60 = .ok (.iinc 3 1, 3) := by decide +kernel
theorem dXE_clears_63 : decode cXE_clears 63 = .ok (.goto (-59), 3) := by decide +kernel
theorem dXE_clears_66 : decode cXE_clears 66 = .ok (.iconst 1, 1) := by decide +kernel
theorem dXE_clears_67 : decode cXE_clears 67 = .ok (.ireturn, 1) := by decide +kernel
theorem dXE_run_0 : decode cXE_run 0 = .ok (.aload_n 0, 1) := by decide +kernel
theorem dXE_run_1 : decode cXE_run 1 = .ok (.iload_n 1, 1) := by decide +kernel
theorem dXE_run_2 : decode cXE_run 2 = .ok (.putfield 41, 3) := by decide +kernel
theorem dXE_run_5 : decode cXE_run 5 = .ok (.aload_n 0, 1) := by decide +kernel
theorem dXE_run_6 : decode cXE_run 6 = .ok (.iconst 0, 1) := by decide +kernel
theorem dXE_run_7 : decode cXE_run 7 = .ok (.putfield 29, 3) := by decide +kernel
theorem dXE_run_10 : decode cXE_run 10 = .ok (.aload_n 0, 1) := by decide +kernel
theorem dXE_run_11 : decode cXE_run 11 = .ok (.invokevirtual 54, 3) := by decide +kernel
theorem dXE_run_14 : decode cXE_run 14 = .ok (.istore_n 2, 1) := by decide +kernel
theorem dXE_run_15 : decode cXE_run 15 = .ok (.iload_n 2, 1) := by decide +kernel
theorem dXE_run_16 : decode cXE_run 16 = .ok (.iconst (-1), 1) := by decide +kernel
theorem dXE_run_17 : decode cXE_run 17 = .ok (.if_icmp .eq 60, 3) := by decide +kernel
theorem dXE_run_20 : decode cXE_run 20 = .ok (.aload_n 0, 1) := by decide +kernel
theorem dXE_run_21 : decode cXE_run 21 = .ok (.getfield 29, 3) := by decide +kernel
theorem dXE_run_24 : decode cXE_run 24 = .ok (.aload_n 0, 1) := by decide +kernel
theorem dXE_run_25 : decode cXE_run 25 = .ok (.getfield 21, 3) := by decide +kernel
theorem dXE_run_28 : decode cXE_run 28 = .ok (.arraylength, 1) := by decide +kernel
theorem dXE_run_29 : decode cXE_run 29 = .ok (.if_icmp .ge 48, 3) := by decide +kernel
theorem dXE_run_32 : decode cXE_run 32 = .ok (.aload_n 0, 1) := by decide +kernel
theorem dXE_run_33 : decode cXE_run 33 = .ok (.getfield 21, 3) := by decide +kernel
theorem dXE_run_36 : decode cXE_run 36 = .ok (.aload_n 0, 1) := by decide +kernel
theorem dXE_run_37 : decode cXE_run 37 = .ok (.getfield 29, 3) := by decide +kernel
theorem dXE_run_40 : decode cXE_run 40 = .ok (.iload_n 2, 1) := by decide +kernel
theorem dXE_run_41 : decode cXE_run 41 = .ok (.iastore, 1) := by decide +kernel
theorem dXE_run_42 : decode cXE_run 42 = .ok (.aload_n 0, 1) := by decide +kernel
theorem dXE_run_43 : decode cXE_run 43 = .ok (.dup, 1) := by decide +kernel
theorem dXE_run_44 : decode cXE_run 44 = .ok (.getfield 29, 3) := by decide +kernel
theorem dXE_run_47 : decode cXE_run 47 = .ok (.iconst 1, 1) := by decide +kernel
theorem dXE_run_48 : decode cXE_run 48 = .ok (.iadd, 1) := by decide +kernel
theorem dXE_run_49 : decode cXE_run 49 = .ok (.putfield 29, 3) := by decide +kernel
theorem dXE_run_52 : decode cXE_run 52 = .ok (.aload_n 0, 1) := by decide +kernel
theorem dXE_run_53 : decode cXE_run 53 = .ok (.dup, 1) := by decide +kernel
theorem dXE_run_54 : decode cXE_run 54 = .ok (.getfield 41, 3) := by decide +kernel
theorem dXE_run_57 : decode cXE_run 57 = .ok (.iconst 1, 1) := by decide +kernel
theorem dXE_run_58 : decode cXE_run 58 = .ok (.iload_n 2, 1) := by decide +kernel
theorem dXE_run_59 : decode cXE_run 59 = .ok (.bipush 16, 2) := by decide +kernel
theorem dXE_run_61 : decode cXE_run 61 = .ok (.irem, 1) := by decide +kernel
theorem dXE_run_62 : decode cXE_run 62 = .ok (.ishl, 1) := by decide +kernel
theorem dXE_run_63 : decode cXE_run 63 = .ok (.iconst (-1), 1) := by decide +kernel
theorem dXE_run_64 : decode cXE_run 64 = .ok (.ixor, 1) := by decide +kernel
theorem dXE_run_65 : decode cXE_run 65 = .ok (.iand, 1) := by decide +kernel
theorem dXE_run_66 : decode cXE_run 66 = .ok (.putfield 41, 3) := by decide +kernel
theorem dXE_run_69 : decode cXE_run 69 = .ok (.aload_n 0, 1) := by decide +kernel
theorem dXE_run_70 : decode cXE_run 70 = .ok (.invokevirtual 54, 3) := by decide +kernel
theorem dXE_run_73 : decode cXE_run 73 = .ok (.istore_n 2, 1) := by decide +kernel
theorem dXE_run_74 : decode cXE_run 74 = .ok (.goto (-59), 3) := by decide +kernel
theorem dXE_run_77 : decode cXE_run 77 = .ok (.return_, 1) := by decide +kernel
theorem dXE_nextStep_0 : decode cXE_nextStep 0 = .ok (.aload_n 0, 1) := by decide +kernel
theorem dXE_nextStep_1 : decode cXE_nextStep 1 = .ok (.getfield 9, 3) := by decide +kernel
theorem dXE_nextStep_4 : decode cXE_nextStep 4 = .ok (.invokevirtual 15, 3) := by decide +kernel
theorem dXE_nextStep_7 : decode cXE_nextStep 7 = .ok (.iconst 1, 1) := by decide +kernel
theorem dXE_nextStep_8 : decode cXE_nextStep 8 = .ok (.isub, 1) := by decide +kernel
theorem dXE_nextStep_9 : decode cXE_nextStep 9 = .ok (.istore_n 1, 1) := by decide +kernel
theorem dXE_nextStep_10 : decode cXE_nextStep 10 = .ok (.iload_n 1, 1) := by decide +kernel
theorem dXE_nextStep_11 : decode cXE_nextStep 11 = .ok (.ifCond .lt 37, 3) := by decide +kernel
theorem dXE_nextStep_14 : decode cXE_nextStep 14 = .ok (.aload_n 0, 1) := by decide +kernel
theorem dXE_nextStep_15 : decode cXE_nextStep 15 = .ok (.getfield 41, 3) := by decide +kernel
theorem dXE_nextStep_18 : decode cXE_nextStep 18 = .ok (.iload_n 1, 1) := by decide +kernel
theorem dXE_nextStep_19 : decode cXE_nextStep 19 = .ok (.invokestatic 33, 3) := by decide +kernel
theorem dXE_nextStep_22 : decode cXE_nextStep 22 = .ok (.ifCond .eq 11, 3) := by decide +kernel
theorem dXE_nextStep_25 : decode cXE_nextStep 25 = .ok (.aload_n 0, 1) := by decide +kernel
theorem dXE_nextStep_26 : decode cXE_nextStep 26 = .ok (.iload_n 1, 1) := by decide +kernel
theorem dXE_nextStep_27 : decode cXE_nextStep 27 = .ok (.invokevirtual 57, 3) := by decide +kernel
theorem dXE_nextStep_30 : decode cXE_nextStep 30 = .ok (.goto 4, 3) := by decide +kernel
theorem dXE_nextStep_33 : decode cXE_nextStep 33 = .ok (.iconst (-1), 1) := by decide +kernel
theorem dXE_nextStep_34 : decode cXE_nextStep 34 = .ok (.istore_n 2, 1) := by decide +kernel
theorem dXE_nextStep_35 : decode cXE_nextStep 35 = .ok (.iload_n 2, 1) := by decide +kernel
theorem dXE_nextStep_36 : decode cXE_nextStep 36 = .ok (.iconst (-1), 1) := by decide +kernel
theorem dXE_nextStep_37 : decode cXE_nextStep 37 = .ok (.if_icmp .eq 5, 3) := by decide +kernel
theorem dXE_nextStep_40 : decode cXE_nextStep 40 = .ok (.iload_n 2, 1) := by decide +kernel
theorem dXE_nextStep_41 : decode cXE_nextStep 41 = .ok (.ireturn, 1) := by decide +kernel
theorem dXE_nextStep_42 : decode cXE_nextStep 42 = .ok (.iinc 1 (-1), 3) := by decide +kernel
theorem dXE_nextStep_45 : decode cXE_nextStep 45 = .ok (.goto (-35), 3) := by decide +kernel
theorem dXE_nextStep_48 : decode cXE_nextStep 48 = .ok (.iconst (-1), 1) := by decide +kernel
theorem dXE_nextStep_49 : decode cXE_nextStep 49 = .ok (.ireturn, 1) := by decide +kernel
theorem dXE_stepAt_0 : decode cXE_stepAt 0 = .ok (.aload_n 0, 1) := by decide +kernel
theorem dXE_stepAt_1 : decode cXE_stepAt 1 = .ok (.getfield 9, 3) := by decide +kernel
theorem dXE_stepAt_4 : decode cXE_stepAt 4 = .ok (.iload_n 1, 1) := by decide +kernel
theorem dXE_stepAt_5 : decode cXE_stepAt 5 = .ok (.aload_n 0, 1) := by decide +kernel
theorem dXE_stepAt_6 : decode cXE_stepAt 6 = .ok (.getfield 41, 3) := by decide +kernel
theorem dXE_stepAt_9 : decode cXE_stepAt 9 = .ok (.invokevirtual 60, 3) := by decide +kernel
theorem dXE_stepAt_12 : decode cXE_stepAt 12 = .ok (.istore_n 2, 1) := by decide +kernel
theorem dXE_stepAt_13 : decode cXE_stepAt 13 = .ok (.iload_n 2, 1) := by decide +kernel
theorem dXE_stepAt_14 : decode cXE_stepAt 14 = .ok (.invokestatic 44, 3) := by decide +kernel
theorem dXE_stepAt_17 : decode cXE_stepAt 17 = .ok (.iconst 1, 1) := by decide +kernel
theorem dXE_stepAt_18 : decode cXE_stepAt 18 = .ok (.if_icmp .ne 7, 3) := by decide +kernel
theorem dXE_stepAt_21 : decode cXE_stepAt 21 = .ok (.iconst 1, 1) := by decide +kernel
theorem dXE_stepAt_22 : decode cXE_stepAt 22 = .ok (.goto 4, 3) := by decide +kernel
theorem dXE_stepAt_25 : decode cXE_stepAt 25 = .ok (.iconst 0, 1) := by decide +kernel
theorem dXE_stepAt_26 : decode cXE_stepAt 26 = .ok (.istore_n 3, 1) := by decide +kernel
theorem dXE_stepAt_27 : decode cXE_stepAt 27 = .ok (.iconst 0, 1) := by decide +kernel
theorem dXE_stepAt_28 : decode cXE_stepAt 28 = .ok (.istore 4, 2) := by decide +kernel
theorem dXE_stepAt_30 : decode cXE_stepAt 30 = .ok (.iload 4, 2) := by decide +kernel
theorem dXE_stepAt_32 : decode cXE_stepAt 32 = .ok (.aload_n 0, 1) := by decide +kernel
theorem dXE_stepAt_33 : decode cXE_stepAt 33 = .ok (.getfield 9, 3) := by decide +kernel
theorem dXE_stepAt_36 : decode cXE_stepAt 36 = .ok (.invokevirtual 15, 3) := by decide +kernel
theorem dXE_stepAt_39 : decode cXE_stepAt 39 = .ok (.if_icmp .ge 96, 3) := by decide +kernel
theorem dXE_stepAt_42 : decode cXE_stepAt 42 = .ok (.iload_n 2, 1) := by decide +kernel
theorem dXE_stepAt_43 : decode cXE_stepAt 43 = .ok (.iload 4, 2) := by decide +kernel
theorem dXE_stepAt_45 : decode cXE_stepAt 45 = .ok (.invokestatic 33, 3) := by decide +kernel
theorem dXE_stepAt_48 : decode cXE_stepAt 48 = .ok (.istore 5, 2) := by decide +kernel
theorem dXE_stepAt_50 : decode cXE_stepAt 50 = .ok (.iload_n 3, 1) := by decide +kernel
theorem dXE_stepAt_51 : decode cXE_stepAt 51 = .ok (.ifCond .eq 16, 3) := by decide +kernel
theorem dXE_stepAt_54 : decode cXE_stepAt 54 = .ok (.iload 5, 2) := by decide +kernel
theorem dXE_stepAt_56 : decode cXE_stepAt 56 = .ok (.ifCond .eq 11, 3) := by decide +kernel
theorem dXE_stepAt_59 : decode cXE_stepAt 59 = .ok (.iload_n 1, 1) := by decide +kernel
theorem dXE_stepAt_60 : decode cXE_stepAt 60 = .ok (.bipush 16, 2) := by decide +kernel
theorem dXE_stepAt_62 : decode cXE_stepAt 62 = .ok (.iload 4, 2) := by decide +kernel
theorem dXE_stepAt_64 : decode cXE_stepAt 64 = .ok (.imul, 1) := by decide +kernel
theorem dXE_stepAt_65 : decode cXE_stepAt 65 = .ok (.iadd, 1) := by decide +kernel
theorem dXE_stepAt_66 : decode cXE_stepAt 66 = .ok (.ireturn, 1) := by decide +kernel
theorem dXE_stepAt_67 : decode cXE_stepAt 67 = .ok (.iload_n 3, 1) := by decide +kernel
theorem dXE_stepAt_68 : decode cXE_stepAt 68 = .ok (.ifCond .ne 61, 3) := by decide +kernel
theorem dXE_stepAt_71 : decode cXE_stepAt 71 = .ok (.iload 4, 2) := by decide +kernel
theorem dXE_stepAt_73 : decode cXE_stepAt 73 = .ok (.iload_n 1, 1) := by decide +kernel
theorem dXE_stepAt_74 : decode cXE_stepAt 74 = .ok (.if_icmp .eq 55, 3) := by decide +kernel
theorem dXE_stepAt_77 : decode cXE_stepAt 77 = .ok (.aload_n 0, 1) := by decide +kernel
theorem dXE_stepAt_78 : decode cXE_stepAt 78 = .ok (.getfield 41, 3) := by decide +kernel
theorem dXE_stepAt_81 : decode cXE_stepAt 81 = .ok (.iload 4, 2) := by decide +kernel
theorem dXE_stepAt_83 : decode cXE_stepAt 83 = .ok (.invokestatic 33, 3) := by decide +kernel
theorem dXE_stepAt_86 : decode cXE_stepAt 86 = .ok (.ifCond .eq 43, 3) := by decide +kernel
theorem dXE_stepAt_89 : decode cXE_stepAt 89 = .ok (.aload_n 0, 1) := by decide +kernel
theorem dXE_stepAt_90 : decode cXE_stepAt 90 = .ok (.getfield 9, 3) := by decide +kernel
theorem dXE_stepAt_93 : decode cXE_stepAt 93 = .ok (.iload_n 1, 1) := by decide +kernel
theorem dXE_stepAt_94 : decode cXE_stepAt 94 = .ok (.iload 4, 2) := by decide +kernel
theorem dXE_stepAt_96 : decode cXE_stepAt 96 = .ok (.aload_n 0, 1) := by decide +kernel
theorem dXE_stepAt_97 : decode cXE_stepAt 97 = .ok (.getfield 41, 3) := by decide +kernel
theorem dXE_stepAt_100 : decode cXE_stepAt 100 = .ok (.invokevirtual 63, 3) := by decide +kernel
theorem dXE_stepAt_103 : decode cXE_stepAt 103 = .ok (.ifCond .eq 26, 3) := by decide +kernel
theorem dXE_stepAt_106 : decode cXE_stepAt 106 = .ok (.iload_n 1, 1) := by decide +kernel
theorem dXE_stepAt_107 : decode cXE_stepAt 107 = .ok (.bipush 16, 2) := by decide +kernel
theorem dXE_stepAt_109 : decode cXE_stepAt 109 = .ok (.iload 4, 2) := by decide +kernel
theorem dXE_stepAt_111 : decode cXE_stepAt 111 = .ok (.imul, 1) := by decide +kernel
theorem dXE_stepAt_112 : decode cXE_stepAt 112 = .ok (.iadd, 1) := by decide +kernel
theorem dXE_stepAt_113 : decode cXE_stepAt 113 = .ok (.iload 5, 2) := by decide +kernel
theorem dXE_stepAt_115 : decode cXE_stepAt 115 = .ok (.ifCond .eq 9, 3) := by decide +kernel
theorem dXE_stepAt_118 : decode cXE_stepAt 118 = .ok (.sipush 512, 3) := by decide +kernel
theorem dXE_stepAt_121 : decode cXE_stepAt 121 = .ok (.goto 6, 3) := by decide +kernel
theorem dXE_stepAt_124 : decode cXE_stepAt 124 = .ok (.sipush 256, 3) := by decide +kernel
theorem dXE_stepAt_127 : decode cXE_stepAt 127 = .ok (.iadd, 1) := by decide +kernel
theorem dXE_stepAt_128 : decode cXE_stepAt 128 = .ok (.ireturn, 1) := by decide +kernel
theorem dXE_stepAt_129 : decode cXE_stepAt 129 = .ok (.iinc 4 1, 3) := by decide +kernel
theorem dXE_stepAt_132 : decode cXE_stepAt 132 = .ok (.goto (-102), 3) := by decide +kernel
theorem dXE_stepAt_135 : decode cXE_stepAt 135 = .ok (.iconst (-1), 1) := by decide +kernel
theorem dXE_stepAt_136 : decode cXE_stepAt 136 = .ok (.ireturn, 1) := by decide +kernel
theorem dXE_stepOf_0 : decode cXE_stepOf 0 = .ok (.aload_n 0, 1) := by decide +kernel
theorem dXE_stepOf_1 : decode cXE_stepOf 1 = .ok (.iload_n 1, 1) := by decide +kernel
theorem dXE_stepOf_2 : decode cXE_stepOf 2 = .ok (.invokevirtual 25, 3) := by decide +kernel
theorem dXE_stepOf_5 : decode cXE_stepOf 5 = .ok (.iload_n 2, 1) := by decide +kernel
theorem dXE_stepOf_6 : decode cXE_stepOf 6 = .ok (.ifCond .lt 20, 3) := by decide +kernel
theorem dXE_stepOf_9 : decode cXE_stepOf 9 = .ok (.iload_n 2, 1) := by decide +kernel
theorem dXE_stepOf_10 : decode cXE_stepOf 10 = .ok (.aload_n 0, 1) := by decide +kernel
theorem dXE_stepOf_11 : decode cXE_stepOf 11 = .ok (.getfield 29, 3) := by decide +kernel
theorem dXE_stepOf_14 : decode cXE_stepOf 14 = .ok (.if_icmp .ge 12, 3) := by decide +kernel
theorem dXE_stepOf_17 : decode cXE_stepOf 17 = .ok (.aload_n 0, 1) := by decide +kernel
theorem dXE_stepOf_18 : decode cXE_stepOf 18 = .ok (.getfield 21, 3) := by decide +kernel
theorem dXE_stepOf_21 : decode cXE_stepOf 21 = .ok (.iload_n 2, 1) := by decide +kernel
theorem dXE_stepOf_22 : decode cXE_stepOf 22 = .ok (.iaload, 1) := by decide +kernel
theorem dXE_stepOf_23 : decode cXE_stepOf 23 = .ok (.goto 4, 3) := by decide +kernel
theorem dXE_stepOf_26 : decode cXE_stepOf 26 = .ok (.iconst (-1), 1) := by decide +kernel
theorem dXE_stepOf_27 : decode cXE_stepOf 27 = .ok (.ireturn, 1) := by decide +kernel
theorem dXE_obstructionIn_0 : decode cXE_obstructionIn 0 = .ok (.aload_n 0, 1) := by decide +kernel
theorem dXE_obstructionIn_1 : decode cXE_obstructionIn 1 = .ok (.iload_n 1, 1) := by decide +kernel
theorem dXE_obstructionIn_2 : decode cXE_obstructionIn 2 = .ok (.invokevirtual 50, 3) := by decide +kernel
theorem dXE_obstructionIn_5 : decode cXE_obstructionIn 5 = .ok (.ifCond .eq 5, 3) := by decide +kernel
theorem dXE_obstructionIn_8 : decode cXE_obstructionIn 8 = .ok (.iconst (-1), 1) := by decide +kernel
theorem dXE_obstructionIn_9 : decode cXE_obstructionIn 9 = .ok (.ireturn, 1) := by decide +kernel
theorem dXE_obstructionIn_10 : decode cXE_obstructionIn 10 = .ok (.iload_n 1, 1) := by decide +kernel
theorem dXE_obstructionIn_11 : decode cXE_obstructionIn 11 = .ok (.istore_n 2, 1) := by decide +kernel
theorem dXE_obstructionIn_12 : decode cXE_obstructionIn 12 = .ok (.iconst 0, 1) := by decide +kernel
theorem dXE_obstructionIn_13 : decode cXE_obstructionIn 13 = .ok (.istore_n 3, 1) := by decide +kernel
theorem dXE_obstructionIn_14 : decode cXE_obstructionIn 14 = .ok (.iload_n 3, 1) := by decide +kernel
theorem dXE_obstructionIn_15 : decode cXE_obstructionIn 15 = .ok (.aload_n 0, 1) := by decide +kernel
theorem dXE_obstructionIn_16 : decode cXE_obstructionIn 16 = .ok (.getfield 9, 3) := by decide +kernel
theorem dXE_obstructionIn_19 : decode cXE_obstructionIn 19 = .ok (.invokevirtual 15, 3) := by decide +kernel
theorem dXE_obstructionIn_22 : decode cXE_obstructionIn 22 = .ok (.if_icmp .ge 38, 3) := by decide +kernel
theorem dXE_obstructionIn_25 : decode cXE_obstructionIn 25 = .ok (.iload_n 2, 1) := by decide +kernel
theorem dXE_obstructionIn_26 : decode cXE_obstructionIn 26 = .ok (.iconst 1, 1) := by decide +kernel
theorem dXE_obstructionIn_27 : decode cXE_obstructionIn 27 = .ok (.iload_n 3, 1) := by decide +kernel
theorem dXE_obstructionIn_28 : decode cXE_obstructionIn 28 = .ok (.ishl, 1) := by decide +kernel
theorem dXE_obstructionIn_29 : decode cXE_obstructionIn 29 = .ok (.iconst (-1), 1) := by decide +kernel
theorem dXE_obstructionIn_30 : decode cXE_obstructionIn 30 = .ok (.ixor, 1) := by decide +kernel
theorem dXE_obstructionIn_31 : decode cXE_obstructionIn 31 = .ok (.iand, 1) := by decide +kernel
theorem dXE_obstructionIn_32 : decode cXE_obstructionIn 32 = .ok (.istore 4, 2) := by decide +kernel
theorem dXE_obstructionIn_34 : decode cXE_obstructionIn 34 = .ok (.iload_n 2, 1) := by decide +kernel
theorem dXE_obstructionIn_35 : decode cXE_obstructionIn 35 = .ok (.iload_n 3, 1) := by decide +kernel
theorem dXE_obstructionIn_36 : decode cXE_obstructionIn 36 = .ok (.invokestatic 33, 3) := by decide +kernel
theorem dXE_obstructionIn_39 : decode cXE_obstructionIn 39 = .ok (.ifCond .eq 15, 3) := by decide +kernel
theorem dXE_obstructionIn_42 : decode cXE_obstructionIn 42 = .ok (.aload_n 0, 1) := by decide +kernel
theorem dXE_obstructionIn_43 : decode cXE_obstructionIn 43 = .ok (.iload 4, 2) := by decide +kernel
theorem dXE_obstructionIn_45 : decode cXE_obstructionIn 45 = .ok (.invokevirtual 50, 3) := by decide +kernel
theorem dXE_obstructionIn_48 : decode cXE_obstructionIn 48 = .ok (.ifCond .ne 6, 3) := by decide +kernel
theorem dXE_obstructionIn_51 : decode cXE_obstructionIn 51 = .ok (.iload 4, 2) := by decide +kernel
theorem dXE_obstructionIn_53 : decode cXE_obstructionIn 53 = .ok (.istore_n 2, 1) := by decide +kernel
theorem dXE_obstructionIn_54 : decode cXE_obstructionIn 54 = .ok (.iinc 3 1, 3) := by decide +kernel
theorem dXE_obstructionIn_57 : decode cXE_obstructionIn 57 = .ok (.goto (-43), 3) := by decide +kernel
theorem dXE_obstructionIn_60 : decode cXE_obstructionIn 60 = .ok (.iload_n 2, 1) := by decide +kernel
theorem dXE_obstructionIn_61 : decode cXE_obstructionIn 61 = .ok (.ireturn, 1) := by decide +kernel
end
section
theorem dXC_init_0 : decode cXC_init 0 = .ok (.aload_n 0, 1) := by decide +kernel
theorem dXC_init_1 : decode cXC_init 1 = .ok (.invokespecial 1, 3) := by decide +kernel
theorem dXC_init_4 : decode cXC_init 4 = .ok (.aload_n 0, 1) := by decide +kernel
theorem dXC_init_5 : decode cXC_init 5 = .ok (.aload_n 1, 1) := by decide +kernel
theorem dXC_init_6 : decode cXC_init 6 = .ok (.putfield 7, 3) := by decide +kernel
theorem dXC_init_9 : decode cXC_init 9 = .ok (.aload_n 0, 1) := by decide +kernel
theorem dXC_init_10 : decode cXC_init 10 = .ok (.iconst 1, 1) := by decide +kernel
theorem dXC_init_11 : decode cXC_init 11 = .ok (.aload_n 1, 1) := by decide +kernel
theorem dXC_init_12 : decode cXC_init 12 = .ok (.invokevirtual 13, 3) := by decide +kernel
theorem dXC_init_15 : decode cXC_init 15 = .ok (.ishl, 1) := by decide +kernel
theorem dXC_init_16 : decode cXC_init 16 = .ok (.newarray .int, 2) := by decide +kernel
theorem dXC_init_18 : decode cXC_init 18 = .ok (.putfield 19, 3) := by decide +kernel
theorem dXC_init_21 : decode cXC_init 21 = .ok (.return_, 1) := by decide +kernel
theorem dXC_largestApart_0 : decode cXC_largestApart 0 = .ok (.iconst 0, 1) := by decide +kernel
theorem dXC_largestApart_1 : decode cXC_largestApart 1 = .ok (.istore_n 2, 1) := by decide +kernel
theorem dXC_largestApart_2 : decode cXC_largestApart 2 = .ok (.iconst 1, 1) := by decide +kernel
theorem dXC_largestApart_3 : decode cXC_largestApart 3 = .ok (.istore_n 3, 1) := by decide +kernel
theorem dXC_largestApart_4 : decode cXC_largestApart 4 = .ok (.iload_n 3, 1) := by decide +kernel
theorem dXC_largestApart_5 : decode cXC_largestApart 5 = .ok (.iload_n 1, 1) := by decide +kernel
theorem dXC_largestApart_6 : decode cXC_largestApart 6 = .ok (.if_icmp .gt 42, 3) := by decide +kernel
theorem dXC_largestApart_9 : decode cXC_largestApart 9 = .ok (.iload_n 3, 1) := by decide +kernel
theorem dXC_largestApart_10 : decode cXC_largestApart 10 = .ok (.iload_n 1, 1) := by decide +kernel
theorem dXC_largestApart_11 : decode cXC_largestApart 11 = .ok (.iconst (-1), 1) := by decide +kernel
theorem dXC_largestApart_12 : decode cXC_largestApart 12 = .ok (.ixor, 1) := by decide +kernel
theorem dXC_largestApart_13 : decode cXC_largestApart 13 = .ok (.iand, 1) := by decide +kernel
theorem dXC_largestApart_14 : decode cXC_largestApart 14 = .ok (.ifCond .ne 28, 3) := by decide +kernel
theorem dXC_largestApart_17 : decode cXC_largestApart 17 = .ok (.iload_n 3, 1) := by decide +kernel
theorem dXC_largestApart_18 : decode cXC_largestApart 18 = .ok (.invokestatic 23, 3) := by decide +kernel
theorem dXC_largestApart_21 : decode cXC_largestApart 21 = .ok (.iload_n 2, 1) := by decide +kernel
theorem dXC_largestApart_22 : decode cXC_largestApart 22 = .ok (.invokestatic 23, 3) := by decide +kernel
theorem dXC_largestApart_25 : decode cXC_largestApart 25 = .ok (.if_icmp .le 17, 3) := by decide +kernel
theorem dXC_largestApart_28 : decode cXC_largestApart 28 = .ok (.aload_n 0, 1) := by decide +kernel
theorem dXC_largestApart_29 : decode cXC_largestApart 29 = .ok (.getfield 7, 3) := by decide +kernel
theorem dXC_largestApart_32 : decode cXC_largestApart 32 = .ok (.iload_n 3, 1) := by decide +kernel
theorem dXC_largestApart_33 : decode cXC_largestApart 33 = .ok (.iload_n 3, 1) := by decide +kernel
theorem dXC_largestApart_34 : decode cXC_largestApart 34 = .ok (.invokevirtual 29, 3) := by decide +kernel
theorem dXC_largestApart_37 : decode cXC_largestApart 37 = .ok (.ifCond .ne 5, 3) := by decide +kernel
theorem dXC_largestApart_40 : decode cXC_largestApart 40 = .ok (.iload_n 3, 1) := by decide +kernel
theorem dXC_largestApart_41 : decode cXC_largestApart 41 = .ok (.istore_n 2, 1) := by decide +kernel
theorem dXC_largestApart_42 : decode cXC_largestApart 42 = .ok (.iinc 3 1, 3) := by decide +kernel
theorem dXC_largestApart_45 : decode cXC_largestApart 45 = .ok (.goto (-41), 3) := by decide +kernel
theorem dXC_largestApart_48 : decode cXC_largestApart 48 = .ok (.iload_n 2, 1) := by decide +kernel
theorem dXC_largestApart_49 : decode cXC_largestApart 49 = .ok (.ireturn, 1) := by decide +kernel
theorem dXC_fewestCliques_0 : decode cXC_fewestCliques 0 = .ok (.iconst 0, 1) := by decide +kernel
theorem dXC_fewestCliques_1 : decode cXC_fewestCliques 1 = .ok (.istore_n 2, 1) := by decide +kernel
theorem dXC_fewestCliques_2 : decode cXC_fewestCliques 2 = .ok (.iconst 0, 1) := by decide +kernel
theorem dXC_fewestCliques_3 : decode cXC_fewestCliques 3 = .ok (.istore_n 3, 1) := by decide +kernel
theorem dXC_fewestCliques_4 : decode cXC_fewestCliques 4 = .ok (.iload_n 3, 1) := by decide +kernel
theorem dXC_fewestCliques_5 : decode cXC_fewestCliques 5 = .ok (.aload_n 0, 1) := by decide +kernel
theorem dXC_fewestCliques_6 : decode cXC_fewestCliques 6 = .ok (.getfield 7, 3) := by decide +kernel
theorem dXC_fewestCliques_9 : decode cXC_fewestCliques 9 = .ok (.invokevirtual 13, 3) := by decide +kernel
theorem dXC_fewestCliques_12 : decode cXC_fewestCliques 12 = .ok (.if_icmp .ge 29, 3) := by decide +kernel
theorem dXC_fewestCliques_15 : decode cXC_fewestCliques 15 = .ok (.iload_n 1, 1) := by decide +kernel
theorem dXC_fewestCliques_16 : decode cXC_fewestCliques 16 = .ok (.iload_n 3, 1) := by decide +kernel
theorem dXC_fewestCliques_17 : decode cXC_fewestCliques 17 = .ok (.invokestatic 33, 3) := by decide +kernel
theorem dXC_fewestCliques_20 : decode cXC_fewestCliques 20 = .ok (.ifCond .eq 15, 3) := by decide +kernel
theorem dXC_fewestCliques_23 : decode cXC_fewestCliques 23 = .ok (.aload_n 0, 1) := by decide +kernel
theorem dXC_fewestCliques_24 : decode cXC_fewestCliques 24 = .ok (.iload_n 3, 1) := by decide +kernel
theorem dXC_fewestCliques_25 : decode cXC_fewestCliques 25 = .ok (.iload_n 2, 1) := by decide +kernel
theorem dXC_fewestCliques_26 : decode cXC_fewestCliques 26 = .ok (.invokevirtual 38, 3) := by decide +kernel
theorem dXC_fewestCliques_29 : decode cXC_fewestCliques 29 = .ok (.iload_n 2, 1) := by decide +kernel
theorem dXC_fewestCliques_30 : decode cXC_fewestCliques 30 = .ok (.iconst 1, 1) := by decide +kernel
theorem dXC_fewestCliques_31 : decode cXC_fewestCliques 31 = .ok (.iload_n 3, 1) := by decide +kernel
theorem dXC_fewestCliques_32 : decode cXC_fewestCliques 32 = .ok (.ishl, 1) := by decide +kernel
theorem dXC_fewestCliques_33 : decode cXC_fewestCliques 33 = .ok (.ior, 1) := by decide +kernel
theorem dXC_fewestCliques_34 : decode cXC_fewestCliques 34 = .ok (.istore_n 2, 1) := by decide +kernel
theorem dXC_fewestCliques_35 : decode cXC_fewestCliques 35 = .ok (.iinc 3 1, 3) := by decide +kernel
theorem dXC_fewestCliques_38 : decode cXC_fewestCliques 38 = .ok (.goto (-34), 3) := by decide +kernel
theorem dXC_fewestCliques_41 : decode cXC_fewestCliques 41 = .ok (.aload_n 0, 1) := by decide +kernel
theorem dXC_fewestCliques_42 : decode cXC_fewestCliques 42 = .ok (.getfield 19, 3) := by decide +kernel
theorem dXC_fewestCliques_45 : decode cXC_fewestCliques 45 = .ok (.iload_n 1, 1) := by decide +kernel
theorem dXC_fewestCliques_46 : decode cXC_fewestCliques 46 = .ok (.iaload, 1) := by decide +kernel
theorem dXC_fewestCliques_47 : decode cXC_fewestCliques 47 = .ok (.ireturn, 1) := by decide +kernel
theorem dXC_coverWith_0 : decode cXC_coverWith 0 = .ok (.iconst 0, 1) := by decide +kernel
theorem dXC_coverWith_1 : decode cXC_coverWith 1 = .ok (.istore_n 3, 1) := by decide +kernel
theorem dXC_coverWith_2 : decode cXC_coverWith 2 = .ok (.iload_n 3, 1) := by decide +kernel
theorem dXC_coverWith_3 : decode cXC_coverWith 3 = .ok (.iload_n 2, 1) := by decide +kernel
theorem dXC_coverWith_4 : decode cXC_coverWith 4 = .ok (.if_icmp .gt 33, 3) := by decide +kernel
theorem dXC_coverWith_7 : decode cXC_coverWith 7 = .ok (.iload_n 3, 1) := by decide +kernel
theorem dXC_coverWith_8 : decode cXC_coverWith 8 = .ok (.iload_n 2, 1) := by decide +kernel
theorem dXC_coverWith_9 : decode cXC_coverWith 9 = .ok (.iconst (-1), 1) := by decide +kernel
theorem dXC_coverWith_10 : decode cXC_coverWith 10 = .ok (.ixor, 1) := by decide +kernel
theorem dXC_coverWith_11 : decode cXC_coverWith 11 = .ok (.iand, 1) := by decide +kernel
theorem dXC_coverWith_12 : decode cXC_coverWith 12 = .ok (.ifCond .ne 19, 3) := by decide +kernel
theorem dXC_coverWith_15 : decode cXC_coverWith 15 = .ok (.aload_n 0, 1) := by decide +kernel
theorem dXC_coverWith_16 : decode cXC_coverWith 16 = .ok (.getfield 19, 3) := by decide +kernel
theorem dXC_coverWith_19 : decode cXC_coverWith 19 = .ok (.iload_n 3, 1) := by decide +kernel
theorem dXC_coverWith_20 : decode cXC_coverWith 20 = .ok (.iconst 1, 1) := by decide +kernel
theorem dXC_coverWith_21 : decode cXC_coverWith 21 = .ok (.iload_n 1, 1) := by decide +kernel
theorem dXC_coverWith_22 : decode cXC_coverWith 22 = .ok (.ishl, 1) := by decide +kernel
theorem dXC_coverWith_23 : decode cXC_coverWith 23 = .ok (.ior, 1) := by decide +kernel
theorem dXC_coverWith_24 : decode cXC_coverWith 24 = .ok (.aload_n 0, 1) := by decide +kernel
theorem dXC_coverWith_25 : decode cXC_coverWith 25 = .ok (.iload_n 1, 1) := by decide +kernel
theorem dXC_coverWith_26 : decode cXC_coverWith 26 = .ok (.iload_n 3, 1) := by decide +kernel
theorem dXC_coverWith_27 : decode cXC_coverWith 27 = .ok (.invokevirtual 42, 3) := by decide +kernel
theorem dXC_coverWith_30 : decode cXC_coverWith 30 = .ok (.iastore, 1) := by decide +kernel
theorem dXC_coverWith_31 : decode cXC_coverWith 31 = .ok (.iinc 3 1, 3) := by decide +kernel
theorem dXC_coverWith_34 : decode cXC_coverWith 34 = .ok (.goto (-32), 3) := by decide +kernel
theorem dXC_coverWith_37 : decode cXC_coverWith 37 = .ok (.return_, 1) := by decide +kernel
theorem dXC_fewestWith_0 : decode cXC_fewestWith 0 = .ok (.aload_n 0, 1) := by decide +kernel
theorem dXC_fewestWith_1 : decode cXC_fewestWith 1 = .ok (.getfield 7, 3) := by decide +kernel
theorem dXC_fewestWith_4 : decode cXC_fewestWith 4 = .ok (.iload_n 1, 1) := by decide +kernel
theorem dXC_fewestWith_5 : decode cXC_fewestWith 5 = .ok (.iload_n 2, 1) := by decide +kernel
theorem dXC_fewestWith_6 : decode cXC_fewestWith 6 = .ok (.invokevirtual 46, 3) := by decide +kernel
theorem dXC_fewestWith_9 : decode cXC_fewestWith 9 = .ok (.istore_n 3, 1) := by decide +kernel
theorem dXC_fewestWith_10 : decode cXC_fewestWith 10 = .ok (.iconst 1, 1) := by decide +kernel
theorem dXC_fewestWith_11 : decode cXC_fewestWith 11 = .ok (.aload_n 0, 1) := by decide +kernel
theorem dXC_fewestWith_12 : decode cXC_fewestWith 12 = .ok (.getfield 19, 3) := by decide +kernel
theorem dXC_fewestWith_15 : decode cXC_fewestWith 15 = .ok (.iload_n 2, 1) := by decide +kernel
theorem dXC_fewestWith_16 : decode cXC_fewestWith 16 = .ok (.iaload, 1) := by decide +kernel
theorem dXC_fewestWith_17 : decode cXC_fewestWith 17 = .ok (.iadd, 1) := by decide +kernel
theorem dXC_fewestWith_18 : decode cXC_fewestWith 18 = .ok (.istore 4, 2) := by decide +kernel
theorem dXC_fewestWith_20 : decode cXC_fewestWith 20 = .ok (.iload_n 3, 1) := by decide +kernel
theorem dXC_fewestWith_21 : decode cXC_fewestWith 21 = .ok (.istore 5, 2) := by decide +kernel
theorem dXC_fewestWith_23 : decode cXC_fewestWith 23 = .ok (.iload 5, 2) := by decide +kernel
theorem dXC_fewestWith_25 : decode cXC_fewestWith 25 = .ok (.ifCond .le 45, 3) := by decide +kernel
theorem dXC_fewestWith_28 : decode cXC_fewestWith 28 = .ok (.aload_n 0, 1) := by decide +kernel
theorem dXC_fewestWith_29 : decode cXC_fewestWith 29 = .ok (.getfield 19, 3) := by decide +kernel
theorem dXC_fewestWith_32 : decode cXC_fewestWith 32 = .ok (.iload 5, 2) := by decide +kernel
theorem dXC_fewestWith_34 : decode cXC_fewestWith 34 = .ok (.iaload, 1) := by decide +kernel
theorem dXC_fewestWith_35 : decode cXC_fewestWith 35 = .ok (.iconst 1, 1) := by decide +kernel
theorem dXC_fewestWith_36 : decode cXC_fewestWith 36 = .ok (.if_icmp .ne 23, 3) := by decide +kernel
theorem dXC_fewestWith_39 : decode cXC_fewestWith 39 = .ok (.iload 4, 2) := by decide +kernel
theorem dXC_fewestWith_41 : decode cXC_fewestWith 41 = .ok (.iconst 1, 1) := by decide +kernel
theorem dXC_fewestWith_42 : decode cXC_fewestWith 42 = .ok (.aload_n 0, 1) := by decide +kernel
theorem dXC_fewestWith_43 : decode cXC_fewestWith 43 = .ok (.getfield 19, 3) := by decide +kernel
theorem dXC_fewestWith_46 : decode cXC_fewestWith 46 = .ok (.iload_n 2, 1) := by decide +kernel
theorem dXC_fewestWith_47 : decode cXC_fewestWith 47 = .ok (.iload 5, 2) := by decide +kernel
theorem dXC_fewestWith_49 : decode cXC_fewestWith 49 = .ok (.iconst (-1), 1) := by decide +kernel
theorem dXC_fewestWith_50 : decode cXC_fewestWith 50 = .ok (.ixor, 1) := by decide +kernel
theorem dXC_fewestWith_51 : decode cXC_fewestWith 51 = .ok (.iand, 1) := by decide +kernel
theorem dXC_fewestWith_52 : decode cXC_fewestWith 52 = .ok (.iaload, 1) := by decide +kernel
theorem dXC_fewestWith_53 : decode cXC_fewestWith 53 = .ok (.iadd, 1) := by decide +kernel
theorem dXC_fewestWith_54 : decode cXC_fewestWith 54 = .ok (.invokestatic 49, 3) := by decide +kernel
theorem dXC_fewestWith_57 : decode cXC_fewestWith 57 = .ok (.istore 4, 2) := by decide +kernel
theorem dXC_fewestWith_59 : decode cXC_fewestWith 59 = .ok (.iload 5, 2) := by decide +kernel
theorem dXC_fewestWith_61 : decode cXC_fewestWith 61 = .ok (.iconst 1, 1) := by decide +kernel
theorem dXC_fewestWith_62 : decode cXC_fewestWith 62 = .ok (.isub, 1) := by decide +kernel
theorem dXC_fewestWith_63 : decode cXC_fewestWith 63 = .ok (.iload_n 3, 1) := by decide +kernel
theorem dXC_fewestWith_64 : decode cXC_fewestWith 64 = .ok (.iand, 1) := by decide +kernel
theorem dXC_fewestWith_65 : decode cXC_fewestWith 65 = .ok (.istore 5, 2) := by decide +kernel
theorem dXC_fewestWith_67 : decode cXC_fewestWith 67 = .ok (.goto (-44), 3) := by decide +kernel
theorem dXC_fewestWith_70 : decode cXC_fewestWith 70 = .ok (.iload 4, 2) := by decide +kernel
theorem dXC_fewestWith_72 : decode cXC_fewestWith 72 = .ok (.ireturn, 1) := by decide +kernel
end
section
theorem dXJ_bitCount_0 : decode cXJ_bitCount 0 = .ok (.iload_n 0, 1) := by decide +kernel
theorem dXJ_bitCount_1 : decode cXJ_bitCount 1 = .ok (.iload_n 0, 1) := by decide +kernel
theorem dXJ_bitCount_2 : decode cXJ_bitCount 2 = .ok (.iconst 1, 1) := by decide +kernel
theorem dXJ_bitCount_3 : decode cXJ_bitCount 3 = .ok (.iushr, 1) := by decide +kernel
theorem dXJ_bitCount_4 : decode cXJ_bitCount 4 = .ok (.ldc_w 265, 3) := by decide +kernel
theorem dXJ_bitCount_7 : decode cXJ_bitCount 7 = .ok (.iand, 1) := by decide +kernel
theorem dXJ_bitCount_8 : decode cXJ_bitCount 8 = .ok (.isub, 1) := by decide +kernel
theorem dXJ_bitCount_9 : decode cXJ_bitCount 9 = .ok (.istore_n 0, 1) := by decide +kernel
theorem dXJ_bitCount_10 : decode cXJ_bitCount 10 = .ok (.iload_n 0, 1) := by decide +kernel
theorem dXJ_bitCount_11 : decode cXJ_bitCount 11 = .ok (.ldc_w 266, 3) := by decide +kernel
theorem dXJ_bitCount_14 : decode cXJ_bitCount 14 = .ok (.iand, 1) := by decide +kernel
theorem dXJ_bitCount_15 : decode cXJ_bitCount 15 = .ok (.iload_n 0, 1) := by decide +kernel
theorem dXJ_bitCount_16 : decode cXJ_bitCount 16 = .ok (.iconst 2, 1) := by decide +kernel
theorem dXJ_bitCount_17 : decode cXJ_bitCount 17 = .ok (.iushr, 1) := by decide +kernel
theorem dXJ_bitCount_18 : decode cXJ_bitCount 18 = .ok (.ldc_w 266, 3) := by decide +kernel
theorem dXJ_bitCount_21 : decode cXJ_bitCount 21 = .ok (.iand, 1) := by decide +kernel
theorem dXJ_bitCount_22 : decode cXJ_bitCount 22 = .ok (.iadd, 1) := by decide +kernel
theorem dXJ_bitCount_23 : decode cXJ_bitCount 23 = .ok (.istore_n 0, 1) := by decide +kernel
theorem dXJ_bitCount_24 : decode cXJ_bitCount 24 = .ok (.iload_n 0, 1) := by decide +kernel
theorem dXJ_bitCount_25 : decode cXJ_bitCount 25 = .ok (.iload_n 0, 1) := by decide +kernel
theorem dXJ_bitCount_26 : decode cXJ_bitCount 26 = .ok (.iconst 4, 1) := by decide +kernel
theorem dXJ_bitCount_27 : decode cXJ_bitCount 27 = .ok (.iushr, 1) := by decide +kernel
theorem dXJ_bitCount_28 : decode cXJ_bitCount 28 = .ok (.iadd, 1) := by decide +kernel
theorem dXJ_bitCount_29 : decode cXJ_bitCount 29 = .ok (.ldc_w 267, 3) := by decide +kernel
theorem dXJ_bitCount_32 : decode cXJ_bitCount 32 = .ok (.iand, 1) := by decide +kernel
theorem dXJ_bitCount_33 : decode cXJ_bitCount 33 = .ok (.istore_n 0, 1) := by decide +kernel
theorem dXJ_bitCount_34 : decode cXJ_bitCount 34 = .ok (.iload_n 0, 1) := by decide +kernel
theorem dXJ_bitCount_35 : decode cXJ_bitCount 35 = .ok (.iload_n 0, 1) := by decide +kernel
theorem dXJ_bitCount_36 : decode cXJ_bitCount 36 = .ok (.bipush 8, 2) := by decide +kernel
theorem dXJ_bitCount_38 : decode cXJ_bitCount 38 = .ok (.iushr, 1) := by decide +kernel
theorem dXJ_bitCount_39 : decode cXJ_bitCount 39 = .ok (.iadd, 1) := by decide +kernel
theorem dXJ_bitCount_40 : decode cXJ_bitCount 40 = .ok (.istore_n 0, 1) := by decide +kernel
theorem dXJ_bitCount_41 : decode cXJ_bitCount 41 = .ok (.iload_n 0, 1) := by decide +kernel
theorem dXJ_bitCount_42 : decode cXJ_bitCount 42 = .ok (.iload_n 0, 1) := by decide +kernel
theorem dXJ_bitCount_43 : decode cXJ_bitCount 43 = .ok (.bipush 16, 2) := by decide +kernel
theorem dXJ_bitCount_45 : decode cXJ_bitCount 45 = .ok (.iushr, 1) := by decide +kernel
theorem dXJ_bitCount_46 : decode cXJ_bitCount 46 = .ok (.iadd, 1) := by decide +kernel
theorem dXJ_bitCount_47 : decode cXJ_bitCount 47 = .ok (.istore_n 0, 1) := by decide +kernel
theorem dXJ_bitCount_48 : decode cXJ_bitCount 48 = .ok (.iload_n 0, 1) := by decide +kernel
theorem dXJ_bitCount_49 : decode cXJ_bitCount 49 = .ok (.bipush 63, 2) := by decide +kernel
theorem dXJ_bitCount_51 : decode cXJ_bitCount 51 = .ok (.iand, 1) := by decide +kernel
theorem dXJ_bitCount_52 : decode cXJ_bitCount 52 = .ok (.ireturn, 1) := by decide +kernel
end
section
theorem dXM_init_0 : decode cXM_init 0 = .ok (.aload_n 0, 1) := by decide +kernel
theorem dXM_init_1 : decode cXM_init 1 = .ok (.invokespecial 1, 3) := by decide +kernel
theorem dXM_init_4 : decode cXM_init 4 = .ok (.aload_n 0, 1) := by decide +kernel
theorem dXM_init_5 : decode cXM_init 5 = .ok (.bipush 9, 2) := by decide +kernel
theorem dXM_init_7 : decode cXM_init 7 = .ok (.newarray .int, 2) := by decide +kernel
theorem dXM_init_9 : decode cXM_init 9 = .ok (.putfield 7, 3) := by decide +kernel
theorem dXM_init_12 : decode cXM_init 12 = .ok (.aload_n 0, 1) := by decide +kernel
theorem dXM_init_13 : decode cXM_init 13 = .ok (.sipush 256, 3) := by decide +kernel
theorem dXM_init_16 : decode cXM_init 16 = .ok (.newarray .int, 2) := by decide +kernel
theorem dXM_init_18 : decode cXM_init 18 = .ok (.putfield 13, 3) := by decide +kernel
theorem dXM_init_21 : decode cXM_init 21 = .ok (.aload_n 0, 1) := by decide +kernel
theorem dXM_init_22 : decode cXM_init 22 = .ok (.sipush 256, 3) := by decide +kernel
theorem dXM_init_25 : decode cXM_init 25 = .ok (.newarray .int, 2) := by decide +kernel
theorem dXM_init_27 : decode cXM_init 27 = .ok (.putfield 16, 3) := by decide +kernel
theorem dXM_init_30 : decode cXM_init 30 = .ok (.aload_n 0, 1) := by decide +kernel
theorem dXM_init_31 : decode cXM_init 31 = .ok (.bipush 16, 2) := by decide +kernel
theorem dXM_init_33 : decode cXM_init 33 = .ok (.newarray .int, 2) := by decide +kernel
theorem dXM_init_35 : decode cXM_init 35 = .ok (.putfield 19, 3) := by decide +kernel
theorem dXM_init_38 : decode cXM_init 38 = .ok (.aload_n 0, 1) := by decide +kernel
theorem dXM_init_39 : decode cXM_init 39 = .ok (.bipush 9, 2) := by decide +kernel
theorem dXM_init_41 : decode cXM_init 41 = .ok (.newarray .int, 2) := by decide +kernel
theorem dXM_init_43 : decode cXM_init 43 = .ok (.putfield 22, 3) := by decide +kernel
theorem dXM_init_46 : decode cXM_init 46 = .ok (.aload_n 0, 1) := by decide +kernel
theorem dXM_init_47 : decode cXM_init 47 = .ok (.sipush 512, 3) := by decide +kernel
theorem dXM_init_50 : decode cXM_init 50 = .ok (.newarray .int, 2) := by decide +kernel
theorem dXM_init_52 : decode cXM_init 52 = .ok (.putfield 25, 3) := by decide +kernel
theorem dXM_init_55 : decode cXM_init 55 = .ok (.aload_n 0, 1) := by decide +kernel
theorem dXM_init_56 : decode cXM_init 56 = .ok (.iload_n 1, 1) := by decide +kernel
theorem dXM_init_57 : decode cXM_init 57 = .ok (.iconst 1, 1) := by decide +kernel
theorem dXM_init_58 : decode cXM_init 58 = .ok (.if_icmp .lt 9, 3) := by decide +kernel
theorem dXM_init_61 : decode cXM_init 61 = .ok (.iload_n 1, 1) := by decide +kernel
theorem dXM_init_62 : decode cXM_init 62 = .ok (.bipush 9, 2) := by decide +kernel
theorem dXM_init_64 : decode cXM_init 64 = .ok (.if_icmp .le 8, 3) := by decide +kernel
theorem dXM_init_67 : decode cXM_init 67 = .ok (.bipush 7, 2) := by decide +kernel
theorem dXM_init_69 : decode cXM_init 69 = .ok (.goto 4, 3) := by decide +kernel
theorem dXM_init_72 : decode cXM_init 72 = .ok (.iload_n 1, 1) := by decide +kernel
theorem dXM_init_73 : decode cXM_init 73 = .ok (.putfield 28, 3) := by decide +kernel
theorem dXM_init_76 : decode cXM_init 76 = .ok (.return_, 1) := by decide +kernel
theorem dXM_vertices_0 : decode cXM_vertices 0 = .ok (.aload_n 0, 1) := by decide +kernel
theorem dXM_vertices_1 : decode cXM_vertices 1 = .ok (.getfield 28, 3) := by decide +kernel
theorem dXM_vertices_4 : decode cXM_vertices 4 = .ok (.ireturn, 1) := by decide +kernel
theorem dXM_flip_0 : decode cXM_flip 0 = .ok (.aload_n 0, 1) := by decide +kernel
theorem dXM_flip_1 : decode cXM_flip 1 = .ok (.iload_n 1, 1) := by decide +kernel
theorem dXM_flip_2 : decode cXM_flip 2 = .ok (.invokevirtual 32, 3) := by decide +kernel
theorem dXM_flip_5 : decode cXM_flip 5 = .ok (.ifCond .eq 16, 3) := by decide +kernel
theorem dXM_flip_8 : decode cXM_flip 8 = .ok (.aload_n 0, 1) := by decide +kernel
theorem dXM_flip_9 : decode cXM_flip 9 = .ok (.iload_n 2, 1) := by decide +kernel
theorem dXM_flip_10 : decode cXM_flip 10 = .ok (.invokevirtual 32, 3) := by decide +kernel
theorem dXM_flip_13 : decode cXM_flip 13 = .ok (.ifCond .eq 8, 3) := by decide +kernel
theorem dXM_flip_16 : decode cXM_flip 16 = .ok (.iload_n 1, 1) := by decide +kernel
theorem dXM_flip_17 : decode cXM_flip 17 = .ok (.iload_n 2, 1) := by decide +kernel
theorem dXM_flip_18 : decode cXM_flip 18 = .ok (.if_icmp .ne 5, 3) := by decide +kernel
theorem dXM_flip_21 : decode cXM_flip 21 = .ok (.iconst 0, 1) := by decide +kernel
theorem dXM_flip_22 : decode cXM_flip 22 = .ok (.ireturn, 1) := by decide +kernel
theorem dXM_flip_23 : decode cXM_flip 23 = .ok (.aload_n 0, 1) := by decide +kernel
theorem dXM_flip_24 : decode cXM_flip 24 = .ok (.getfield 7, 3) := by decide +kernel
theorem dXM_flip_27 : decode cXM_flip 27 = .ok (.iload_n 1, 1) := by decide +kernel
theorem dXM_flip_28 : decode cXM_flip 28 = .ok (.aload_n 0, 1) := by decide +kernel
theorem dXM_flip_29 : decode cXM_flip 29 = .ok (.getfield 7, 3) := by decide +kernel
theorem dXM_flip_32 : decode cXM_flip 32 = .ok (.iload_n 1, 1) := by decide +kernel
theorem dXM_flip_33 : decode cXM_flip 33 = .ok (.iaload, 1) := by decide +kernel
theorem dXM_flip_34 : decode cXM_flip 34 = .ok (.iconst 1, 1) := by decide +kernel
theorem dXM_flip_35 : decode cXM_flip 35 = .ok (.iload_n 2, 1) := by decide +kernel
theorem dXM_flip_36 : decode cXM_flip 36 = .ok (.ishl, 1) := by decide +kernel
theorem dXM_flip_37 : decode cXM_flip 37 = .ok (.ixor, 1) := by decide +kernel
theorem dXM_flip_38 : decode cXM_flip 38 = .ok (.iastore, 1) := by decide +kernel
theorem dXM_flip_39 : decode cXM_flip 39 = .ok (.aload_n 0, 1) := by decide +kernel
theorem dXM_flip_40 : decode cXM_flip 40 = .ok (.getfield 7, 3) := by decide +kernel
theorem dXM_flip_43 : decode cXM_flip 43 = .ok (.iload_n 2, 1) := by decide +kernel
theorem dXM_flip_44 : decode cXM_flip 44 = .ok (.aload_n 0, 1) := by decide +kernel
theorem dXM_flip_45 : decode cXM_flip 45 = .ok (.getfield 7, 3) := by decide +kernel
theorem dXM_flip_48 : decode cXM_flip 48 = .ok (.iload_n 2, 1) := by decide +kernel
theorem dXM_flip_49 : decode cXM_flip 49 = .ok (.iaload, 1) := by decide +kernel
theorem dXM_flip_50 : decode cXM_flip 50 = .ok (.iconst 1, 1) := by decide +kernel
theorem dXM_flip_51 : decode cXM_flip 51 = .ok (.iload_n 1, 1) := by decide +kernel
theorem dXM_flip_52 : decode cXM_flip 52 = .ok (.ishl, 1) := by decide +kernel
theorem dXM_flip_53 : decode cXM_flip 53 = .ok (.ixor, 1) := by decide +kernel
theorem dXM_flip_54 : decode cXM_flip 54 = .ok (.iastore, 1) := by decide +kernel
theorem dXM_flip_55 : decode cXM_flip 55 = .ok (.aload_n 0, 1) := by decide +kernel
theorem dXM_flip_56 : decode cXM_flip 56 = .ok (.getfield 7, 3) := by decide +kernel
theorem dXM_flip_59 : decode cXM_flip 59 = .ok (.iload_n 1, 1) := by decide +kernel
theorem dXM_flip_60 : decode cXM_flip 60 = .ok (.iaload, 1) := by decide +kernel
theorem dXM_flip_61 : decode cXM_flip 61 = .ok (.iload_n 2, 1) := by decide +kernel
theorem dXM_flip_62 : decode cXM_flip 62 = .ok (.ishr, 1) := by decide +kernel
theorem dXM_flip_63 : decode cXM_flip 63 = .ok (.iconst 1, 1) := by decide +kernel
theorem dXM_flip_64 : decode cXM_flip 64 = .ok (.iand, 1) := by decide +kernel
theorem dXM_flip_65 : decode cXM_flip 65 = .ok (.iconst 1, 1) := by decide +kernel
theorem dXM_flip_66 : decode cXM_flip 66 = .ok (.if_icmp .ne 7, 3) := by decide +kernel
theorem dXM_flip_69 : decode cXM_flip 69 = .ok (.iconst 1, 1) := by decide +kernel
theorem dXM_flip_70 : decode cXM_flip 70 = .ok (.goto 4, 3) := by decide +kernel
theorem dXM_flip_73 : decode cXM_flip 73 = .ok (.iconst 0, 1) := by decide +kernel
theorem dXM_flip_74 : decode cXM_flip 74 = .ok (.ireturn, 1) := by decide +kernel
theorem dXM_is_0 : decode cXM_is 0 = .ok (.iload_n 1, 1) := by decide +kernel
theorem dXM_is_1 : decode cXM_is 1 = .ok (.ifCond .lt 15, 3) := by decide +kernel
theorem dXM_is_4 : decode cXM_is 4 = .ok (.iload_n 1, 1) := by decide +kernel
theorem dXM_is_5 : decode cXM_is 5 = .ok (.aload_n 0, 1) := by decide +kernel
theorem dXM_is_6 : decode cXM_is 6 = .ok (.getfield 28, 3) := by decide +kernel
theorem dXM_is_9 : decode cXM_is 9 = .ok (.if_icmp .ge 7, 3) := by decide +kernel
theorem dXM_is_12 : decode cXM_is 12 = .ok (.iconst 1, 1) := by decide +kernel
theorem dXM_is_13 : decode cXM_is 13 = .ok (.goto 4, 3) := by decide +kernel
theorem dXM_is_16 : decode cXM_is 16 = .ok (.iconst 0, 1) := by decide +kernel
theorem dXM_is_17 : decode cXM_is 17 = .ok (.ireturn, 1) := by decide +kernel
theorem dXM_neighbours_0 : decode cXM_neighbours 0 = .ok (.aload_n 0, 1) := by decide +kernel
theorem dXM_neighbours_1 : decode cXM_neighbours 1 = .ok (.iload_n 1, 1) := by decide +kernel
theorem dXM_neighbours_2 : decode cXM_neighbours 2 = .ok (.invokevirtual 32, 3) := by decide +kernel
theorem dXM_neighbours_5 : decode cXM_neighbours 5 = .ok (.ifCond .eq 29, 3) := by decide +kernel
theorem dXM_neighbours_8 : decode cXM_neighbours 8 = .ok (.aload_n 0, 1) := by decide +kernel
theorem dXM_neighbours_9 : decode cXM_neighbours 9 = .ok (.iload_n 2, 1) := by decide +kernel
theorem dXM_neighbours_10 : decode cXM_neighbours 10 = .ok (.invokevirtual 32, 3) := by decide +kernel
theorem dXM_neighbours_13 : decode cXM_neighbours 13 = .ok (.ifCond .eq 21, 3) := by decide +kernel
theorem dXM_neighbours_16 : decode cXM_neighbours 16 = .ok (.aload_n 0, 1) := by decide +kernel
theorem dXM_neighbours_17 : decode cXM_neighbours 17 = .ok (.getfield 7, 3) := by decide +kernel
theorem dXM_neighbours_20 : decode cXM_neighbours 20 = .ok (.iload_n 1, 1) := by decide +kernel
theorem dXM_neighbours_21 : decode cXM_neighbours 21 = .ok (.iaload, 1) := by decide +kernel
theorem dXM_neighbours_22 : decode cXM_neighbours 22 = .ok (.iload_n 2, 1) := by decide +kernel
theorem dXM_neighbours_23 : decode cXM_neighbours 23 = .ok (.ishr, 1) := by decide +kernel
theorem dXM_neighbours_24 : decode cXM_neighbours 24 = .ok (.iconst 1, 1) := by decide +kernel
theorem dXM_neighbours_25 : decode cXM_neighbours 25 = .ok (.iand, 1) := by decide +kernel
theorem dXM_neighbours_26 : decode cXM_neighbours 26 = .ok (.iconst 1, 1) := by decide +kernel
theorem dXM_neighbours_27 : decode cXM_neighbours 27 = .ok (.if_icmp .ne 7, 3) := by decide +kernel
theorem dXM_neighbours_30 : decode cXM_neighbours 30 = .ok (.iconst 1, 1) := by decide +kernel
theorem dXM_neighbours_31 : decode cXM_neighbours 31 = .ok (.goto 4, 3) := by decide +kernel
theorem dXM_neighbours_34 : decode cXM_neighbours 34 = .ok (.iconst 0, 1) := by decide +kernel
theorem dXM_neighbours_35 : decode cXM_neighbours 35 = .ok (.ireturn, 1) := by decide +kernel
theorem dXM_component_0 : decode cXM_component 0 = .ok (.aload_n 0, 1) := by decide +kernel
theorem dXM_component_1 : decode cXM_component 1 = .ok (.iload_n 1, 1) := by decide +kernel
theorem dXM_component_2 : decode cXM_component 2 = .ok (.invokevirtual 32, 3) := by decide +kernel
theorem dXM_component_5 : decode cXM_component 5 = .ok (.ifCond .eq 19, 3) := by decide +kernel
theorem dXM_component_8 : decode cXM_component 8 = .ok (.aload_n 0, 1) := by decide +kernel
theorem dXM_component_9 : decode cXM_component 9 = .ok (.iload_n 1, 1) := by decide +kernel
theorem dXM_component_10 : decode cXM_component 10 = .ok (.iconst 1, 1) := by decide +kernel
theorem dXM_component_11 : decode cXM_component 11 = .ok (.aload_n 0, 1) := by decide +kernel
theorem dXM_component_12 : decode cXM_component 12 = .ok (.getfield 28, 3) := by decide +kernel
theorem dXM_component_15 : decode cXM_component 15 = .ok (.ishl, 1) := by decide +kernel
theorem dXM_component_16 : decode cXM_component 16 = .ok (.iconst 1, 1) := by decide +kernel
theorem dXM_component_17 : decode cXM_component 17 = .ok (.isub, 1) := by decide +kernel
theorem dXM_component_18 : decode cXM_component 18 = .ok (.invokevirtual 36, 3) := by decide +kernel
theorem dXM_component_21 : decode cXM_component 21 = .ok (.goto 4, 3) := by decide +kernel
theorem dXM_component_24 : decode cXM_component 24 = .ok (.iconst 0, 1) := by decide +kernel
theorem dXM_component_25 : decode cXM_component 25 = .ok (.ireturn, 1) := by decide +kernel
theorem dXM_within_0 : decode cXM_within 0 = .ok (.iconst 1, 1) := by decide +kernel
theorem dXM_within_1 : decode cXM_within 1 = .ok (.iload_n 1, 1) := by decide +kernel
theorem dXM_within_2 : decode cXM_within 2 = .ok (.ishl, 1) := by decide +kernel
theorem dXM_within_3 : decode cXM_within 3 = .ok (.istore_n 3, 1) := by decide +kernel
theorem dXM_within_4 : decode cXM_within 4 = .ok (.iconst 0, 1) := by decide +kernel
theorem dXM_within_5 : decode cXM_within 5 = .ok (.istore 4, 2) := by decide +kernel
theorem dXM_within_7 : decode cXM_within 7 = .ok (.iload 4, 2) := by decide +kernel
theorem dXM_within_9 : decode cXM_within 9 = .ok (.bipush 9, 2) := by decide +kernel
theorem dXM_within_11 : decode cXM_within 11 = .ok (.if_icmp .ge 53, 3) := by decide +kernel
theorem dXM_within_14 : decode cXM_within 14 = .ok (.iconst 0, 1) := by decide +kernel
theorem dXM_within_15 : decode cXM_within 15 = .ok (.istore 5, 2) := by decide +kernel
theorem dXM_within_17 : decode cXM_within 17 = .ok (.iload 5, 2) := by decide +kernel
theorem dXM_within_19 : decode cXM_within 19 = .ok (.aload_n 0, 1) := by decide +kernel
theorem dXM_within_20 : decode cXM_within 20 = .ok (.getfield 28, 3) := by decide +kernel
theorem dXM_within_23 : decode cXM_within 23 = .ok (.if_icmp .ge 35, 3) := by decide +kernel
theorem dXM_within_26 : decode cXM_within 26 = .ok (.iload_n 3, 1) := by decide +kernel
theorem dXM_within_27 : decode cXM_within 27 = .ok (.iload 5, 2) := by decide +kernel
theorem dXM_within_29 : decode cXM_within 29 = .ok (.ishr, 1) := by decide +kernel
theorem dXM_within_30 : decode cXM_within 30 = .ok (.iconst 1, 1) := by decide +kernel
theorem dXM_within_31 : decode cXM_within 31 = .ok (.iand, 1) := by decide +kernel
theorem dXM_within_32 : decode cXM_within 32 = .ok (.iconst 1, 1) := by decide +kernel
theorem dXM_within_33 : decode cXM_within 33 = .ok (.if_icmp .ne 17, 3) := by decide +kernel
theorem dXM_within_36 : decode cXM_within 36 = .ok (.iload_n 3, 1) := by decide +kernel
theorem dXM_within_37 : decode cXM_within 37 = .ok (.aload_n 0, 1) := by decide +kernel
theorem dXM_within_38 : decode cXM_within 38 = .ok (.getfield 7, 3) := by decide +kernel
theorem dXM_within_41 : decode cXM_within 41 = .ok (.iload 5, 2) := by decide +kernel
theorem dXM_within_43 : decode cXM_within 43 = .ok (.iaload, 1) := by decide +kernel
theorem dXM_within_44 : decode cXM_within 44 = .ok (.iload_n 2, 1) := by decide +kernel
theorem dXM_within_45 : decode cXM_within 45 = .ok (.iand, 1) := by decide +kernel
theorem dXM_within_46 : decode cXM_within 46 = .ok (.ior, 1) := by decide +kernel
theorem dXM_within_47 : decode cXM_within 47 = .ok (.goto 4, 3) := by decide +kernel
theorem dXM_within_50 : decode cXM_within 50 = .ok (.iload_n 3, 1) := by decide +kernel
theorem dXM_within_51 : decode cXM_within 51 = .ok (.istore_n 3, 1) := by decide +kernel
theorem dXM_within_52 : decode cXM_within 52 = .ok (.iinc 5 1, 3) := by decide +kernel
theorem dXM_within_55 : decode cXM_within 55 = .ok (.goto (-38), 3) := by decide +kernel
theorem dXM_within_58 : decode cXM_within 58 = .ok (.iinc 4 1, 3) := by decide +kernel
theorem dXM_within_61 : decode cXM_within 61 = .ok (.goto (-54), 3) := by decide +kernel
theorem dXM_within_64 : decode cXM_within 64 = .ok (.iload_n 3, 1) := by decide +kernel
theorem dXM_within_65 : decode cXM_within 65 = .ok (.ireturn, 1) := by decide +kernel
theorem dXM_splits_0 : decode cXM_splits 0 = .ok (.aload_n 0, 1) := by decide +kernel
theorem dXM_splits_1 : decode cXM_splits 1 = .ok (.iload_n 1, 1) := by decide +kernel
theorem dXM_splits_2 : decode cXM_splits 2 = .ok (.invokevirtual 32, 3) := by decide +kernel
theorem dXM_splits_5 : decode cXM_splits 5 = .ok (.ifCond .ne 5, 3) := by decide +kernel
theorem dXM_splits_8 : decode cXM_splits 8 = .ok (.iconst (-1), 1) := by decide +kernel
theorem dXM_splits_9 : decode cXM_splits 9 = .ok (.ireturn, 1) := by decide +kernel
theorem dXM_splits_10 : decode cXM_splits 10 = .ok (.aload_n 0, 1) := by decide +kernel
theorem dXM_splits_11 : decode cXM_splits 11 = .ok (.aload_n 0, 1) := by decide +kernel
theorem dXM_splits_12 : decode cXM_splits 12 = .ok (.iload_n 1, 1) := by decide +kernel
theorem dXM_splits_13 : decode cXM_splits 13 = .ok (.invokevirtual 60, 3) := by decide +kernel
theorem dXM_splits_16 : decode cXM_splits 16 = .ok (.invokevirtual 63, 3) := by decide +kernel
theorem dXM_splits_19 : decode cXM_splits 19 = .ok (.aload_n 0, 1) := by decide +kernel
theorem dXM_splits_20 : decode cXM_splits 20 = .ok (.getfield 40, 3) := by decide +kernel
theorem dXM_splits_23 : decode cXM_splits 23 = .ok (.ireturn, 1) := by decide +kernel
theorem dXM_find_0 : decode cXM_find 0 = .ok (.aload_n 0, 1) := by decide +kernel
theorem dXM_find_1 : decode cXM_find 1 = .ok (.iconst 0, 1) := by decide +kernel
theorem dXM_find_2 : decode cXM_find 2 = .ok (.putfield 40, 3) := by decide +kernel
theorem dXM_find_5 : decode cXM_find 5 = .ok (.iconst 1, 1) := by decide +kernel
theorem dXM_find_6 : decode cXM_find 6 = .ok (.iload_n 1, 1) := by decide +kernel
theorem dXM_find_7 : decode cXM_find 7 = .ok (.invokestatic 43, 3) := by decide +kernel
theorem dXM_find_10 : decode cXM_find 10 = .ok (.ishl, 1) := by decide +kernel
theorem dXM_find_11 : decode cXM_find 11 = .ok (.istore_n 2, 1) := by decide +kernel
theorem dXM_find_12 : decode cXM_find 12 = .ok (.iconst 0, 1) := by decide +kernel
theorem dXM_find_13 : decode cXM_find 13 = .ok (.istore_n 3, 1) := by decide +kernel
theorem dXM_find_14 : decode cXM_find 14 = .ok (.iload_n 3, 1) := by decide +kernel
theorem dXM_find_15 : decode cXM_find 15 = .ok (.sipush 512, 3) := by decide +kernel
theorem dXM_find_18 : decode cXM_find 18 = .ok (.if_icmp .ge 88, 3) := by decide +kernel
theorem dXM_find_21 : decode cXM_find 21 = .ok (.iload_n 3, 1) := by decide +kernel
theorem dXM_find_22 : decode cXM_find 22 = .ok (.iload_n 1, 1) := by decide +kernel
theorem dXM_find_23 : decode cXM_find 23 = .ok (.iconst (-1), 1) := by decide +kernel
theorem dXM_find_24 : decode cXM_find 24 = .ok (.ixor, 1) := by decide +kernel
theorem dXM_find_25 : decode cXM_find 25 = .ok (.iand, 1) := by decide +kernel
theorem dXM_find_26 : decode cXM_find 26 = .ok (.ifCond .ne 33, 3) := by decide +kernel
theorem dXM_find_29 : decode cXM_find 29 = .ok (.iload_n 3, 1) := by decide +kernel
theorem dXM_find_30 : decode cXM_find 30 = .ok (.iload_n 2, 1) := by decide +kernel
theorem dXM_find_31 : decode cXM_find 31 = .ok (.iand, 1) := by decide +kernel
theorem dXM_find_32 : decode cXM_find 32 = .ok (.ifCond .ne 27, 3) := by decide +kernel
theorem dXM_find_35 : decode cXM_find 35 = .ok (.iload_n 3, 1) := by decide +kernel
theorem dXM_find_36 : decode cXM_find 36 = .ok (.invokestatic 47, 3) := by decide +kernel
theorem dXM_find_39 : decode cXM_find 39 = .ok (.iconst 2, 1) := by decide +kernel
theorem dXM_find_40 : decode cXM_find 40 = .ok (.if_icmp .lt 19, 3) := by decide +kernel
theorem dXM_find_43 : decode cXM_find 43 = .ok (.iload_n 1, 1) := by decide +kernel
theorem dXM_find_44 : decode cXM_find 44 = .ok (.iload_n 3, 1) := by decide +kernel
theorem dXM_find_45 : decode cXM_find 45 = .ok (.iconst (-1), 1) := by decide +kernel
theorem dXM_find_46 : decode cXM_find 46 = .ok (.ixor, 1) := by decide +kernel
theorem dXM_find_47 : decode cXM_find 47 = .ok (.iand, 1) := by decide +kernel
theorem dXM_find_48 : decode cXM_find 48 = .ok (.invokestatic 47, 3) := by decide +kernel
theorem dXM_find_51 : decode cXM_find 51 = .ok (.iconst 2, 1) := by decide +kernel
theorem dXM_find_52 : decode cXM_find 52 = .ok (.if_icmp .lt 7, 3) := by decide +kernel
theorem dXM_find_55 : decode cXM_find 55 = .ok (.iconst 1, 1) := by decide +kernel
theorem dXM_find_56 : decode cXM_find 56 = .ok (.goto 4, 3) := by decide +kernel
theorem dXM_find_59 : decode cXM_find 59 = .ok (.iconst 0, 1) := by decide +kernel
theorem dXM_find_60 : decode cXM_find 60 = .ok (.istore 4, 2) := by decide +kernel
theorem dXM_find_62 : decode cXM_find 62 = .ok (.iload 4, 2) := by decide +kernel
theorem dXM_find_64 : decode cXM_find 64 = .ok (.ifCond .eq 36, 3) := by decide +kernel
theorem dXM_find_67 : decode cXM_find 67 = .ok (.aload_n 0, 1) := by decide +kernel
theorem dXM_find_68 : decode cXM_find 68 = .ok (.iload_n 3, 1) := by decide +kernel
theorem dXM_find_69 : decode cXM_find 69 = .ok (.iload_n 1, 1) := by decide +kernel
theorem dXM_find_70 : decode cXM_find 70 = .ok (.iload_n 3, 1) := by decide +kernel
theorem dXM_find_71 : decode cXM_find 71 = .ok (.iconst (-1), 1) := by decide +kernel
theorem dXM_find_72 : decode cXM_find 72 = .ok (.ixor, 1) := by decide +kernel
theorem dXM_find_73 : decode cXM_find 73 = .ok (.iand, 1) := by decide +kernel
theorem dXM_find_74 : decode cXM_find 74 = .ok (.invokevirtual 50, 3) := by decide +kernel
theorem dXM_find_77 : decode cXM_find 77 = .ok (.ifCond .eq 23, 3) := by decide +kernel
theorem dXM_find_80 : decode cXM_find 80 = .ok (.aload_n 0, 1) := by decide +kernel
theorem dXM_find_81 : decode cXM_find 81 = .ok (.getfield 13, 3) := by decide +kernel
theorem dXM_find_84 : decode cXM_find 84 = .ok (.aload_n 0, 1) := by decide +kernel
theorem dXM_find_85 : decode cXM_find 85 = .ok (.getfield 40, 3) := by decide +kernel
theorem dXM_find_88 : decode cXM_find 88 = .ok (.iload_n 3, 1) := by decide +kernel
theorem dXM_find_89 : decode cXM_find 89 = .ok (.iastore, 1) := by decide +kernel
theorem dXM_find_90 : decode cXM_find 90 = .ok (.aload_n 0, 1) := by decide +kernel
theorem dXM_find_91 : decode cXM_find 91 = .ok (.dup, 1) := by decide +kernel
theorem dXM_find_92 : decode cXM_find 92 = .ok (.getfield 40, 3) := by decide +kernel
theorem dXM_find_95 : decode cXM_find 95 = .ok (.iconst 1, 1) := by decide +kernel
theorem dXM_find_96 : decode cXM_find 96 = .ok (.iadd, 1) := by decide +kernel
theorem dXM_find_97 : decode cXM_find 97 = .ok (.putfield 40, 3) := by decide +kernel
theorem dXM_find_100 : decode cXM_find 100 = .ok (.iinc 3 1, 3) := by decide +kernel
theorem dXM_find_103 : decode cXM_find 103 = .ok (.goto (-89), 3) := by decide +kernel
theorem dXM_find_106 : decode cXM_find 106 = .ok (.aload_n 0, 1) := by decide +kernel
theorem dXM_find_107 : decode cXM_find 107 = .ok (.iconst 0, 1) := by decide +kernel
theorem dXM_find_108 : decode cXM_find 108 = .ok (.putfield 54, 3) := by decide +kernel
theorem dXM_find_111 : decode cXM_find 111 = .ok (.iconst 0, 1) := by decide +kernel
theorem dXM_find_112 : decode cXM_find 112 = .ok (.istore_n 3, 1) := by decide +kernel
theorem dXM_find_113 : decode cXM_find 113 = .ok (.iload_n 3, 1) := by decide +kernel
theorem dXM_find_114 : decode cXM_find 114 = .ok (.aload_n 0, 1) := by decide +kernel
theorem dXM_find_115 : decode cXM_find 115 = .ok (.getfield 40, 3) := by decide +kernel
theorem dXM_find_118 : decode cXM_find 118 = .ok (.if_icmp .ge 91, 3) := by decide +kernel
theorem dXM_find_121 : decode cXM_find 121 = .ok (.iconst 1, 1) := by decide +kernel
theorem dXM_find_122 : decode cXM_find 122 = .ok (.istore 4, 2) := by decide +kernel
theorem dXM_find_124 : decode cXM_find 124 = .ok (.iconst 0, 1) := by decide +kernel
theorem dXM_find_125 : decode cXM_find 125 = .ok (.istore 5, 2) := by decide +kernel
theorem dXM_find_127 : decode cXM_find 127 = .ok (.iload 5, 2) := by decide +kernel
theorem dXM_find_129 : decode cXM_find 129 = .ok (.aload_n 0, 1) := by decide +kernel
theorem dXM_find_130 : decode cXM_find 130 = .ok (.getfield 40, 3) := by decide +kernel
theorem dXM_find_133 : decode cXM_find 133 = .ok (.if_icmp .ge 40, 3) := by decide +kernel
theorem dXM_find_136 : decode cXM_find 136 = .ok (.iload 4, 2) := by decide +kernel
theorem dXM_find_138 : decode cXM_find 138 = .ok (.ifCond .eq 26, 3) := by decide +kernel
theorem dXM_find_141 : decode cXM_find 141 = .ok (.aload_n 0, 1) := by decide +kernel
theorem dXM_find_142 : decode cXM_find 142 = .ok (.getfield 13, 3) := by decide +kernel
theorem dXM_find_145 : decode cXM_find 145 = .ok (.iload_n 3, 1) := by decide +kernel
theorem dXM_find_146 : decode cXM_find 146 = .ok (.iaload, 1) := by decide +kernel
theorem dXM_find_147 : decode cXM_find 147 = .ok (.aload_n 0, 1) := by decide +kernel
theorem dXM_find_148 : decode cXM_find 148 = .ok (.getfield 13, 3) := by decide +kernel
theorem dXM_find_151 : decode cXM_find 151 = .ok (.iload 5, 2) := by decide +kernel
theorem dXM_find_153 : decode cXM_find 153 = .ok (.iaload, 1) := by decide +kernel
theorem dXM_find_154 : decode cXM_find 154 = .ok (.invokestatic 57, 3) := by decide +kernel
theorem dXM_find_157 : decode cXM_find 157 = .ok (.ifCond .ne 7, 3) := by decide +kernel
theorem dXM_find_160 : decode cXM_find 160 = .ok (.iconst 1, 1) := by decide +kernel
theorem dXM_find_161 : decode cXM_find 161 = .ok (.goto 4, 3) := by decide +kernel
theorem dXM_find_164 : decode cXM_find 164 = .ok (.iconst 0, 1) := by decide +kernel
theorem dXM_find_165 : decode cXM_find 165 = .ok (.istore 4, 2) := by decide +kernel
theorem dXM_find_167 : decode cXM_find 167 = .ok (.iinc 5 1, 3) := by decide +kernel
theorem dXM_find_170 : decode cXM_find 170 = .ok (.goto (-43), 3) := by decide +kernel
theorem dXM_find_173 : decode cXM_find 173 = .ok (.iload 4, 2) := by decide +kernel
theorem dXM_find_175 : decode cXM_find 175 = .ok (.ifCond .eq 28, 3) := by decide +kernel
theorem dXM_find_178 : decode cXM_find 178 = .ok (.aload_n 0, 1) := by decide +kernel
theorem dXM_find_179 : decode cXM_find 179 = .ok (.getfield 16, 3) := by decide +kernel
theorem dXM_find_182 : decode cXM_find 182 = .ok (.aload_n 0, 1) := by decide +kernel
theorem dXM_find_183 : decode cXM_find 183 = .ok (.getfield 54, 3) := by decide +kernel
theorem dXM_find_186 : decode cXM_find 186 = .ok (.aload_n 0, 1) := by decide +kernel
theorem dXM_find_187 : decode cXM_find 187 = .ok (.getfield 13, 3) := by decide +kernel
theorem dXM_find_190 : decode cXM_find 190 = .ok (.iload_n 3, 1) := by decide +kernel
theorem dXM_find_191 : decode cXM_find 191 = .ok (.iaload, 1) := by decide +kernel
theorem dXM_find_192 : decode cXM_find 192 = .ok (.iastore, 1) := by decide +kernel
theorem dXM_find_193 : decode cXM_find 193 = .ok (.aload_n 0, 1) := by decide +kernel
theorem dXM_find_194 : decode cXM_find 194 = .ok (.dup, 1) := by decide +kernel
theorem dXM_find_195 : decode cXM_find 195 = .ok (.getfield 54, 3) := by decide +kernel
theorem dXM_find_198 : decode cXM_find 198 = .ok (.iconst 1, 1) := by decide +kernel
theorem dXM_find_199 : decode cXM_find 199 = .ok (.iadd, 1) := by decide +kernel
theorem dXM_find_200 : decode cXM_find 200 = .ok (.putfield 54, 3) := by decide +kernel
theorem dXM_find_203 : decode cXM_find 203 = .ok (.iinc 3 1, 3) := by decide +kernel
theorem dXM_find_206 : decode cXM_find 206 = .ok (.goto (-93), 3) := by decide +kernel
theorem dXM_find_209 : decode cXM_find 209 = .ok (.return_, 1) := by decide +kernel
theorem dXM_least_0 : decode cXM_least 0 = .ok (.iconst 0, 1) := by decide +kernel
theorem dXM_least_1 : decode cXM_least 1 = .ok (.istore_n 1, 1) := by decide +kernel
theorem dXM_least_2 : decode cXM_least 2 = .ok (.iload_n 1, 1) := by decide +kernel
theorem dXM_least_3 : decode cXM_least 3 = .ok (.bipush 9, 2) := by decide +kernel
theorem dXM_least_5 : decode cXM_least 5 = .ok (.if_icmp .ge 17, 3) := by decide +kernel
theorem dXM_least_8 : decode cXM_least 8 = .ok (.iload_n 0, 1) := by decide +kernel
theorem dXM_least_9 : decode cXM_least 9 = .ok (.iload_n 1, 1) := by decide +kernel
theorem dXM_least_10 : decode cXM_least 10 = .ok (.ishr, 1) := by decide +kernel
theorem dXM_least_11 : decode cXM_least 11 = .ok (.iconst 1, 1) := by decide +kernel
theorem dXM_least_12 : decode cXM_least 12 = .ok (.iand, 1) := by decide +kernel
theorem dXM_least_13 : decode cXM_least 13 = .ok (.ifCond .ne 9, 3) := by decide +kernel
theorem dXM_least_16 : decode cXM_least 16 = .ok (.iinc 1 1, 3) := by decide +kernel
theorem dXM_least_19 : decode cXM_least 19 = .ok (.goto (-17), 3) := by decide +kernel
theorem dXM_least_22 : decode cXM_least 22 = .ok (.iload_n 1, 1) := by decide +kernel
theorem dXM_least_23 : decode cXM_least 23 = .ok (.ireturn, 1) := by decide +kernel
theorem dXM_size_0 : decode cXM_size 0 = .ok (.iconst 0, 1) := by decide +kernel
theorem dXM_size_1 : decode cXM_size 1 = .ok (.istore_n 1, 1) := by decide +kernel
theorem dXM_size_2 : decode cXM_size 2 = .ok (.iconst 0, 1) := by decide +kernel
theorem dXM_size_3 : decode cXM_size 3 = .ok (.istore_n 2, 1) := by decide +kernel
theorem dXM_size_4 : decode cXM_size 4 = .ok (.iload_n 2, 1) := by decide +kernel
theorem dXM_size_5 : decode cXM_size 5 = .ok (.bipush 9, 2) := by decide +kernel
theorem dXM_size_7 : decode cXM_size 7 = .ok (.if_icmp .ge 17, 3) := by decide +kernel
theorem dXM_size_10 : decode cXM_size 10 = .ok (.iload_n 1, 1) := by decide +kernel
theorem dXM_size_11 : decode cXM_size 11 = .ok (.iload_n 0, 1) := by decide +kernel
theorem dXM_size_12 : decode cXM_size 12 = .ok (.iload_n 2, 1) := by decide +kernel
theorem dXM_size_13 : decode cXM_size 13 = .ok (.ishr, 1) := by decide +kernel
theorem dXM_size_14 : decode cXM_size 14 = .ok (.iconst 1, 1) := by decide +kernel
theorem dXM_size_15 : decode cXM_size 15 = .ok (.iand, 1) := by decide +kernel
theorem dXM_size_16 : decode cXM_size 16 = .ok (.iadd, 1) := by decide +kernel
theorem dXM_size_17 : decode cXM_size 17 = .ok (.istore_n 1, 1) := by decide +kernel
theorem dXM_size_18 : decode cXM_size 18 = .ok (.iinc 2 1, 3) := by decide +kernel
theorem dXM_size_21 : decode cXM_size 21 = .ok (.goto (-17), 3) := by decide +kernel
theorem dXM_size_24 : decode cXM_size 24 = .ok (.iload_n 1, 1) := by decide +kernel
theorem dXM_size_25 : decode cXM_size 25 = .ok (.ireturn, 1) := by decide +kernel
theorem dXM_complete_0 : decode cXM_complete 0 = .ok (.iconst 0, 1) := by decide +kernel
theorem dXM_complete_1 : decode cXM_complete 1 = .ok (.istore_n 3, 1) := by decide +kernel
theorem dXM_complete_2 : decode cXM_complete 2 = .ok (.iconst 1, 1) := by decide +kernel
theorem dXM_complete_3 : decode cXM_complete 3 = .ok (.istore 4, 2) := by decide +kernel
theorem dXM_complete_5 : decode cXM_complete 5 = .ok (.iconst 0, 1) := by decide +kernel
theorem dXM_complete_6 : decode cXM_complete 6 = .ok (.istore 5, 2) := by decide +kernel
theorem dXM_complete_8 : decode cXM_complete 8 = .ok (.iload 5, 2) := by decide +kernel
theorem dXM_complete_10 : decode cXM_complete 10 = .ok (.aload_n 0, 1) := by decide +kernel
theorem dXM_complete_11 : decode cXM_complete 11 = .ok (.getfield 28, 3) := by decide +kernel
theorem dXM_complete_14 : decode cXM_complete 14 = .ok (.if_icmp .ge 73, 3) := by decide +kernel
theorem dXM_complete_17 : decode cXM_complete 17 = .ok (.iload_n 1, 1) := by decide +kernel
theorem dXM_complete_18 : decode cXM_complete 18 = .ok (.iload 5, 2) := by decide +kernel
theorem dXM_complete_20 : decode cXM_complete 20 = .ok (.ishr, 1) := by decide +kernel
theorem dXM_complete_21 : decode cXM_complete 21 = .ok (.iconst 1, 1) := by decide +kernel
theorem dXM_complete_22 : decode cXM_complete 22 = .ok (.iand, 1) := by decide +kernel
theorem dXM_complete_23 : decode cXM_complete 23 = .ok (.iconst 1, 1) := by decide +kernel
theorem dXM_complete_24 : decode cXM_complete 24 = .ok (.if_icmp .ne 15, 3) := by decide +kernel
theorem dXM_complete_27 : decode cXM_complete 27 = .ok (.aload_n 0, 1) := by decide +kernel
theorem dXM_complete_28 : decode cXM_complete 28 = .ok (.getfield 7, 3) := by decide +kernel
theorem dXM_complete_31 : decode cXM_complete 31 = .ok (.iload 5, 2) := by decide +kernel
theorem dXM_complete_33 : decode cXM_complete 33 = .ok (.iaload, 1) := by decide +kernel
theorem dXM_complete_34 : decode cXM_complete 34 = .ok (.iload_n 2, 1) := by decide +kernel
theorem dXM_complete_35 : decode cXM_complete 35 = .ok (.iand, 1) := by decide +kernel
theorem dXM_complete_36 : decode cXM_complete 36 = .ok (.goto 4, 3) := by decide +kernel
theorem dXM_complete_39 : decode cXM_complete 39 = .ok (.iconst 0, 1) := by decide +kernel
theorem dXM_complete_40 : decode cXM_complete 40 = .ok (.istore 6, 2) := by decide +kernel
theorem dXM_complete_42 : decode cXM_complete 42 = .ok (.iload 4, 2) := by decide +kernel
theorem dXM_complete_44 : decode cXM_complete 44 = .ok (.ifCond .eq 22, 3) := by decide +kernel
theorem dXM_complete_47 : decode cXM_complete 47 = .ok (.iload 6, 2) := by decide +kernel
theorem dXM_complete_49 : decode cXM_complete 49 = .ok (.ifCond .eq 13, 3) := by decide +kernel
theorem dXM_complete_52 : decode cXM_complete 52 = .ok (.iload_n 3, 1) := by decide +kernel
theorem dXM_complete_53 : decode cXM_complete 53 = .ok (.ifCond .eq 9, 3) := by decide +kernel
theorem dXM_complete_56 : decode cXM_complete 56 = .ok (.iload 6, 2) := by decide +kernel
theorem dXM_complete_58 : decode cXM_complete 58 = .ok (.iload_n 3, 1) := by decide +kernel
theorem dXM_complete_59 : decode cXM_complete 59 = .ok (.if_icmp .ne 7, 3) := by decide +kernel
theorem dXM_complete_62 : decode cXM_complete 62 = .ok (.iconst 1, 1) := by decide +kernel
theorem dXM_complete_63 : decode cXM_complete 63 = .ok (.goto 4, 3) := by decide +kernel
theorem dXM_complete_66 : decode cXM_complete 66 = .ok (.iconst 0, 1) := by decide +kernel
theorem dXM_complete_67 : decode cXM_complete 67 = .ok (.istore 4, 2) := by decide +kernel
theorem dXM_complete_69 : decode cXM_complete 69 = .ok (.iload 6, 2) := by decide +kernel
theorem dXM_complete_71 : decode cXM_complete 71 = .ok (.ifCond .ne 7, 3) := by decide +kernel
theorem dXM_complete_74 : decode cXM_complete 74 = .ok (.iload_n 3, 1) := by decide +kernel
theorem dXM_complete_75 : decode cXM_complete 75 = .ok (.goto 5, 3) := by decide +kernel
theorem dXM_complete_78 : decode cXM_complete 78 = .ok (.iload 6, 2) := by decide +kernel
theorem dXM_complete_80 : decode cXM_complete 80 = .ok (.istore_n 3, 1) := by decide +kernel
theorem dXM_complete_81 : decode cXM_complete 81 = .ok (.iinc 5 1, 3) := by decide +kernel
theorem dXM_complete_84 : decode cXM_complete 84 = .ok (.goto (-76), 3) := by decide +kernel
theorem dXM_complete_87 : decode cXM_complete 87 = .ok (.iload 4, 2) := by decide +kernel
theorem dXM_complete_89 : decode cXM_complete 89 = .ok (.ireturn, 1) := by decide +kernel
theorem dXM_cross_0 : decode cXM_cross 0 = .ok (.iload_n 0, 1) := by decide +kernel
theorem dXM_cross_1 : decode cXM_cross 1 = .ok (.iload_n 1, 1) := by decide +kernel
theorem dXM_cross_2 : decode cXM_cross 2 = .ok (.iand, 1) := by decide +kernel
theorem dXM_cross_3 : decode cXM_cross 3 = .ok (.ifCond .eq 23, 3) := by decide +kernel
theorem dXM_cross_6 : decode cXM_cross 6 = .ok (.iload_n 0, 1) := by decide +kernel
end
section
theorem dXM_cross_7 : decode cXM_cross 7 = .ok (.iload_n 1, 1) := by decide +kernel
theorem dXM_cross_8 : decode cXM_cross 8 = .ok (.iconst (-1), 1) := by decide +kernel
theorem dXM_cross_9 : decode cXM_cross 9 = .ok (.ixor, 1) := by decide +kernel
theorem dXM_cross_10 : decode cXM_cross 10 = .ok (.iand, 1) := by decide +kernel
theorem dXM_cross_11 : decode cXM_cross 11 = .ok (.ifCond .eq 15, 3) := by decide +kernel
theorem dXM_cross_14 : decode cXM_cross 14 = .ok (.iload_n 1, 1) := by decide +kernel
theorem dXM_cross_15 : decode cXM_cross 15 = .ok (.iload_n 0, 1) := by decide +kernel
theorem dXM_cross_16 : decode cXM_cross 16 = .ok (.iconst (-1), 1) := by decide +kernel
theorem dXM_cross_17 : decode cXM_cross 17 = .ok (.ixor, 1) := by decide +kernel
theorem dXM_cross_18 : decode cXM_cross 18 = .ok (.iand, 1) := by decide +kernel
theorem dXM_cross_19 : decode cXM_cross 19 = .ok (.ifCond .eq 7, 3) := by decide +kernel
theorem dXM_cross_22 : decode cXM_cross 22 = .ok (.iconst 1, 1) := by decide +kernel
theorem dXM_cross_23 : decode cXM_cross 23 = .ok (.goto 4, 3) := by decide +kernel
theorem dXM_cross_26 : decode cXM_cross 26 = .ok (.iconst 0, 1) := by decide +kernel
theorem dXM_cross_27 : decode cXM_cross 27 = .ok (.ireturn, 1) := by decide +kernel
theorem dXM_strong_0 : decode cXM_strong 0 = .ok (.aload_n 0, 1) := by decide +kernel
theorem dXM_strong_1 : decode cXM_strong 1 = .ok (.iload_n 1, 1) := by decide +kernel
theorem dXM_strong_2 : decode cXM_strong 2 = .ok (.invokevirtual 32, 3) := by decide +kernel
theorem dXM_strong_5 : decode cXM_strong 5 = .ok (.ifCond .ne 5, 3) := by decide +kernel
theorem dXM_strong_8 : decode cXM_strong 8 = .ok (.iconst (-1), 1) := by decide +kernel
theorem dXM_strong_9 : decode cXM_strong 9 = .ok (.ireturn, 1) := by decide +kernel
theorem dXM_strong_10 : decode cXM_strong 10 = .ok (.aload_n 0, 1) := by decide +kernel
theorem dXM_strong_11 : decode cXM_strong 11 = .ok (.aload_n 0, 1) := by decide +kernel
theorem dXM_strong_12 : decode cXM_strong 12 = .ok (.iload_n 1, 1) := by decide +kernel
theorem dXM_strong_13 : decode cXM_strong 13 = .ok (.invokevirtual 60, 3) := by decide +kernel
theorem dXM_strong_16 : decode cXM_strong 16 = .ok (.invokevirtual 63, 3) := by decide +kernel
theorem dXM_strong_19 : decode cXM_strong 19 = .ok (.aload_n 0, 1) := by decide +kernel
theorem dXM_strong_20 : decode cXM_strong 20 = .ok (.getfield 54, 3) := by decide +kernel
theorem dXM_strong_23 : decode cXM_strong 23 = .ok (.ireturn, 1) := by decide +kernel
theorem dXM_set_0 : decode cXM_set 0 = .ok (.aload_n 0, 1) := by decide +kernel
theorem dXM_set_1 : decode cXM_set 1 = .ok (.iload_n 1, 1) := by decide +kernel
theorem dXM_set_2 : decode cXM_set 2 = .ok (.iload_n 2, 1) := by decide +kernel
theorem dXM_set_3 : decode cXM_set 3 = .ok (.invokevirtual 67, 3) := by decide +kernel
theorem dXM_set_6 : decode cXM_set 6 = .ok (.ireturn, 1) := by decide +kernel
theorem dXM_nodeSet_0 : decode cXM_nodeSet 0 = .ok (.aload_n 0, 1) := by decide +kernel
theorem dXM_nodeSet_1 : decode cXM_nodeSet 1 = .ok (.iload_n 1, 1) := by decide +kernel
theorem dXM_nodeSet_2 : decode cXM_nodeSet 2 = .ok (.invokevirtual 32, 3) := by decide +kernel
theorem dXM_nodeSet_5 : decode cXM_nodeSet 5 = .ok (.ifCond .eq 7, 3) := by decide +kernel
theorem dXM_nodeSet_8 : decode cXM_nodeSet 8 = .ok (.iload_n 2, 1) := by decide +kernel
theorem dXM_nodeSet_9 : decode cXM_nodeSet 9 = .ok (.ifCond .ge 5, 3) := by decide +kernel
theorem dXM_nodeSet_12 : decode cXM_nodeSet 12 = .ok (.iconst (-1), 1) := by decide +kernel
theorem dXM_nodeSet_13 : decode cXM_nodeSet 13 = .ok (.ireturn, 1) := by decide +kernel
theorem dXM_nodeSet_14 : decode cXM_nodeSet 14 = .ok (.aload_n 0, 1) := by decide +kernel
theorem dXM_nodeSet_15 : decode cXM_nodeSet 15 = .ok (.iload_n 1, 1) := by decide +kernel
theorem dXM_nodeSet_16 : decode cXM_nodeSet 16 = .ok (.invokevirtual 60, 3) := by decide +kernel
theorem dXM_nodeSet_19 : decode cXM_nodeSet 19 = .ok (.istore_n 3, 1) := by decide +kernel
theorem dXM_nodeSet_20 : decode cXM_nodeSet 20 = .ok (.aload_n 0, 1) := by decide +kernel
theorem dXM_nodeSet_21 : decode cXM_nodeSet 21 = .ok (.iload_n 3, 1) := by decide +kernel
theorem dXM_nodeSet_22 : decode cXM_nodeSet 22 = .ok (.invokevirtual 63, 3) := by decide +kernel
theorem dXM_nodeSet_25 : decode cXM_nodeSet 25 = .ok (.iload_n 2, 1) := by decide +kernel
theorem dXM_nodeSet_26 : decode cXM_nodeSet 26 = .ok (.ifCond .ne 7, 3) := by decide +kernel
theorem dXM_nodeSet_29 : decode cXM_nodeSet 29 = .ok (.iload_n 3, 1) := by decide +kernel
theorem dXM_nodeSet_30 : decode cXM_nodeSet 30 = .ok (.goto 23, 3) := by decide +kernel
theorem dXM_nodeSet_33 : decode cXM_nodeSet 33 = .ok (.iload_n 2, 1) := by decide +kernel
theorem dXM_nodeSet_34 : decode cXM_nodeSet 34 = .ok (.aload_n 0, 1) := by decide +kernel
theorem dXM_nodeSet_35 : decode cXM_nodeSet 35 = .ok (.getfield 54, 3) := by decide +kernel
theorem dXM_nodeSet_38 : decode cXM_nodeSet 38 = .ok (.if_icmp .gt 14, 3) := by decide +kernel
theorem dXM_nodeSet_41 : decode cXM_nodeSet 41 = .ok (.aload_n 0, 1) := by decide +kernel
theorem dXM_nodeSet_42 : decode cXM_nodeSet 42 = .ok (.getfield 16, 3) := by decide +kernel
theorem dXM_nodeSet_45 : decode cXM_nodeSet 45 = .ok (.iload_n 2, 1) := by decide +kernel
theorem dXM_nodeSet_46 : decode cXM_nodeSet 46 = .ok (.iconst 1, 1) := by decide +kernel
theorem dXM_nodeSet_47 : decode cXM_nodeSet 47 = .ok (.isub, 1) := by decide +kernel
theorem dXM_nodeSet_48 : decode cXM_nodeSet 48 = .ok (.iaload, 1) := by decide +kernel
theorem dXM_nodeSet_49 : decode cXM_nodeSet 49 = .ok (.goto 4, 3) := by decide +kernel
theorem dXM_nodeSet_52 : decode cXM_nodeSet 52 = .ok (.iconst (-1), 1) := by decide +kernel
theorem dXM_nodeSet_53 : decode cXM_nodeSet 53 = .ok (.ireturn, 1) := by decide +kernel
theorem dXM_kind_0 : decode cXM_kind 0 = .ok (.aload_n 0, 1) := by decide +kernel
theorem dXM_kind_1 : decode cXM_kind 1 = .ok (.iload_n 1, 1) := by decide +kernel
theorem dXM_kind_2 : decode cXM_kind 2 = .ok (.iload_n 2, 1) := by decide +kernel
theorem dXM_kind_3 : decode cXM_kind 3 = .ok (.invokevirtual 86, 3) := by decide +kernel
theorem dXM_kind_6 : decode cXM_kind 6 = .ok (.ifCond .ne 5, 3) := by decide +kernel
theorem dXM_kind_9 : decode cXM_kind 9 = .ok (.iconst (-1), 1) := by decide +kernel
theorem dXM_kind_10 : decode cXM_kind 10 = .ok (.ireturn, 1) := by decide +kernel
theorem dXM_kind_11 : decode cXM_kind 11 = .ok (.aload_n 0, 1) := by decide +kernel
theorem dXM_kind_12 : decode cXM_kind 12 = .ok (.invokevirtual 89, 3) := by decide +kernel
theorem dXM_kind_15 : decode cXM_kind 15 = .ok (.istore_n 3, 1) := by decide +kernel
theorem dXM_kind_16 : decode cXM_kind 16 = .ok (.iload_n 3, 1) := by decide +kernel
theorem dXM_kind_17 : decode cXM_kind 17 = .ok (.bipush (-2), 2) := by decide +kernel
theorem dXM_kind_19 : decode cXM_kind 19 = .ok (.if_icmp .ne 7, 3) := by decide +kernel
theorem dXM_kind_22 : decode cXM_kind 22 = .ok (.iconst 1, 1) := by decide +kernel
theorem dXM_kind_23 : decode cXM_kind 23 = .ok (.goto 13, 3) := by decide +kernel
theorem dXM_kind_26 : decode cXM_kind 26 = .ok (.iload_n 3, 1) := by decide +kernel
theorem dXM_kind_27 : decode cXM_kind 27 = .ok (.iconst (-1), 1) := by decide +kernel
theorem dXM_kind_28 : decode cXM_kind 28 = .ok (.if_icmp .ne 7, 3) := by decide +kernel
theorem dXM_kind_31 : decode cXM_kind 31 = .ok (.iconst 3, 1) := by decide +kernel
theorem dXM_kind_32 : decode cXM_kind 32 = .ok (.goto 4, 3) := by decide +kernel
theorem dXM_kind_35 : decode cXM_kind 35 = .ok (.iconst 2, 1) := by decide +kernel
theorem dXM_kind_36 : decode cXM_kind 36 = .ok (.ireturn, 1) := by decide +kernel
theorem dXM_open_0 : decode cXM_open 0 = .ok (.aload_n 0, 1) := by decide +kernel
theorem dXM_open_1 : decode cXM_open 1 = .ok (.iload_n 1, 1) := by decide +kernel
theorem dXM_open_2 : decode cXM_open 2 = .ok (.iload_n 2, 1) := by decide +kernel
theorem dXM_open_3 : decode cXM_open 3 = .ok (.invokevirtual 67, 3) := by decide +kernel
theorem dXM_open_6 : decode cXM_open 6 = .ok (.istore_n 3, 1) := by decide +kernel
theorem dXM_open_7 : decode cXM_open 7 = .ok (.iload_n 3, 1) := by decide +kernel
theorem dXM_open_8 : decode cXM_open 8 = .ok (.iconst (-1), 1) := by decide +kernel
theorem dXM_open_9 : decode cXM_open 9 = .ok (.if_icmp .ne 5, 3) := by decide +kernel
theorem dXM_open_12 : decode cXM_open 12 = .ok (.iconst 0, 1) := by decide +kernel
theorem dXM_open_13 : decode cXM_open 13 = .ok (.ireturn, 1) := by decide +kernel
theorem dXM_open_14 : decode cXM_open 14 = .ok (.aload_n 0, 1) := by decide +kernel
theorem dXM_open_15 : decode cXM_open 15 = .ok (.iload_n 1, 1) := by decide +kernel
theorem dXM_open_16 : decode cXM_open 16 = .ok (.invokevirtual 60, 3) := by decide +kernel
theorem dXM_open_19 : decode cXM_open 19 = .ok (.istore 4, 2) := by decide +kernel
theorem dXM_open_21 : decode cXM_open 21 = .ok (.aload_n 0, 1) := by decide +kernel
theorem dXM_open_22 : decode cXM_open 22 = .ok (.iconst 0, 1) := by decide +kernel
theorem dXM_open_23 : decode cXM_open 23 = .ok (.putfield 73, 3) := by decide +kernel
theorem dXM_open_26 : decode cXM_open 26 = .ok (.iconst 1, 1) := by decide +kernel
theorem dXM_open_27 : decode cXM_open 27 = .ok (.istore 5, 2) := by decide +kernel
theorem dXM_open_29 : decode cXM_open 29 = .ok (.iload 5, 2) := by decide +kernel
theorem dXM_open_31 : decode cXM_open 31 = .ok (.sipush 512, 3) := by decide +kernel
theorem dXM_open_34 : decode cXM_open 34 = .ok (.if_icmp .ge 51, 3) := by decide +kernel
theorem dXM_open_37 : decode cXM_open 37 = .ok (.aload_n 0, 1) := by decide +kernel
theorem dXM_open_38 : decode cXM_open 38 = .ok (.iload 5, 2) := by decide +kernel
theorem dXM_open_40 : decode cXM_open 40 = .ok (.iload_n 3, 1) := by decide +kernel
theorem dXM_open_41 : decode cXM_open 41 = .ok (.iload 4, 2) := by decide +kernel
theorem dXM_open_43 : decode cXM_open 43 = .ok (.iload_n 2, 1) := by decide +kernel
theorem dXM_open_44 : decode cXM_open 44 = .ok (.ifCond .ne 7, 3) := by decide +kernel
theorem dXM_open_47 : decode cXM_open 47 = .ok (.iconst 1, 1) := by decide +kernel
theorem dXM_open_48 : decode cXM_open 48 = .ok (.goto 4, 3) := by decide +kernel
theorem dXM_open_51 : decode cXM_open 51 = .ok (.iconst 0, 1) := by decide +kernel
theorem dXM_open_52 : decode cXM_open 52 = .ok (.invokevirtual 76, 3) := by decide +kernel
theorem dXM_open_55 : decode cXM_open 55 = .ok (.ifCond .eq 24, 3) := by decide +kernel
theorem dXM_open_58 : decode cXM_open 58 = .ok (.aload_n 0, 1) := by decide +kernel
theorem dXM_open_59 : decode cXM_open 59 = .ok (.getfield 19, 3) := by decide +kernel
theorem dXM_open_62 : decode cXM_open 62 = .ok (.aload_n 0, 1) := by decide +kernel
theorem dXM_open_63 : decode cXM_open 63 = .ok (.getfield 73, 3) := by decide +kernel
theorem dXM_open_66 : decode cXM_open 66 = .ok (.iload 5, 2) := by decide +kernel
theorem dXM_open_68 : decode cXM_open 68 = .ok (.iastore, 1) := by decide +kernel
theorem dXM_open_69 : decode cXM_open 69 = .ok (.aload_n 0, 1) := by decide +kernel
theorem dXM_open_70 : decode cXM_open 70 = .ok (.dup, 1) := by decide +kernel
theorem dXM_open_71 : decode cXM_open 71 = .ok (.getfield 73, 3) := by decide +kernel
theorem dXM_open_74 : decode cXM_open 74 = .ok (.iconst 1, 1) := by decide +kernel
theorem dXM_open_75 : decode cXM_open 75 = .ok (.iadd, 1) := by decide +kernel
theorem dXM_open_76 : decode cXM_open 76 = .ok (.putfield 73, 3) := by decide +kernel
theorem dXM_open_79 : decode cXM_open 79 = .ok (.iinc 5 1, 3) := by decide +kernel
theorem dXM_open_82 : decode cXM_open 82 = .ok (.goto (-53), 3) := by decide +kernel
theorem dXM_open_85 : decode cXM_open 85 = .ok (.iconst 1, 1) := by decide +kernel
theorem dXM_open_86 : decode cXM_open 86 = .ok (.ireturn, 1) := by decide +kernel
theorem dXM_isPart_0 : decode cXM_isPart 0 = .ok (.iload 4, 2) := by decide +kernel
theorem dXM_isPart_2 : decode cXM_isPart 2 = .ok (.ifCond .ne 14, 3) := by decide +kernel
theorem dXM_isPart_5 : decode cXM_isPart 5 = .ok (.iload_n 1, 1) := by decide +kernel
theorem dXM_isPart_6 : decode cXM_isPart 6 = .ok (.iload_n 3, 1) := by decide +kernel
theorem dXM_isPart_7 : decode cXM_isPart 7 = .ok (.iload_n 2, 1) := by decide +kernel
theorem dXM_isPart_8 : decode cXM_isPart 8 = .ok (.iconst (-1), 1) := by decide +kernel
theorem dXM_isPart_9 : decode cXM_isPart 9 = .ok (.ixor, 1) := by decide +kernel
theorem dXM_isPart_10 : decode cXM_isPart 10 = .ok (.iand, 1) := by decide +kernel
theorem dXM_isPart_11 : decode cXM_isPart 11 = .ok (.if_icmp .ne 5, 3) := by decide +kernel
theorem dXM_isPart_14 : decode cXM_isPart 14 = .ok (.iconst 1, 1) := by decide +kernel
theorem dXM_isPart_15 : decode cXM_isPart 15 = .ok (.ireturn, 1) := by decide +kernel
theorem dXM_isPart_16 : decode cXM_isPart 16 = .ok (.iload_n 1, 1) := by decide +kernel
theorem dXM_isPart_17 : decode cXM_isPart 17 = .ok (.invokestatic 47, 3) := by decide +kernel
theorem dXM_isPart_20 : decode cXM_isPart 20 = .ok (.iconst 1, 1) := by decide +kernel
theorem dXM_isPart_21 : decode cXM_isPart 21 = .ok (.if_icmp .ne 13, 3) := by decide +kernel
theorem dXM_isPart_24 : decode cXM_isPart 24 = .ok (.iload_n 1, 1) := by decide +kernel
theorem dXM_isPart_25 : decode cXM_isPart 25 = .ok (.iload_n 2, 1) := by decide +kernel
theorem dXM_isPart_26 : decode cXM_isPart 26 = .ok (.iand, 1) := by decide +kernel
theorem dXM_isPart_27 : decode cXM_isPart 27 = .ok (.ifCond .eq 7, 3) := by decide +kernel
theorem dXM_isPart_30 : decode cXM_isPart 30 = .ok (.iconst 1, 1) := by decide +kernel
theorem dXM_isPart_31 : decode cXM_isPart 31 = .ok (.goto 4, 3) := by decide +kernel
theorem dXM_isPart_34 : decode cXM_isPart 34 = .ok (.iconst 0, 1) := by decide +kernel
theorem dXM_isPart_35 : decode cXM_isPart 35 = .ok (.istore 5, 2) := by decide +kernel
theorem dXM_isPart_37 : decode cXM_isPart 37 = .ok (.iconst 0, 1) := by decide +kernel
theorem dXM_isPart_38 : decode cXM_isPart 38 = .ok (.istore 6, 2) := by decide +kernel
theorem dXM_isPart_40 : decode cXM_isPart 40 = .ok (.iconst 0, 1) := by decide +kernel
theorem dXM_isPart_41 : decode cXM_isPart 41 = .ok (.istore 7, 2) := by decide +kernel
theorem dXM_isPart_43 : decode cXM_isPart 43 = .ok (.iconst 0, 1) := by decide +kernel
theorem dXM_isPart_44 : decode cXM_isPart 44 = .ok (.istore 8, 2) := by decide +kernel
theorem dXM_isPart_46 : decode cXM_isPart 46 = .ok (.iload 8, 2) := by decide +kernel
theorem dXM_isPart_48 : decode cXM_isPart 48 = .ok (.aload_n 0, 1) := by decide +kernel
theorem dXM_isPart_49 : decode cXM_isPart 49 = .ok (.getfield 54, 3) := by decide +kernel
theorem dXM_isPart_52 : decode cXM_isPart 52 = .ok (.if_icmp .ge 81, 3) := by decide +kernel
theorem dXM_isPart_55 : decode cXM_isPart 55 = .ok (.aload_n 0, 1) := by decide +kernel
theorem dXM_isPart_56 : decode cXM_isPart 56 = .ok (.getfield 16, 3) := by decide +kernel
theorem dXM_isPart_59 : decode cXM_isPart 59 = .ok (.iload 8, 2) := by decide +kernel
theorem dXM_isPart_61 : decode cXM_isPart 61 = .ok (.iaload, 1) := by decide +kernel
theorem dXM_isPart_62 : decode cXM_isPart 62 = .ok (.iload_n 2, 1) := by decide +kernel
theorem dXM_isPart_63 : decode cXM_isPart 63 = .ok (.invokestatic 70, 3) := by decide +kernel
theorem dXM_isPart_66 : decode cXM_isPart 66 = .ok (.istore 9, 2) := by decide +kernel
theorem dXM_isPart_68 : decode cXM_isPart 68 = .ok (.iload 6, 2) := by decide +kernel
theorem dXM_isPart_70 : decode cXM_isPart 70 = .ok (.ifCond .ne 19, 3) := by decide +kernel
theorem dXM_isPart_73 : decode cXM_isPart 73 = .ok (.iload 9, 2) := by decide +kernel
theorem dXM_isPart_75 : decode cXM_isPart 75 = .ok (.ifCond .eq 18, 3) := by decide +kernel
theorem dXM_isPart_78 : decode cXM_isPart 78 = .ok (.aload_n 0, 1) := by decide +kernel
theorem dXM_isPart_79 : decode cXM_isPart 79 = .ok (.getfield 16, 3) := by decide +kernel
theorem dXM_isPart_82 : decode cXM_isPart 82 = .ok (.iload 8, 2) := by decide +kernel
theorem dXM_isPart_84 : decode cXM_isPart 84 = .ok (.iaload, 1) := by decide +kernel
theorem dXM_isPart_85 : decode cXM_isPart 85 = .ok (.iload_n 1, 1) := by decide +kernel
theorem dXM_isPart_86 : decode cXM_isPart 86 = .ok (.if_icmp .ne 7, 3) := by decide +kernel
theorem dXM_isPart_89 : decode cXM_isPart 89 = .ok (.iconst 1, 1) := by decide +kernel
theorem dXM_isPart_90 : decode cXM_isPart 90 = .ok (.goto 4, 3) := by decide +kernel
theorem dXM_isPart_93 : decode cXM_isPart 93 = .ok (.iconst 0, 1) := by decide +kernel
theorem dXM_isPart_94 : decode cXM_isPart 94 = .ok (.istore 6, 2) := by decide +kernel
theorem dXM_isPart_96 : decode cXM_isPart 96 = .ok (.iload 7, 2) := by decide +kernel
theorem dXM_isPart_98 : decode cXM_isPart 98 = .ok (.ifCond .ne 22, 3) := by decide +kernel
theorem dXM_isPart_101 : decode cXM_isPart 101 = .ok (.iload 9, 2) := by decide +kernel
theorem dXM_isPart_103 : decode cXM_isPart 103 = .ok (.ifCond .eq 21, 3) := by decide +kernel
theorem dXM_isPart_106 : decode cXM_isPart 106 = .ok (.iload_n 1, 1) := by decide +kernel
theorem dXM_isPart_107 : decode cXM_isPart 107 = .ok (.aload_n 0, 1) := by decide +kernel
theorem dXM_isPart_108 : decode cXM_isPart 108 = .ok (.getfield 16, 3) := by decide +kernel
theorem dXM_isPart_111 : decode cXM_isPart 111 = .ok (.iload 8, 2) := by decide +kernel
theorem dXM_isPart_113 : decode cXM_isPart 113 = .ok (.iaload, 1) := by decide +kernel
theorem dXM_isPart_114 : decode cXM_isPart 114 = .ok (.invokestatic 70, 3) := by decide +kernel
theorem dXM_isPart_117 : decode cXM_isPart 117 = .ok (.ifCond .eq 7, 3) := by decide +kernel
theorem dXM_isPart_120 : decode cXM_isPart 120 = .ok (.iconst 1, 1) := by decide +kernel
theorem dXM_isPart_121 : decode cXM_isPart 121 = .ok (.goto 4, 3) := by decide +kernel
theorem dXM_isPart_124 : decode cXM_isPart 124 = .ok (.iconst 0, 1) := by decide +kernel
theorem dXM_isPart_125 : decode cXM_isPart 125 = .ok (.istore 7, 2) := by decide +kernel
theorem dXM_isPart_127 : decode cXM_isPart 127 = .ok (.iinc 8 1, 3) := by decide +kernel
theorem dXM_isPart_130 : decode cXM_isPart 130 = .ok (.goto (-84), 3) := by decide +kernel
theorem dXM_isPart_133 : decode cXM_isPart 133 = .ok (.iload 5, 2) := by decide +kernel
theorem dXM_isPart_135 : decode cXM_isPart 135 = .ok (.ifCond .ne 8, 3) := by decide +kernel
theorem dXM_isPart_138 : decode cXM_isPart 138 = .ok (.iload 6, 2) := by decide +kernel
theorem dXM_isPart_140 : decode cXM_isPart 140 = .ok (.ifCond .eq 12, 3) := by decide +kernel
theorem dXM_isPart_143 : decode cXM_isPart 143 = .ok (.iload 7, 2) := by decide +kernel
theorem dXM_isPart_145 : decode cXM_isPart 145 = .ok (.ifCond .ne 7, 3) := by decide +kernel
theorem dXM_isPart_148 : decode cXM_isPart 148 = .ok (.iconst 1, 1) := by decide +kernel
theorem dXM_isPart_149 : decode cXM_isPart 149 = .ok (.goto 4, 3) := by decide +kernel
theorem dXM_isPart_152 : decode cXM_isPart 152 = .ok (.iconst 0, 1) := by decide +kernel
theorem dXM_isPart_153 : decode cXM_isPart 153 = .ok (.ireturn, 1) := by decide +kernel
theorem dXM_inside_0 : decode cXM_inside 0 = .ok (.iload_n 0, 1) := by decide +kernel
theorem dXM_inside_1 : decode cXM_inside 1 = .ok (.iload_n 1, 1) := by decide +kernel
theorem dXM_inside_2 : decode cXM_inside 2 = .ok (.if_icmp .eq 15, 3) := by decide +kernel
theorem dXM_inside_5 : decode cXM_inside 5 = .ok (.iload_n 0, 1) := by decide +kernel
theorem dXM_inside_6 : decode cXM_inside 6 = .ok (.iload_n 1, 1) := by decide +kernel
theorem dXM_inside_7 : decode cXM_inside 7 = .ok (.iconst (-1), 1) := by decide +kernel
theorem dXM_inside_8 : decode cXM_inside 8 = .ok (.ixor, 1) := by decide +kernel
theorem dXM_inside_9 : decode cXM_inside 9 = .ok (.iand, 1) := by decide +kernel
theorem dXM_inside_10 : decode cXM_inside 10 = .ok (.ifCond .ne 7, 3) := by decide +kernel
theorem dXM_inside_13 : decode cXM_inside 13 = .ok (.iconst 1, 1) := by decide +kernel
theorem dXM_inside_14 : decode cXM_inside 14 = .ok (.goto 4, 3) := by decide +kernel
theorem dXM_inside_17 : decode cXM_inside 17 = .ok (.iconst 0, 1) := by decide +kernel
theorem dXM_inside_18 : decode cXM_inside 18 = .ok (.ireturn, 1) := by decide +kernel
theorem dXM_middle_0 : decode cXM_middle 0 = .ok (.iconst 0, 1) := by decide +kernel
theorem dXM_middle_1 : decode cXM_middle 1 = .ok (.istore_n 1, 1) := by decide +kernel
theorem dXM_middle_2 : decode cXM_middle 2 = .ok (.iconst (-1), 1) := by decide +kernel
theorem dXM_middle_3 : decode cXM_middle 3 = .ok (.istore_n 2, 1) := by decide +kernel
theorem dXM_middle_4 : decode cXM_middle 4 = .ok (.iconst 0, 1) := by decide +kernel
theorem dXM_middle_5 : decode cXM_middle 5 = .ok (.istore_n 3, 1) := by decide +kernel
theorem dXM_middle_6 : decode cXM_middle 6 = .ok (.iload_n 3, 1) := by decide +kernel
theorem dXM_middle_7 : decode cXM_middle 7 = .ok (.aload_n 0, 1) := by decide +kernel
theorem dXM_middle_8 : decode cXM_middle 8 = .ok (.getfield 73, 3) := by decide +kernel
theorem dXM_middle_11 : decode cXM_middle 11 = .ok (.if_icmp .ge 42, 3) := by decide +kernel
theorem dXM_middle_14 : decode cXM_middle 14 = .ok (.iload_n 1, 1) := by decide +kernel
theorem dXM_middle_15 : decode cXM_middle 15 = .ok (.aload_n 0, 1) := by decide +kernel
theorem dXM_middle_16 : decode cXM_middle 16 = .ok (.iload_n 3, 1) := by decide +kernel
theorem dXM_middle_17 : decode cXM_middle 17 = .ok (.invokevirtual 83, 3) := by decide +kernel
theorem dXM_middle_20 : decode cXM_middle 20 = .ok (.iadd, 1) := by decide +kernel
theorem dXM_middle_21 : decode cXM_middle 21 = .ok (.istore_n 1, 1) := by decide +kernel
theorem dXM_middle_22 : decode cXM_middle 22 = .ok (.aload_n 0, 1) := by decide +kernel
theorem dXM_middle_23 : decode cXM_middle 23 = .ok (.iload_n 3, 1) := by decide +kernel
theorem dXM_middle_24 : decode cXM_middle 24 = .ok (.invokevirtual 83, 3) := by decide +kernel
theorem dXM_middle_27 : decode cXM_middle 27 = .ok (.aload_n 0, 1) := by decide +kernel
theorem dXM_middle_28 : decode cXM_middle 28 = .ok (.getfield 73, 3) := by decide +kernel
theorem dXM_middle_31 : decode cXM_middle 31 = .ok (.iconst 1, 1) := by decide +kernel
theorem dXM_middle_32 : decode cXM_middle 32 = .ok (.isub, 1) := by decide +kernel
theorem dXM_middle_33 : decode cXM_middle 33 = .ok (.if_icmp .ne 12, 3) := by decide +kernel
theorem dXM_middle_36 : decode cXM_middle 36 = .ok (.iload_n 2, 1) := by decide +kernel
theorem dXM_middle_37 : decode cXM_middle 37 = .ok (.iconst (-1), 1) := by decide +kernel
theorem dXM_middle_38 : decode cXM_middle 38 = .ok (.if_icmp .ne 7, 3) := by decide +kernel
theorem dXM_middle_41 : decode cXM_middle 41 = .ok (.iload_n 3, 1) := by decide +kernel
theorem dXM_middle_42 : decode cXM_middle 42 = .ok (.goto 4, 3) := by decide +kernel
theorem dXM_middle_45 : decode cXM_middle 45 = .ok (.iload_n 2, 1) := by decide +kernel
theorem dXM_middle_46 : decode cXM_middle 46 = .ok (.istore_n 2, 1) := by decide +kernel
theorem dXM_middle_47 : decode cXM_middle 47 = .ok (.iinc 3 1, 3) := by decide +kernel
theorem dXM_middle_50 : decode cXM_middle 50 = .ok (.goto (-44), 3) := by decide +kernel
theorem dXM_middle_53 : decode cXM_middle 53 = .ok (.iload_n 1, 1) := by decide +kernel
theorem dXM_middle_54 : decode cXM_middle 54 = .ok (.aload_n 0, 1) := by decide +kernel
theorem dXM_middle_55 : decode cXM_middle 55 = .ok (.getfield 73, 3) := by decide +kernel
theorem dXM_middle_58 : decode cXM_middle 58 = .ok (.aload_n 0, 1) := by decide +kernel
theorem dXM_middle_59 : decode cXM_middle 59 = .ok (.getfield 73, 3) := by decide +kernel
theorem dXM_middle_62 : decode cXM_middle 62 = .ok (.iconst 1, 1) := by decide +kernel
theorem dXM_middle_63 : decode cXM_middle 63 = .ok (.isub, 1) := by decide +kernel
theorem dXM_middle_64 : decode cXM_middle 64 = .ok (.imul, 1) := by decide +kernel
theorem dXM_middle_65 : decode cXM_middle 65 = .ok (.if_icmp .ne 6, 3) := by decide +kernel
theorem dXM_middle_68 : decode cXM_middle 68 = .ok (.bipush (-2), 2) := by decide +kernel
theorem dXM_middle_70 : decode cXM_middle 70 = .ok (.ireturn, 1) := by decide +kernel
theorem dXM_middle_71 : decode cXM_middle 71 = .ok (.iload_n 2, 1) := by decide +kernel
theorem dXM_middle_72 : decode cXM_middle 72 = .ok (.iconst (-1), 1) := by decide +kernel
theorem dXM_middle_73 : decode cXM_middle 73 = .ok (.if_icmp .eq 19, 3) := by decide +kernel
theorem dXM_middle_76 : decode cXM_middle 76 = .ok (.iload_n 1, 1) := by decide +kernel
theorem dXM_middle_77 : decode cXM_middle 77 = .ok (.iconst 2, 1) := by decide +kernel
theorem dXM_middle_78 : decode cXM_middle 78 = .ok (.aload_n 0, 1) := by decide +kernel
theorem dXM_middle_79 : decode cXM_middle 79 = .ok (.getfield 73, 3) := by decide +kernel
theorem dXM_middle_82 : decode cXM_middle 82 = .ok (.iconst 1, 1) := by decide +kernel
theorem dXM_middle_83 : decode cXM_middle 83 = .ok (.isub, 1) := by decide +kernel
theorem dXM_middle_84 : decode cXM_middle 84 = .ok (.imul, 1) := by decide +kernel
theorem dXM_middle_85 : decode cXM_middle 85 = .ok (.if_icmp .ne 7, 3) := by decide +kernel
theorem dXM_middle_88 : decode cXM_middle 88 = .ok (.iload_n 2, 1) := by decide +kernel
theorem dXM_middle_89 : decode cXM_middle 89 = .ok (.goto 4, 3) := by decide +kernel
theorem dXM_middle_92 : decode cXM_middle 92 = .ok (.iconst (-1), 1) := by decide +kernel
theorem dXM_middle_93 : decode cXM_middle 93 = .ok (.ireturn, 1) := by decide +kernel
theorem dXM_links_0 : decode cXM_links 0 = .ok (.iconst 0, 1) := by decide +kernel
theorem dXM_links_1 : decode cXM_links 1 = .ok (.istore_n 2, 1) := by decide +kernel
theorem dXM_links_2 : decode cXM_links 2 = .ok (.iconst 0, 1) := by decide +kernel
theorem dXM_links_3 : decode cXM_links 3 = .ok (.istore_n 3, 1) := by decide +kernel
theorem dXM_links_4 : decode cXM_links 4 = .ok (.iload_n 3, 1) := by decide +kernel
theorem dXM_links_5 : decode cXM_links 5 = .ok (.aload_n 0, 1) := by decide +kernel
theorem dXM_links_6 : decode cXM_links 6 = .ok (.getfield 73, 3) := by decide +kernel
theorem dXM_links_9 : decode cXM_links 9 = .ok (.if_icmp .ge 41, 3) := by decide +kernel
theorem dXM_links_12 : decode cXM_links 12 = .ok (.iload_n 2, 1) := by decide +kernel
theorem dXM_links_13 : decode cXM_links 13 = .ok (.iload_n 3, 1) := by decide +kernel
theorem dXM_links_14 : decode cXM_links 14 = .ok (.iload_n 1, 1) := by decide +kernel
theorem dXM_links_15 : decode cXM_links 15 = .ok (.if_icmp .eq 26, 3) := by decide +kernel
theorem dXM_links_18 : decode cXM_links 18 = .ok (.aload_n 0, 1) := by decide +kernel
theorem dXM_links_19 : decode cXM_links 19 = .ok (.aload_n 0, 1) := by decide +kernel
theorem dXM_links_20 : decode cXM_links 20 = .ok (.getfield 19, 3) := by decide +kernel
theorem dXM_links_23 : decode cXM_links 23 = .ok (.iload_n 1, 1) := by decide +kernel
theorem dXM_links_24 : decode cXM_links 24 = .ok (.iaload, 1) := by decide +kernel
theorem dXM_links_25 : decode cXM_links 25 = .ok (.aload_n 0, 1) := by decide +kernel
theorem dXM_links_26 : decode cXM_links 26 = .ok (.getfield 19, 3) := by decide +kernel
theorem dXM_links_29 : decode cXM_links 29 = .ok (.iload_n 3, 1) := by decide +kernel
theorem dXM_links_30 : decode cXM_links 30 = .ok (.iaload, 1) := by decide +kernel
theorem dXM_links_31 : decode cXM_links 31 = .ok (.invokevirtual 80, 3) := by decide +kernel
theorem dXM_links_34 : decode cXM_links 34 = .ok (.ifCond .eq 7, 3) := by decide +kernel
theorem dXM_links_37 : decode cXM_links 37 = .ok (.iconst 1, 1) := by decide +kernel
theorem dXM_links_38 : decode cXM_links 38 = .ok (.goto 4, 3) := by decide +kernel
theorem dXM_links_41 : decode cXM_links 41 = .ok (.iconst 0, 1) := by decide +kernel
theorem dXM_links_42 : decode cXM_links 42 = .ok (.iadd, 1) := by decide +kernel
theorem dXM_links_43 : decode cXM_links 43 = .ok (.istore_n 2, 1) := by decide +kernel
theorem dXM_links_44 : decode cXM_links 44 = .ok (.iinc 3 1, 3) := by decide +kernel
theorem dXM_links_47 : decode cXM_links 47 = .ok (.goto (-43), 3) := by decide +kernel
theorem dXM_links_50 : decode cXM_links 50 = .ok (.iload_n 2, 1) := by decide +kernel
theorem dXM_links_51 : decode cXM_links 51 = .ok (.ireturn, 1) := by decide +kernel
theorem dXM_joined_0 : decode cXM_joined 0 = .ok (.iconst 0, 1) := by decide +kernel
theorem dXM_joined_1 : decode cXM_joined 1 = .ok (.istore_n 3, 1) := by decide +kernel
theorem dXM_joined_2 : decode cXM_joined 2 = .ok (.iconst 0, 1) := by decide +kernel
theorem dXM_joined_3 : decode cXM_joined 3 = .ok (.istore 4, 2) := by decide +kernel
theorem dXM_joined_5 : decode cXM_joined 5 = .ok (.iload 4, 2) := by decide +kernel
theorem dXM_joined_7 : decode cXM_joined 7 = .ok (.aload_n 0, 1) := by decide +kernel
theorem dXM_joined_8 : decode cXM_joined 8 = .ok (.getfield 28, 3) := by decide +kernel
theorem dXM_joined_11 : decode cXM_joined 11 = .ok (.if_icmp .ge 41, 3) := by decide +kernel
theorem dXM_joined_14 : decode cXM_joined 14 = .ok (.iload_n 3, 1) := by decide +kernel
theorem dXM_joined_15 : decode cXM_joined 15 = .ok (.ifCond .ne 25, 3) := by decide +kernel
theorem dXM_joined_18 : decode cXM_joined 18 = .ok (.iload_n 1, 1) := by decide +kernel
theorem dXM_joined_19 : decode cXM_joined 19 = .ok (.iload 4, 2) := by decide +kernel
theorem dXM_joined_21 : decode cXM_joined 21 = .ok (.ishr, 1) := by decide +kernel
theorem dXM_joined_22 : decode cXM_joined 22 = .ok (.iconst 1, 1) := by decide +kernel
theorem dXM_joined_23 : decode cXM_joined 23 = .ok (.iand, 1) := by decide +kernel
theorem dXM_joined_24 : decode cXM_joined 24 = .ok (.iconst 1, 1) := by decide +kernel
theorem dXM_joined_25 : decode cXM_joined 25 = .ok (.if_icmp .ne 19, 3) := by decide +kernel
theorem dXM_joined_28 : decode cXM_joined 28 = .ok (.aload_n 0, 1) := by decide +kernel
theorem dXM_joined_29 : decode cXM_joined 29 = .ok (.getfield 7, 3) := by decide +kernel
theorem dXM_joined_32 : decode cXM_joined 32 = .ok (.iload 4, 2) := by decide +kernel
theorem dXM_joined_34 : decode cXM_joined 34 = .ok (.iaload, 1) := by decide +kernel
theorem dXM_joined_35 : decode cXM_joined 35 = .ok (.iload_n 2, 1) := by decide +kernel
theorem dXM_joined_36 : decode cXM_joined 36 = .ok (.iand, 1) := by decide +kernel
theorem dXM_joined_37 : decode cXM_joined 37 = .ok (.ifCond .eq 7, 3) := by decide +kernel
theorem dXM_joined_40 : decode cXM_joined 40 = .ok (.iconst 1, 1) := by decide +kernel
theorem dXM_joined_41 : decode cXM_joined 41 = .ok (.goto 4, 3) := by decide +kernel
theorem dXM_joined_44 : decode cXM_joined 44 = .ok (.iconst 0, 1) := by decide +kernel
theorem dXM_joined_45 : decode cXM_joined 45 = .ok (.istore_n 3, 1) := by decide +kernel
theorem dXM_joined_46 : decode cXM_joined 46 = .ok (.iinc 4 1, 3) := by decide +kernel
theorem dXM_joined_49 : decode cXM_joined 49 = .ok (.goto (-44), 3) := by decide +kernel
theorem dXM_joined_52 : decode cXM_joined 52 = .ok (.iload_n 3, 1) := by decide +kernel
theorem dXM_joined_53 : decode cXM_joined 53 = .ok (.ireturn, 1) := by decide +kernel
theorem dXM_parts_0 : decode cXM_parts 0 = .ok (.aload_n 0, 1) := by decide +kernel
theorem dXM_parts_1 : decode cXM_parts 1 = .ok (.iload_n 1, 1) := by decide +kernel
theorem dXM_parts_2 : decode cXM_parts 2 = .ok (.iload_n 2, 1) := by decide +kernel
theorem dXM_parts_3 : decode cXM_parts 3 = .ok (.invokevirtual 86, 3) := by decide +kernel
theorem dXM_parts_6 : decode cXM_parts 6 = .ok (.ifCond .eq 10, 3) := by decide +kernel
theorem dXM_parts_9 : decode cXM_parts 9 = .ok (.aload_n 0, 1) := by decide +kernel
theorem dXM_parts_10 : decode cXM_parts 10 = .ok (.getfield 73, 3) := by decide +kernel
theorem dXM_parts_13 : decode cXM_parts 13 = .ok (.goto 4, 3) := by decide +kernel
theorem dXM_parts_16 : decode cXM_parts 16 = .ok (.iconst (-1), 1) := by decide +kernel
theorem dXM_parts_17 : decode cXM_parts 17 = .ok (.ireturn, 1) := by decide +kernel
theorem dXM_part_0 : decode cXM_part 0 = .ok (.aload_n 0, 1) := by decide +kernel
theorem dXM_part_1 : decode cXM_part 1 = .ok (.iload_n 1, 1) := by decide +kernel
theorem dXM_part_2 : decode cXM_part 2 = .ok (.iload_n 2, 1) := by decide +kernel
theorem dXM_part_3 : decode cXM_part 3 = .ok (.invokevirtual 86, 3) := by decide +kernel
theorem dXM_part_6 : decode cXM_part 6 = .ok (.ifCond .eq 24, 3) := by decide +kernel
theorem dXM_part_9 : decode cXM_part 9 = .ok (.iload_n 3, 1) := by decide +kernel
theorem dXM_part_10 : decode cXM_part 10 = .ok (.ifCond .lt 20, 3) := by decide +kernel
theorem dXM_part_13 : decode cXM_part 13 = .ok (.iload_n 3, 1) := by decide +kernel
theorem dXM_part_14 : decode cXM_part 14 = .ok (.aload_n 0, 1) := by decide +kernel
theorem dXM_part_15 : decode cXM_part 15 = .ok (.getfield 73, 3) := by decide +kernel
theorem dXM_part_18 : decode cXM_part 18 = .ok (.if_icmp .ge 12, 3) := by decide +kernel
theorem dXM_part_21 : decode cXM_part 21 = .ok (.aload_n 0, 1) := by decide +kernel
theorem dXM_part_22 : decode cXM_part 22 = .ok (.getfield 19, 3) := by decide +kernel
theorem dXM_part_25 : decode cXM_part 25 = .ok (.iload_n 3, 1) := by decide +kernel
theorem dXM_part_26 : decode cXM_part 26 = .ok (.iaload, 1) := by decide +kernel
theorem dXM_part_27 : decode cXM_part 27 = .ok (.goto 4, 3) := by decide +kernel
theorem dXM_part_30 : decode cXM_part 30 = .ok (.iconst (-1), 1) := by decide +kernel
theorem dXM_part_31 : decode cXM_part 31 = .ok (.ireturn, 1) := by decide +kernel
theorem dXM_centre_0 : decode cXM_centre 0 = .ok (.aload_n 0, 1) := by decide +kernel
theorem dXM_centre_1 : decode cXM_centre 1 = .ok (.iload_n 1, 1) := by decide +kernel
theorem dXM_centre_2 : decode cXM_centre 2 = .ok (.iload_n 2, 1) := by decide +kernel
theorem dXM_centre_3 : decode cXM_centre 3 = .ok (.invokevirtual 86, 3) := by decide +kernel
theorem dXM_centre_6 : decode cXM_centre 6 = .ok (.ifCond .ne 5, 3) := by decide +kernel
theorem dXM_centre_9 : decode cXM_centre 9 = .ok (.iconst (-1), 1) := by decide +kernel
theorem dXM_centre_10 : decode cXM_centre 10 = .ok (.ireturn, 1) := by decide +kernel
theorem dXM_centre_11 : decode cXM_centre 11 = .ok (.aload_n 0, 1) := by decide +kernel
theorem dXM_centre_12 : decode cXM_centre 12 = .ok (.invokevirtual 89, 3) := by decide +kernel
theorem dXM_centre_15 : decode cXM_centre 15 = .ok (.istore_n 3, 1) := by decide +kernel
theorem dXM_centre_16 : decode cXM_centre 16 = .ok (.iload_n 3, 1) := by decide +kernel
theorem dXM_centre_17 : decode cXM_centre 17 = .ok (.ifCond .lt 12, 3) := by decide +kernel
theorem dXM_centre_20 : decode cXM_centre 20 = .ok (.aload_n 0, 1) := by decide +kernel
theorem dXM_centre_21 : decode cXM_centre 21 = .ok (.getfield 19, 3) := by decide +kernel
theorem dXM_centre_24 : decode cXM_centre 24 = .ok (.iload_n 3, 1) := by decide +kernel
theorem dXM_centre_25 : decode cXM_centre 25 = .ok (.iaload, 1) := by decide +kernel
theorem dXM_centre_26 : decode cXM_centre 26 = .ok (.goto 4, 3) := by decide +kernel
theorem dXM_centre_29 : decode cXM_centre 29 = .ok (.iconst (-1), 1) := by decide +kernel
end
section
theorem dXM_centre_30 : decode cXM_centre 30 = .ok (.ireturn, 1) := by decide +kernel
theorem dXM_linked_0 : decode cXM_linked 0 = .ok (.aload_n 0, 1) := by decide +kernel
theorem dXM_linked_1 : decode cXM_linked 1 = .ok (.iload_n 1, 1) := by decide +kernel
theorem dXM_linked_2 : decode cXM_linked 2 = .ok (.invokevirtual 32, 3) := by decide +kernel
theorem dXM_linked_5 : decode cXM_linked 5 = .ok (.ifCond .eq 28, 3) := by decide +kernel
theorem dXM_linked_8 : decode cXM_linked 8 = .ok (.aload_n 0, 1) := by decide +kernel
theorem dXM_linked_9 : decode cXM_linked 9 = .ok (.iload_n 2, 1) := by decide +kernel
theorem dXM_linked_10 : decode cXM_linked 10 = .ok (.invokevirtual 32, 3) := by decide +kernel
theorem dXM_linked_13 : decode cXM_linked 13 = .ok (.ifCond .eq 20, 3) := by decide +kernel
theorem dXM_linked_16 : decode cXM_linked 16 = .ok (.iload_n 1, 1) := by decide +kernel
theorem dXM_linked_17 : decode cXM_linked 17 = .ok (.iload_n 2, 1) := by decide +kernel
theorem dXM_linked_18 : decode cXM_linked 18 = .ok (.if_icmp .eq 15, 3) := by decide +kernel
theorem dXM_linked_21 : decode cXM_linked 21 = .ok (.aload_n 0, 1) := by decide +kernel
theorem dXM_linked_22 : decode cXM_linked 22 = .ok (.iload_n 1, 1) := by decide +kernel
theorem dXM_linked_23 : decode cXM_linked 23 = .ok (.invokevirtual 60, 3) := by decide +kernel
theorem dXM_linked_26 : decode cXM_linked 26 = .ok (.iload_n 2, 1) := by decide +kernel
theorem dXM_linked_27 : decode cXM_linked 27 = .ok (.ishr, 1) := by decide +kernel
theorem dXM_linked_28 : decode cXM_linked 28 = .ok (.iconst 1, 1) := by decide +kernel
theorem dXM_linked_29 : decode cXM_linked 29 = .ok (.iand, 1) := by decide +kernel
theorem dXM_linked_30 : decode cXM_linked 30 = .ok (.ifCond .ne 5, 3) := by decide +kernel
theorem dXM_linked_33 : decode cXM_linked 33 = .ok (.iconst 0, 1) := by decide +kernel
theorem dXM_linked_34 : decode cXM_linked 34 = .ok (.ireturn, 1) := by decide +kernel
theorem dXM_linked_35 : decode cXM_linked 35 = .ok (.aload_n 0, 1) := by decide +kernel
theorem dXM_linked_36 : decode cXM_linked 36 = .ok (.aload_n 0, 1) := by decide +kernel
theorem dXM_linked_37 : decode cXM_linked 37 = .ok (.iload_n 1, 1) := by decide +kernel
theorem dXM_linked_38 : decode cXM_linked 38 = .ok (.invokevirtual 60, 3) := by decide +kernel
theorem dXM_linked_41 : decode cXM_linked 41 = .ok (.invokevirtual 63, 3) := by decide +kernel
theorem dXM_linked_44 : decode cXM_linked 44 = .ok (.aload_n 0, 1) := by decide +kernel
theorem dXM_linked_45 : decode cXM_linked 45 = .ok (.getfield 54, 3) := by decide +kernel
theorem dXM_linked_48 : decode cXM_linked 48 = .ok (.iconst 1, 1) := by decide +kernel
theorem dXM_linked_49 : decode cXM_linked 49 = .ok (.iadd, 1) := by decide +kernel
theorem dXM_linked_50 : decode cXM_linked 50 = .ok (.istore_n 3, 1) := by decide +kernel
theorem dXM_linked_51 : decode cXM_linked 51 = .ok (.iconst 1, 1) := by decide +kernel
theorem dXM_linked_52 : decode cXM_linked 52 = .ok (.istore 4, 2) := by decide +kernel
theorem dXM_linked_54 : decode cXM_linked 54 = .ok (.iconst 0, 1) := by decide +kernel
theorem dXM_linked_55 : decode cXM_linked 55 = .ok (.istore 5, 2) := by decide +kernel
theorem dXM_linked_57 : decode cXM_linked 57 = .ok (.iload 5, 2) := by decide +kernel
theorem dXM_linked_59 : decode cXM_linked 59 = .ok (.iload_n 3, 1) := by decide +kernel
theorem dXM_linked_60 : decode cXM_linked 60 = .ok (.if_icmp .ge 77, 3) := by decide +kernel
theorem dXM_linked_63 : decode cXM_linked 63 = .ok (.iload 4, 2) := by decide +kernel
theorem dXM_linked_65 : decode cXM_linked 65 = .ok (.ifCond .eq 72, 3) := by decide +kernel
theorem dXM_linked_68 : decode cXM_linked 68 = .ok (.aload_n 0, 1) := by decide +kernel
theorem dXM_linked_69 : decode cXM_linked 69 = .ok (.iload_n 1, 1) := by decide +kernel
theorem dXM_linked_70 : decode cXM_linked 70 = .ok (.iload 5, 2) := by decide +kernel
theorem dXM_linked_72 : decode cXM_linked 72 = .ok (.invokevirtual 86, 3) := by decide +kernel
theorem dXM_linked_75 : decode cXM_linked 75 = .ok (.istore 6, 2) := by decide +kernel
theorem dXM_linked_77 : decode cXM_linked 77 = .ok (.aload_n 0, 1) := by decide +kernel
theorem dXM_linked_78 : decode cXM_linked 78 = .ok (.iload_n 1, 1) := by decide +kernel
theorem dXM_linked_79 : decode cXM_linked 79 = .ok (.invokevirtual 93, 3) := by decide +kernel
theorem dXM_linked_82 : decode cXM_linked 82 = .ok (.istore 7, 2) := by decide +kernel
theorem dXM_linked_84 : decode cXM_linked 84 = .ok (.aload_n 0, 1) := by decide +kernel
theorem dXM_linked_85 : decode cXM_linked 85 = .ok (.iload_n 2, 1) := by decide +kernel
theorem dXM_linked_86 : decode cXM_linked 86 = .ok (.invokevirtual 93, 3) := by decide +kernel
theorem dXM_linked_89 : decode cXM_linked 89 = .ok (.istore 8, 2) := by decide +kernel
theorem dXM_linked_91 : decode cXM_linked 91 = .ok (.iload 6, 2) := by decide +kernel
theorem dXM_linked_93 : decode cXM_linked 93 = .ok (.ifCond .eq 35, 3) := by decide +kernel
theorem dXM_linked_96 : decode cXM_linked 96 = .ok (.iload 7, 2) := by decide +kernel
theorem dXM_linked_98 : decode cXM_linked 98 = .ok (.iload 8, 2) := by decide +kernel
theorem dXM_linked_100 : decode cXM_linked 100 = .ok (.if_icmp .eq 24, 3) := by decide +kernel
theorem dXM_linked_103 : decode cXM_linked 103 = .ok (.aload_n 0, 1) := by decide +kernel
theorem dXM_linked_104 : decode cXM_linked 104 = .ok (.aload_n 0, 1) := by decide +kernel
theorem dXM_linked_105 : decode cXM_linked 105 = .ok (.getfield 19, 3) := by decide +kernel
theorem dXM_linked_108 : decode cXM_linked 108 = .ok (.iload 7, 2) := by decide +kernel
theorem dXM_linked_110 : decode cXM_linked 110 = .ok (.iaload, 1) := by decide +kernel
theorem dXM_linked_111 : decode cXM_linked 111 = .ok (.aload_n 0, 1) := by decide +kernel
theorem dXM_linked_112 : decode cXM_linked 112 = .ok (.getfield 19, 3) := by decide +kernel
theorem dXM_linked_115 : decode cXM_linked 115 = .ok (.iload 8, 2) := by decide +kernel
theorem dXM_linked_117 : decode cXM_linked 117 = .ok (.iaload, 1) := by decide +kernel
theorem dXM_linked_118 : decode cXM_linked 118 = .ok (.invokevirtual 80, 3) := by decide +kernel
theorem dXM_linked_121 : decode cXM_linked 121 = .ok (.ifCond .eq 7, 3) := by decide +kernel
theorem dXM_linked_124 : decode cXM_linked 124 = .ok (.iconst 1, 1) := by decide +kernel
theorem dXM_linked_125 : decode cXM_linked 125 = .ok (.goto 4, 3) := by decide +kernel
theorem dXM_linked_128 : decode cXM_linked 128 = .ok (.iconst 0, 1) := by decide +kernel
theorem dXM_linked_129 : decode cXM_linked 129 = .ok (.istore 4, 2) := by decide +kernel
theorem dXM_linked_131 : decode cXM_linked 131 = .ok (.iinc 5 1, 3) := by decide +kernel
theorem dXM_linked_134 : decode cXM_linked 134 = .ok (.goto (-77), 3) := by decide +kernel
theorem dXM_linked_137 : decode cXM_linked 137 = .ok (.iload 4, 2) := by decide +kernel
theorem dXM_linked_139 : decode cXM_linked 139 = .ok (.ireturn, 1) := by decide +kernel
theorem dXM_partOf_0 : decode cXM_partOf 0 = .ok (.iconst 0, 1) := by decide +kernel
theorem dXM_partOf_1 : decode cXM_partOf 1 = .ok (.istore_n 2, 1) := by decide +kernel
theorem dXM_partOf_2 : decode cXM_partOf 2 = .ok (.iconst 0, 1) := by decide +kernel
theorem dXM_partOf_3 : decode cXM_partOf 3 = .ok (.istore_n 3, 1) := by decide +kernel
theorem dXM_partOf_4 : decode cXM_partOf 4 = .ok (.iload_n 3, 1) := by decide +kernel
theorem dXM_partOf_5 : decode cXM_partOf 5 = .ok (.aload_n 0, 1) := by decide +kernel
theorem dXM_partOf_6 : decode cXM_partOf 6 = .ok (.getfield 73, 3) := by decide +kernel
theorem dXM_partOf_9 : decode cXM_partOf 9 = .ok (.if_icmp .ge 29, 3) := by decide +kernel
theorem dXM_partOf_12 : decode cXM_partOf 12 = .ok (.aload_n 0, 1) := by decide +kernel
theorem dXM_partOf_13 : decode cXM_partOf 13 = .ok (.getfield 19, 3) := by decide +kernel
theorem dXM_partOf_16 : decode cXM_partOf 16 = .ok (.iload_n 3, 1) := by decide +kernel
theorem dXM_partOf_17 : decode cXM_partOf 17 = .ok (.iaload, 1) := by decide +kernel
theorem dXM_partOf_18 : decode cXM_partOf 18 = .ok (.iload_n 1, 1) := by decide +kernel
theorem dXM_partOf_19 : decode cXM_partOf 19 = .ok (.ishr, 1) := by decide +kernel
theorem dXM_partOf_20 : decode cXM_partOf 20 = .ok (.iconst 1, 1) := by decide +kernel
theorem dXM_partOf_21 : decode cXM_partOf 21 = .ok (.iand, 1) := by decide +kernel
theorem dXM_partOf_22 : decode cXM_partOf 22 = .ok (.iconst 1, 1) := by decide +kernel
theorem dXM_partOf_23 : decode cXM_partOf 23 = .ok (.if_icmp .ne 7, 3) := by decide +kernel
theorem dXM_partOf_26 : decode cXM_partOf 26 = .ok (.iload_n 3, 1) := by decide +kernel
theorem dXM_partOf_27 : decode cXM_partOf 27 = .ok (.goto 4, 3) := by decide +kernel
theorem dXM_partOf_30 : decode cXM_partOf 30 = .ok (.iload_n 2, 1) := by decide +kernel
theorem dXM_partOf_31 : decode cXM_partOf 31 = .ok (.istore_n 2, 1) := by decide +kernel
theorem dXM_partOf_32 : decode cXM_partOf 32 = .ok (.iinc 3 1, 3) := by decide +kernel
theorem dXM_partOf_35 : decode cXM_partOf 35 = .ok (.goto (-31), 3) := by decide +kernel
theorem dXM_partOf_38 : decode cXM_partOf 38 = .ok (.iload_n 2, 1) := by decide +kernel
theorem dXM_partOf_39 : decode cXM_partOf 39 = .ok (.ireturn, 1) := by decide +kernel
theorem dXM_hereditary_0 : decode cXM_hereditary 0 = .ok (.aload_n 0, 1) := by decide +kernel
theorem dXM_hereditary_1 : decode cXM_hereditary 1 = .ok (.iload_n 1, 1) := by decide +kernel
theorem dXM_hereditary_2 : decode cXM_hereditary 2 = .ok (.invokevirtual 32, 3) := by decide +kernel
theorem dXM_hereditary_5 : decode cXM_hereditary 5 = .ok (.ifCond .eq 19, 3) := by decide +kernel
theorem dXM_hereditary_8 : decode cXM_hereditary 8 = .ok (.aload_n 0, 1) := by decide +kernel
theorem dXM_hereditary_9 : decode cXM_hereditary 9 = .ok (.aload_n 0, 1) := by decide +kernel
theorem dXM_hereditary_10 : decode cXM_hereditary 10 = .ok (.iload_n 1, 1) := by decide +kernel
theorem dXM_hereditary_11 : decode cXM_hereditary 11 = .ok (.invokevirtual 60, 3) := by decide +kernel
theorem dXM_hereditary_14 : decode cXM_hereditary 14 = .ok (.invokevirtual 109, 3) := by decide +kernel
theorem dXM_hereditary_17 : decode cXM_hereditary 17 = .ok (.ifCond .eq 7, 3) := by decide +kernel
theorem dXM_hereditary_20 : decode cXM_hereditary 20 = .ok (.iconst 1, 1) := by decide +kernel
theorem dXM_hereditary_21 : decode cXM_hereditary 21 = .ok (.goto 4, 3) := by decide +kernel
theorem dXM_hereditary_24 : decode cXM_hereditary 24 = .ok (.iconst 0, 1) := by decide +kernel
theorem dXM_hereditary_25 : decode cXM_hereditary 25 = .ok (.ireturn, 1) := by decide +kernel
theorem dXM_fine_0 : decode cXM_fine 0 = .ok (.iconst 1, 1) := by decide +kernel
theorem dXM_fine_1 : decode cXM_fine 1 = .ok (.istore_n 2, 1) := by decide +kernel
theorem dXM_fine_2 : decode cXM_fine 2 = .ok (.iconst 0, 1) := by decide +kernel
theorem dXM_fine_3 : decode cXM_fine 3 = .ok (.istore_n 3, 1) := by decide +kernel
theorem dXM_fine_4 : decode cXM_fine 4 = .ok (.iload_n 3, 1) := by decide +kernel
theorem dXM_fine_5 : decode cXM_fine 5 = .ok (.aload_n 0, 1) := by decide +kernel
theorem dXM_fine_6 : decode cXM_fine 6 = .ok (.getfield 28, 3) := by decide +kernel
theorem dXM_fine_9 : decode cXM_fine 9 = .ok (.if_icmp .ge 37, 3) := by decide +kernel
theorem dXM_fine_12 : decode cXM_fine 12 = .ok (.iload_n 2, 1) := by decide +kernel
theorem dXM_fine_13 : decode cXM_fine 13 = .ok (.ifCond .eq 33, 3) := by decide +kernel
theorem dXM_fine_16 : decode cXM_fine 16 = .ok (.iload_n 1, 1) := by decide +kernel
theorem dXM_fine_17 : decode cXM_fine 17 = .ok (.iload_n 3, 1) := by decide +kernel
theorem dXM_fine_18 : decode cXM_fine 18 = .ok (.ishr, 1) := by decide +kernel
theorem dXM_fine_19 : decode cXM_fine 19 = .ok (.iconst 1, 1) := by decide +kernel
theorem dXM_fine_20 : decode cXM_fine 20 = .ok (.iand, 1) := by decide +kernel
theorem dXM_fine_21 : decode cXM_fine 21 = .ok (.iconst 1, 1) := by decide +kernel
theorem dXM_fine_22 : decode cXM_fine 22 = .ok (.if_icmp .ne 18, 3) := by decide +kernel
theorem dXM_fine_25 : decode cXM_fine 25 = .ok (.aload_n 0, 1) := by decide +kernel
theorem dXM_fine_26 : decode cXM_fine 26 = .ok (.aload_n 0, 1) := by decide +kernel
theorem dXM_fine_27 : decode cXM_fine 27 = .ok (.iload_n 3, 1) := by decide +kernel
theorem dXM_fine_28 : decode cXM_fine 28 = .ok (.iload_n 1, 1) := by decide +kernel
theorem dXM_fine_29 : decode cXM_fine 29 = .ok (.invokevirtual 36, 3) := by decide +kernel
theorem dXM_fine_32 : decode cXM_fine 32 = .ok (.invokevirtual 106, 3) := by decide +kernel
theorem dXM_fine_35 : decode cXM_fine 35 = .ok (.aload_n 0, 1) := by decide +kernel
theorem dXM_fine_36 : decode cXM_fine 36 = .ok (.getfield 102, 3) := by decide +kernel
theorem dXM_fine_39 : decode cXM_fine 39 = .ok (.istore_n 2, 1) := by decide +kernel
theorem dXM_fine_40 : decode cXM_fine 40 = .ok (.iinc 3 1, 3) := by decide +kernel
theorem dXM_fine_43 : decode cXM_fine 43 = .ok (.goto (-39), 3) := by decide +kernel
theorem dXM_fine_46 : decode cXM_fine 46 = .ok (.iload_n 2, 1) := by decide +kernel
theorem dXM_fine_47 : decode cXM_fine 47 = .ok (.ireturn, 1) := by decide +kernel
theorem dXM_eliminate_0 : decode cXM_eliminate 0 = .ok (.iload_n 1, 1) := by decide +kernel
theorem dXM_eliminate_1 : decode cXM_eliminate 1 = .ok (.istore_n 2, 1) := by decide +kernel
theorem dXM_eliminate_2 : decode cXM_eliminate 2 = .ok (.aload_n 0, 1) := by decide +kernel
theorem dXM_eliminate_3 : decode cXM_eliminate 3 = .ok (.iconst 0, 1) := by decide +kernel
theorem dXM_eliminate_4 : decode cXM_eliminate 4 = .ok (.putfield 96, 3) := by decide +kernel
theorem dXM_eliminate_7 : decode cXM_eliminate 7 = .ok (.iload_n 2, 1) := by decide +kernel
theorem dXM_eliminate_8 : decode cXM_eliminate 8 = .ok (.invokestatic 47, 3) := by decide +kernel
theorem dXM_eliminate_11 : decode cXM_eliminate 11 = .ok (.iconst 1, 1) := by decide +kernel
theorem dXM_eliminate_12 : decode cXM_eliminate 12 = .ok (.if_icmp .le 7, 3) := by decide +kernel
theorem dXM_eliminate_15 : decode cXM_eliminate 15 = .ok (.iconst 1, 1) := by decide +kernel
theorem dXM_eliminate_16 : decode cXM_eliminate 16 = .ok (.goto 4, 3) := by decide +kernel
theorem dXM_eliminate_19 : decode cXM_eliminate 19 = .ok (.iconst 0, 1) := by decide +kernel
theorem dXM_eliminate_20 : decode cXM_eliminate 20 = .ok (.istore_n 3, 1) := by decide +kernel
theorem dXM_eliminate_21 : decode cXM_eliminate 21 = .ok (.iload_n 3, 1) := by decide +kernel
theorem dXM_eliminate_22 : decode cXM_eliminate 22 = .ok (.ifCond .eq 106, 3) := by decide +kernel
theorem dXM_eliminate_25 : decode cXM_eliminate 25 = .ok (.bipush 8, 2) := by decide +kernel
theorem dXM_eliminate_27 : decode cXM_eliminate 27 = .ok (.istore 4, 2) := by decide +kernel
theorem dXM_eliminate_29 : decode cXM_eliminate 29 = .ok (.iload 4, 2) := by decide +kernel
theorem dXM_eliminate_31 : decode cXM_eliminate 31 = .ok (.ifCond .lt 29, 3) := by decide +kernel
theorem dXM_eliminate_34 : decode cXM_eliminate 34 = .ok (.iload_n 2, 1) := by decide +kernel
theorem dXM_eliminate_35 : decode cXM_eliminate 35 = .ok (.iload 4, 2) := by decide +kernel
theorem dXM_eliminate_37 : decode cXM_eliminate 37 = .ok (.ishr, 1) := by decide +kernel
theorem dXM_eliminate_38 : decode cXM_eliminate 38 = .ok (.iconst 1, 1) := by decide +kernel
theorem dXM_eliminate_39 : decode cXM_eliminate 39 = .ok (.iand, 1) := by decide +kernel
theorem dXM_eliminate_40 : decode cXM_eliminate 40 = .ok (.ifCond .eq 14, 3) := by decide +kernel
theorem dXM_eliminate_43 : decode cXM_eliminate 43 = .ok (.aload_n 0, 1) := by decide +kernel
theorem dXM_eliminate_44 : decode cXM_eliminate 44 = .ok (.iload 4, 2) := by decide +kernel
theorem dXM_eliminate_46 : decode cXM_eliminate 46 = .ok (.iload_n 2, 1) := by decide +kernel
theorem dXM_eliminate_47 : decode cXM_eliminate 47 = .ok (.invokevirtual 99, 3) := by decide +kernel
theorem dXM_eliminate_50 : decode cXM_eliminate 50 = .ok (.iconst (-1), 1) := by decide +kernel
theorem dXM_eliminate_51 : decode cXM_eliminate 51 = .ok (.if_icmp .ne 9, 3) := by decide +kernel
theorem dXM_eliminate_54 : decode cXM_eliminate 54 = .ok (.iinc 4 (-1), 3) := by decide +kernel
theorem dXM_eliminate_57 : decode cXM_eliminate 57 = .ok (.goto (-28), 3) := by decide +kernel
theorem dXM_eliminate_60 : decode cXM_eliminate 60 = .ok (.iload 4, 2) := by decide +kernel
theorem dXM_eliminate_62 : decode cXM_eliminate 62 = .ok (.ifCond .lt 44, 3) := by decide +kernel
theorem dXM_eliminate_65 : decode cXM_eliminate 65 = .ok (.aload_n 0, 1) := by decide +kernel
theorem dXM_eliminate_66 : decode cXM_eliminate 66 = .ok (.getfield 22, 3) := by decide +kernel
theorem dXM_eliminate_69 : decode cXM_eliminate 69 = .ok (.aload_n 0, 1) := by decide +kernel
theorem dXM_eliminate_70 : decode cXM_eliminate 70 = .ok (.getfield 96, 3) := by decide +kernel
theorem dXM_eliminate_73 : decode cXM_eliminate 73 = .ok (.iload 4, 2) := by decide +kernel
theorem dXM_eliminate_75 : decode cXM_eliminate 75 = .ok (.bipush 16, 2) := by decide +kernel
theorem dXM_eliminate_77 : decode cXM_eliminate 77 = .ok (.aload_n 0, 1) := by decide +kernel
theorem dXM_eliminate_78 : decode cXM_eliminate 78 = .ok (.iload 4, 2) := by decide +kernel
theorem dXM_eliminate_80 : decode cXM_eliminate 80 = .ok (.iload_n 2, 1) := by decide +kernel
theorem dXM_eliminate_81 : decode cXM_eliminate 81 = .ok (.invokevirtual 99, 3) := by decide +kernel
theorem dXM_eliminate_84 : decode cXM_eliminate 84 = .ok (.imul, 1) := by decide +kernel
theorem dXM_eliminate_85 : decode cXM_eliminate 85 = .ok (.iadd, 1) := by decide +kernel
theorem dXM_eliminate_86 : decode cXM_eliminate 86 = .ok (.iastore, 1) := by decide +kernel
theorem dXM_eliminate_87 : decode cXM_eliminate 87 = .ok (.aload_n 0, 1) := by decide +kernel
theorem dXM_eliminate_88 : decode cXM_eliminate 88 = .ok (.dup, 1) := by decide +kernel
theorem dXM_eliminate_89 : decode cXM_eliminate 89 = .ok (.getfield 96, 3) := by decide +kernel
theorem dXM_eliminate_92 : decode cXM_eliminate 92 = .ok (.iconst 1, 1) := by decide +kernel
theorem dXM_eliminate_93 : decode cXM_eliminate 93 = .ok (.iadd, 1) := by decide +kernel
theorem dXM_eliminate_94 : decode cXM_eliminate 94 = .ok (.putfield 96, 3) := by decide +kernel
theorem dXM_eliminate_97 : decode cXM_eliminate 97 = .ok (.iload_n 2, 1) := by decide +kernel
theorem dXM_eliminate_98 : decode cXM_eliminate 98 = .ok (.iconst 1, 1) := by decide +kernel
theorem dXM_eliminate_99 : decode cXM_eliminate 99 = .ok (.iload 4, 2) := by decide +kernel
theorem dXM_eliminate_101 : decode cXM_eliminate 101 = .ok (.ishl, 1) := by decide +kernel
theorem dXM_eliminate_102 : decode cXM_eliminate 102 = .ok (.iconst (-1), 1) := by decide +kernel
theorem dXM_eliminate_103 : decode cXM_eliminate 103 = .ok (.ixor, 1) := by decide +kernel
theorem dXM_eliminate_104 : decode cXM_eliminate 104 = .ok (.iand, 1) := by decide +kernel
theorem dXM_eliminate_105 : decode cXM_eliminate 105 = .ok (.istore_n 2, 1) := by decide +kernel
theorem dXM_eliminate_106 : decode cXM_eliminate 106 = .ok (.iload 4, 2) := by decide +kernel
theorem dXM_eliminate_108 : decode cXM_eliminate 108 = .ok (.ifCond .lt 15, 3) := by decide +kernel
theorem dXM_eliminate_111 : decode cXM_eliminate 111 = .ok (.iload_n 2, 1) := by decide +kernel
theorem dXM_eliminate_112 : decode cXM_eliminate 112 = .ok (.invokestatic 47, 3) := by decide +kernel
theorem dXM_eliminate_115 : decode cXM_eliminate 115 = .ok (.iconst 1, 1) := by decide +kernel
theorem dXM_eliminate_116 : decode cXM_eliminate 116 = .ok (.if_icmp .le 7, 3) := by decide +kernel
theorem dXM_eliminate_119 : decode cXM_eliminate 119 = .ok (.iconst 1, 1) := by decide +kernel
theorem dXM_eliminate_120 : decode cXM_eliminate 120 = .ok (.goto 4, 3) := by decide +kernel
theorem dXM_eliminate_123 : decode cXM_eliminate 123 = .ok (.iconst 0, 1) := by decide +kernel
theorem dXM_eliminate_124 : decode cXM_eliminate 124 = .ok (.istore_n 3, 1) := by decide +kernel
theorem dXM_eliminate_125 : decode cXM_eliminate 125 = .ok (.goto (-104), 3) := by decide +kernel
theorem dXM_eliminate_128 : decode cXM_eliminate 128 = .ok (.aload_n 0, 1) := by decide +kernel
theorem dXM_eliminate_129 : decode cXM_eliminate 129 = .ok (.iload_n 2, 1) := by decide +kernel
theorem dXM_eliminate_130 : decode cXM_eliminate 130 = .ok (.invokestatic 47, 3) := by decide +kernel
theorem dXM_eliminate_133 : decode cXM_eliminate 133 = .ok (.iconst 1, 1) := by decide +kernel
theorem dXM_eliminate_134 : decode cXM_eliminate 134 = .ok (.if_icmp .gt 7, 3) := by decide +kernel
theorem dXM_eliminate_137 : decode cXM_eliminate 137 = .ok (.iconst 1, 1) := by decide +kernel
theorem dXM_eliminate_138 : decode cXM_eliminate 138 = .ok (.goto 4, 3) := by decide +kernel
theorem dXM_eliminate_141 : decode cXM_eliminate 141 = .ok (.iconst 0, 1) := by decide +kernel
theorem dXM_eliminate_142 : decode cXM_eliminate 142 = .ok (.putfield 102, 3) := by decide +kernel
theorem dXM_eliminate_145 : decode cXM_eliminate 145 = .ok (.return_, 1) := by decide +kernel
theorem dXM_way_0 : decode cXM_way 0 = .ok (.aload_n 0, 1) := by decide +kernel
theorem dXM_way_1 : decode cXM_way 1 = .ok (.getfield 7, 3) := by decide +kernel
theorem dXM_way_4 : decode cXM_way 4 = .ok (.iload_n 1, 1) := by decide +kernel
theorem dXM_way_5 : decode cXM_way 5 = .ok (.iaload, 1) := by decide +kernel
theorem dXM_way_6 : decode cXM_way 6 = .ok (.iload_n 2, 1) := by decide +kernel
theorem dXM_way_7 : decode cXM_way 7 = .ok (.iand, 1) := by decide +kernel
theorem dXM_way_8 : decode cXM_way 8 = .ok (.istore_n 3, 1) := by decide +kernel
theorem dXM_way_9 : decode cXM_way 9 = .ok (.iload_n 3, 1) := by decide +kernel
theorem dXM_way_10 : decode cXM_way 10 = .ok (.invokestatic 47, 3) := by decide +kernel
theorem dXM_way_13 : decode cXM_way 13 = .ok (.iconst 1, 1) := by decide +kernel
theorem dXM_way_14 : decode cXM_way 14 = .ok (.if_icmp .ne 8, 3) := by decide +kernel
theorem dXM_way_17 : decode cXM_way 17 = .ok (.iload_n 3, 1) := by decide +kernel
theorem dXM_way_18 : decode cXM_way 18 = .ok (.invokestatic 43, 3) := by decide +kernel
theorem dXM_way_21 : decode cXM_way 21 = .ok (.ireturn, 1) := by decide +kernel
theorem dXM_way_22 : decode cXM_way 22 = .ok (.iconst 0, 1) := by decide +kernel
theorem dXM_way_23 : decode cXM_way 23 = .ok (.istore 4, 2) := by decide +kernel
theorem dXM_way_25 : decode cXM_way 25 = .ok (.iload 4, 2) := by decide +kernel
theorem dXM_way_27 : decode cXM_way 27 = .ok (.aload_n 0, 1) := by decide +kernel
theorem dXM_way_28 : decode cXM_way 28 = .ok (.getfield 28, 3) := by decide +kernel
theorem dXM_way_31 : decode cXM_way 31 = .ok (.if_icmp .ge 91, 3) := by decide +kernel
theorem dXM_way_34 : decode cXM_way 34 = .ok (.iconst 1, 1) := by decide +kernel
theorem dXM_way_35 : decode cXM_way 35 = .ok (.iload_n 1, 1) := by decide +kernel
theorem dXM_way_36 : decode cXM_way 36 = .ok (.ishl, 1) := by decide +kernel
theorem dXM_way_37 : decode cXM_way 37 = .ok (.iconst 1, 1) := by decide +kernel
theorem dXM_way_38 : decode cXM_way 38 = .ok (.iload 4, 2) := by decide +kernel
theorem dXM_way_40 : decode cXM_way 40 = .ok (.ishl, 1) := by decide +kernel
theorem dXM_way_41 : decode cXM_way 41 = .ok (.ior, 1) := by decide +kernel
theorem dXM_way_42 : decode cXM_way 42 = .ok (.istore 5, 2) := by decide +kernel
theorem dXM_way_44 : decode cXM_way 44 = .ok (.iload 4, 2) := by decide +kernel
theorem dXM_way_46 : decode cXM_way 46 = .ok (.iload_n 1, 1) := by decide +kernel
theorem dXM_way_47 : decode cXM_way 47 = .ok (.if_icmp .eq 40, 3) := by decide +kernel
theorem dXM_way_50 : decode cXM_way 50 = .ok (.iload_n 2, 1) := by decide +kernel
theorem dXM_way_51 : decode cXM_way 51 = .ok (.iload 4, 2) := by decide +kernel
theorem dXM_way_53 : decode cXM_way 53 = .ok (.ishr, 1) := by decide +kernel
theorem dXM_way_54 : decode cXM_way 54 = .ok (.iconst 1, 1) := by decide +kernel
theorem dXM_way_55 : decode cXM_way 55 = .ok (.iand, 1) := by decide +kernel
theorem dXM_way_56 : decode cXM_way 56 = .ok (.iconst 1, 1) := by decide +kernel
theorem dXM_way_57 : decode cXM_way 57 = .ok (.if_icmp .ne 30, 3) := by decide +kernel
theorem dXM_way_60 : decode cXM_way 60 = .ok (.iload_n 3, 1) := by decide +kernel
theorem dXM_way_61 : decode cXM_way 61 = .ok (.iload 5, 2) := by decide +kernel
theorem dXM_way_63 : decode cXM_way 63 = .ok (.iconst (-1), 1) := by decide +kernel
theorem dXM_way_64 : decode cXM_way 64 = .ok (.ixor, 1) := by decide +kernel
theorem dXM_way_65 : decode cXM_way 65 = .ok (.iand, 1) := by decide +kernel
theorem dXM_way_66 : decode cXM_way 66 = .ok (.aload_n 0, 1) := by decide +kernel
theorem dXM_way_67 : decode cXM_way 67 = .ok (.getfield 7, 3) := by decide +kernel
theorem dXM_way_70 : decode cXM_way 70 = .ok (.iload 4, 2) := by decide +kernel
theorem dXM_way_72 : decode cXM_way 72 = .ok (.iaload, 1) := by decide +kernel
theorem dXM_way_73 : decode cXM_way 73 = .ok (.iload_n 2, 1) := by decide +kernel
theorem dXM_way_74 : decode cXM_way 74 = .ok (.iand, 1) := by decide +kernel
theorem dXM_way_75 : decode cXM_way 75 = .ok (.iload 5, 2) := by decide +kernel
theorem dXM_way_77 : decode cXM_way 77 = .ok (.iconst (-1), 1) := by decide +kernel
theorem dXM_way_78 : decode cXM_way 78 = .ok (.ixor, 1) := by decide +kernel
theorem dXM_way_79 : decode cXM_way 79 = .ok (.iand, 1) := by decide +kernel
theorem dXM_way_80 : decode cXM_way 80 = .ok (.if_icmp .ne 7, 3) := by decide +kernel
theorem dXM_way_83 : decode cXM_way 83 = .ok (.iconst 1, 1) := by decide +kernel
theorem dXM_way_84 : decode cXM_way 84 = .ok (.goto 4, 3) := by decide +kernel
theorem dXM_way_87 : decode cXM_way 87 = .ok (.iconst 0, 1) := by decide +kernel
theorem dXM_way_88 : decode cXM_way 88 = .ok (.istore 6, 2) := by decide +kernel
theorem dXM_way_90 : decode cXM_way 90 = .ok (.iload 6, 2) := by decide +kernel
theorem dXM_way_92 : decode cXM_way 92 = .ok (.ifCond .eq 24, 3) := by decide +kernel
theorem dXM_way_95 : decode cXM_way 95 = .ok (.iload 4, 2) := by decide +kernel
theorem dXM_way_97 : decode cXM_way 97 = .ok (.iload_n 3, 1) := by decide +kernel
theorem dXM_way_98 : decode cXM_way 98 = .ok (.iload 4, 2) := by decide +kernel
theorem dXM_way_100 : decode cXM_way 100 = .ok (.ishr, 1) := by decide +kernel
theorem dXM_way_101 : decode cXM_way 101 = .ok (.iconst 1, 1) := by decide +kernel
theorem dXM_way_102 : decode cXM_way 102 = .ok (.iand, 1) := by decide +kernel
theorem dXM_way_103 : decode cXM_way 103 = .ok (.iconst 1, 1) := by decide +kernel
theorem dXM_way_104 : decode cXM_way 104 = .ok (.if_icmp .ne 8, 3) := by decide +kernel
theorem dXM_way_107 : decode cXM_way 107 = .ok (.bipush 32, 2) := by decide +kernel
theorem dXM_way_109 : decode cXM_way 109 = .ok (.goto 5, 3) := by decide +kernel
theorem dXM_way_112 : decode cXM_way 112 = .ok (.bipush 16, 2) := by decide +kernel
theorem dXM_way_114 : decode cXM_way 114 = .ok (.iadd, 1) := by decide +kernel
theorem dXM_way_115 : decode cXM_way 115 = .ok (.ireturn, 1) := by decide +kernel
theorem dXM_way_116 : decode cXM_way 116 = .ok (.iinc 4 1, 3) := by decide +kernel
theorem dXM_way_119 : decode cXM_way 119 = .ok (.goto (-94), 3) := by decide +kernel
theorem dXM_way_122 : decode cXM_way 122 = .ok (.iconst (-1), 1) := by decide +kernel
theorem dXM_way_123 : decode cXM_way 123 = .ok (.ireturn, 1) := by decide +kernel
theorem dXM_step_0 : decode cXM_step 0 = .ok (.aload_n 0, 1) := by decide +kernel
theorem dXM_step_1 : decode cXM_step 1 = .ok (.iload_n 1, 1) := by decide +kernel
theorem dXM_step_2 : decode cXM_step 2 = .ok (.invokevirtual 32, 3) := by decide +kernel
theorem dXM_step_5 : decode cXM_step 5 = .ok (.ifCond .ne 5, 3) := by decide +kernel
theorem dXM_step_8 : decode cXM_step 8 = .ok (.iconst (-1), 1) := by decide +kernel
theorem dXM_step_9 : decode cXM_step 9 = .ok (.ireturn, 1) := by decide +kernel
theorem dXM_step_10 : decode cXM_step 10 = .ok (.aload_n 0, 1) := by decide +kernel
theorem dXM_step_11 : decode cXM_step 11 = .ok (.aload_n 0, 1) := by decide +kernel
theorem dXM_step_12 : decode cXM_step 12 = .ok (.iload_n 1, 1) := by decide +kernel
theorem dXM_step_13 : decode cXM_step 13 = .ok (.invokevirtual 60, 3) := by decide +kernel
theorem dXM_step_16 : decode cXM_step 16 = .ok (.invokevirtual 106, 3) := by decide +kernel
theorem dXM_step_19 : decode cXM_step 19 = .ok (.iload_n 2, 1) := by decide +kernel
theorem dXM_step_20 : decode cXM_step 20 = .ok (.ifCond .lt 20, 3) := by decide +kernel
theorem dXM_step_23 : decode cXM_step 23 = .ok (.iload_n 2, 1) := by decide +kernel
theorem dXM_step_24 : decode cXM_step 24 = .ok (.aload_n 0, 1) := by decide +kernel
theorem dXM_step_25 : decode cXM_step 25 = .ok (.getfield 96, 3) := by decide +kernel
theorem dXM_step_28 : decode cXM_step 28 = .ok (.if_icmp .ge 12, 3) := by decide +kernel
theorem dXM_step_31 : decode cXM_step 31 = .ok (.aload_n 0, 1) := by decide +kernel
theorem dXM_step_32 : decode cXM_step 32 = .ok (.getfield 22, 3) := by decide +kernel
theorem dXM_step_35 : decode cXM_step 35 = .ok (.iload_n 2, 1) := by decide +kernel
theorem dXM_step_36 : decode cXM_step 36 = .ok (.iaload, 1) := by decide +kernel
theorem dXM_step_37 : decode cXM_step 37 = .ok (.goto 4, 3) := by decide +kernel
theorem dXM_step_40 : decode cXM_step 40 = .ok (.iconst (-1), 1) := by decide +kernel
theorem dXM_step_41 : decode cXM_step 41 = .ok (.ireturn, 1) := by decide +kernel
theorem dXM_obstruction_0 : decode cXM_obstruction 0 = .ok (.aload_n 0, 1) := by decide +kernel
theorem dXM_obstruction_1 : decode cXM_obstruction 1 = .ok (.iload_n 1, 1) := by decide +kernel
theorem dXM_obstruction_2 : decode cXM_obstruction 2 = .ok (.invokevirtual 32, 3) := by decide +kernel
theorem dXM_obstruction_5 : decode cXM_obstruction 5 = .ok (.ifCond .eq 15, 3) := by decide +kernel
theorem dXM_obstruction_8 : decode cXM_obstruction 8 = .ok (.aload_n 0, 1) := by decide +kernel
theorem dXM_obstruction_9 : decode cXM_obstruction 9 = .ok (.aload_n 0, 1) := by decide +kernel
theorem dXM_obstruction_10 : decode cXM_obstruction 10 = .ok (.iload_n 1, 1) := by decide +kernel
theorem dXM_obstruction_11 : decode cXM_obstruction 11 = .ok (.invokevirtual 60, 3) := by decide +kernel
theorem dXM_obstruction_14 : decode cXM_obstruction 14 = .ok (.invokevirtual 109, 3) := by decide +kernel
theorem dXM_obstruction_17 : decode cXM_obstruction 17 = .ok (.ifCond .eq 5, 3) := by decide +kernel
theorem dXM_obstruction_20 : decode cXM_obstruction 20 = .ok (.iconst (-1), 1) := by decide +kernel
theorem dXM_obstruction_21 : decode cXM_obstruction 21 = .ok (.ireturn, 1) := by decide +kernel
theorem dXM_obstruction_22 : decode cXM_obstruction 22 = .ok (.aload_n 0, 1) := by decide +kernel
theorem dXM_obstruction_23 : decode cXM_obstruction 23 = .ok (.iload_n 1, 1) := by decide +kernel
theorem dXM_obstruction_24 : decode cXM_obstruction 24 = .ok (.invokevirtual 60, 3) := by decide +kernel
theorem dXM_obstruction_27 : decode cXM_obstruction 27 = .ok (.istore_n 2, 1) := by decide +kernel
theorem dXM_obstruction_28 : decode cXM_obstruction 28 = .ok (.iconst 0, 1) := by decide +kernel
theorem dXM_obstruction_29 : decode cXM_obstruction 29 = .ok (.istore_n 3, 1) := by decide +kernel
theorem dXM_obstruction_30 : decode cXM_obstruction 30 = .ok (.iload_n 3, 1) := by decide +kernel
theorem dXM_obstruction_31 : decode cXM_obstruction 31 = .ok (.aload_n 0, 1) := by decide +kernel
theorem dXM_obstruction_32 : decode cXM_obstruction 32 = .ok (.getfield 28, 3) := by decide +kernel
theorem dXM_obstruction_35 : decode cXM_obstruction 35 = .ok (.if_icmp .ge 34, 3) := by decide +kernel
theorem dXM_obstruction_38 : decode cXM_obstruction 38 = .ok (.iload_n 2, 1) := by decide +kernel
theorem dXM_obstruction_39 : decode cXM_obstruction 39 = .ok (.iconst 1, 1) := by decide +kernel
theorem dXM_obstruction_40 : decode cXM_obstruction 40 = .ok (.iload_n 3, 1) := by decide +kernel
theorem dXM_obstruction_41 : decode cXM_obstruction 41 = .ok (.ishl, 1) := by decide +kernel
theorem dXM_obstruction_42 : decode cXM_obstruction 42 = .ok (.iconst (-1), 1) := by decide +kernel
theorem dXM_obstruction_43 : decode cXM_obstruction 43 = .ok (.ixor, 1) := by decide +kernel
theorem dXM_obstruction_44 : decode cXM_obstruction 44 = .ok (.iand, 1) := by decide +kernel
theorem dXM_obstruction_45 : decode cXM_obstruction 45 = .ok (.istore 4, 2) := by decide +kernel
theorem dXM_obstruction_47 : decode cXM_obstruction 47 = .ok (.aload_n 0, 1) := by decide +kernel
theorem dXM_obstruction_48 : decode cXM_obstruction 48 = .ok (.iload 4, 2) := by decide +kernel
theorem dXM_obstruction_50 : decode cXM_obstruction 50 = .ok (.invokevirtual 109, 3) := by decide +kernel
theorem dXM_obstruction_53 : decode cXM_obstruction 53 = .ok (.ifCond .eq 7, 3) := by decide +kernel
theorem dXM_obstruction_56 : decode cXM_obstruction 56 = .ok (.iload_n 2, 1) := by decide +kernel
theorem dXM_obstruction_57 : decode cXM_obstruction 57 = .ok (.goto 5, 3) := by decide +kernel
theorem dXM_obstruction_60 : decode cXM_obstruction 60 = .ok (.iload 4, 2) := by decide +kernel
theorem dXM_obstruction_62 : decode cXM_obstruction 62 = .ok (.istore_n 2, 1) := by decide +kernel
theorem dXM_obstruction_63 : decode cXM_obstruction 63 = .ok (.iinc 3 1, 3) := by decide +kernel
theorem dXM_obstruction_66 : decode cXM_obstruction 66 = .ok (.goto (-36), 3) := by decide +kernel
theorem dXM_obstruction_69 : decode cXM_obstruction 69 = .ok (.iload_n 2, 1) := by decide +kernel
theorem dXM_obstruction_70 : decode cXM_obstruction 70 = .ok (.ireturn, 1) := by decide +kernel
theorem dXM_obstacle_0 : decode cXM_obstacle 0 = .ok (.aload_n 0, 1) := by decide +kernel
theorem dXM_obstacle_1 : decode cXM_obstacle 1 = .ok (.iload_n 1, 1) := by decide +kernel
theorem dXM_obstacle_2 : decode cXM_obstacle 2 = .ok (.invokevirtual 112, 3) := by decide +kernel
theorem dXM_obstacle_5 : decode cXM_obstacle 5 = .ok (.istore_n 2, 1) := by decide +kernel
theorem dXM_obstacle_6 : decode cXM_obstacle 6 = .ok (.iload_n 2, 1) := by decide +kernel
theorem dXM_obstacle_7 : decode cXM_obstacle 7 = .ok (.iconst (-1), 1) := by decide +kernel
theorem dXM_obstacle_8 : decode cXM_obstacle 8 = .ok (.if_icmp .ne 5, 3) := by decide +kernel
theorem dXM_obstacle_11 : decode cXM_obstacle 11 = .ok (.iconst (-1), 1) := by decide +kernel
theorem dXM_obstacle_12 : decode cXM_obstacle 12 = .ok (.ireturn, 1) := by decide +kernel
theorem dXM_obstacle_13 : decode cXM_obstacle 13 = .ok (.iload_n 2, 1) := by decide +kernel
theorem dXM_obstacle_14 : decode cXM_obstacle 14 = .ok (.invokestatic 47, 3) := by decide +kernel
theorem dXM_obstacle_17 : decode cXM_obstacle 17 = .ok (.istore_n 3, 1) := by decide +kernel
theorem dXM_obstacle_18 : decode cXM_obstacle 18 = .ok (.aload_n 0, 1) := by decide +kernel
theorem dXM_obstacle_19 : decode cXM_obstacle 19 = .ok (.iload_n 2, 1) := by decide +kernel
theorem dXM_obstacle_20 : decode cXM_obstacle 20 = .ok (.invokevirtual 115, 3) := by decide +kernel
theorem dXM_obstacle_23 : decode cXM_obstacle 23 = .ok (.istore 4, 2) := by decide +kernel
theorem dXM_obstacle_25 : decode cXM_obstacle 25 = .ok (.iload 4, 2) := by decide +kernel
theorem dXM_obstacle_27 : decode cXM_obstacle 27 = .ok (.iload_n 3, 1) := by decide +kernel
theorem dXM_obstacle_28 : decode cXM_obstacle 28 = .ok (.if_icmp .ne 5, 3) := by decide +kernel
theorem dXM_obstacle_31 : decode cXM_obstacle 31 = .ok (.iconst 1, 1) := by decide +kernel
theorem dXM_obstacle_32 : decode cXM_obstacle 32 = .ok (.ireturn, 1) := by decide +kernel
theorem dXM_obstacle_33 : decode cXM_obstacle 33 = .ok (.iload_n 3, 1) := by decide +kernel
theorem dXM_obstacle_34 : decode cXM_obstacle 34 = .ok (.iconst 5, 1) := by decide +kernel
theorem dXM_obstacle_35 : decode cXM_obstacle 35 = .ok (.if_icmp .ne 12, 3) := by decide +kernel
theorem dXM_obstacle_38 : decode cXM_obstacle 38 = .ok (.iload 4, 2) := by decide +kernel
theorem dXM_obstacle_40 : decode cXM_obstacle 40 = .ok (.bipush 6, 2) := by decide +kernel
end
section
theorem dXM_obstacle_42 : decode cXM_obstacle 42 = .ok (.if_icmp .ne 5, 3) := by decide +kernel
theorem dXM_obstacle_45 : decode cXM_obstacle 45 = .ok (.iconst 2, 1) := by decide +kernel
theorem dXM_obstacle_46 : decode cXM_obstacle 46 = .ok (.ireturn, 1) := by decide +kernel
theorem dXM_obstacle_47 : decode cXM_obstacle 47 = .ok (.iload_n 3, 1) := by decide +kernel
theorem dXM_obstacle_48 : decode cXM_obstacle 48 = .ok (.iconst 5, 1) := by decide +kernel
theorem dXM_obstacle_49 : decode cXM_obstacle 49 = .ok (.if_icmp .ne 7, 3) := by decide +kernel
theorem dXM_obstacle_52 : decode cXM_obstacle 52 = .ok (.iconst 3, 1) := by decide +kernel
theorem dXM_obstacle_53 : decode cXM_obstacle 53 = .ok (.goto 4, 3) := by decide +kernel
theorem dXM_obstacle_56 : decode cXM_obstacle 56 = .ok (.iconst 4, 1) := by decide +kernel
theorem dXM_obstacle_57 : decode cXM_obstacle 57 = .ok (.ireturn, 1) := by decide +kernel
theorem dXM_edges_0 : decode cXM_edges 0 = .ok (.iconst 0, 1) := by decide +kernel
theorem dXM_edges_1 : decode cXM_edges 1 = .ok (.istore_n 2, 1) := by decide +kernel
theorem dXM_edges_2 : decode cXM_edges 2 = .ok (.iconst 0, 1) := by decide +kernel
theorem dXM_edges_3 : decode cXM_edges 3 = .ok (.istore_n 3, 1) := by decide +kernel
theorem dXM_edges_4 : decode cXM_edges 4 = .ok (.iload_n 3, 1) := by decide +kernel
theorem dXM_edges_5 : decode cXM_edges 5 = .ok (.aload_n 0, 1) := by decide +kernel
theorem dXM_edges_6 : decode cXM_edges 6 = .ok (.getfield 28, 3) := by decide +kernel
theorem dXM_edges_9 : decode cXM_edges 9 = .ok (.if_icmp .ge 36, 3) := by decide +kernel
theorem dXM_edges_12 : decode cXM_edges 12 = .ok (.iload_n 2, 1) := by decide +kernel
theorem dXM_edges_13 : decode cXM_edges 13 = .ok (.iload_n 1, 1) := by decide +kernel
theorem dXM_edges_14 : decode cXM_edges 14 = .ok (.iload_n 3, 1) := by decide +kernel
theorem dXM_edges_15 : decode cXM_edges 15 = .ok (.ishr, 1) := by decide +kernel
theorem dXM_edges_16 : decode cXM_edges 16 = .ok (.iconst 1, 1) := by decide +kernel
theorem dXM_edges_17 : decode cXM_edges 17 = .ok (.iand, 1) := by decide +kernel
theorem dXM_edges_18 : decode cXM_edges 18 = .ok (.iconst 1, 1) := by decide +kernel
theorem dXM_edges_19 : decode cXM_edges 19 = .ok (.if_icmp .ne 17, 3) := by decide +kernel
theorem dXM_edges_22 : decode cXM_edges 22 = .ok (.aload_n 0, 1) := by decide +kernel
theorem dXM_edges_23 : decode cXM_edges 23 = .ok (.getfield 7, 3) := by decide +kernel
theorem dXM_edges_26 : decode cXM_edges 26 = .ok (.iload_n 3, 1) := by decide +kernel
theorem dXM_edges_27 : decode cXM_edges 27 = .ok (.iaload, 1) := by decide +kernel
theorem dXM_edges_28 : decode cXM_edges 28 = .ok (.iload_n 1, 1) := by decide +kernel
theorem dXM_edges_29 : decode cXM_edges 29 = .ok (.iand, 1) := by decide +kernel
theorem dXM_edges_30 : decode cXM_edges 30 = .ok (.invokestatic 47, 3) := by decide +kernel
theorem dXM_edges_33 : decode cXM_edges 33 = .ok (.goto 4, 3) := by decide +kernel
theorem dXM_edges_36 : decode cXM_edges 36 = .ok (.iconst 0, 1) := by decide +kernel
theorem dXM_edges_37 : decode cXM_edges 37 = .ok (.iadd, 1) := by decide +kernel
theorem dXM_edges_38 : decode cXM_edges 38 = .ok (.istore_n 2, 1) := by decide +kernel
theorem dXM_edges_39 : decode cXM_edges 39 = .ok (.iinc 3 1, 3) := by decide +kernel
theorem dXM_edges_42 : decode cXM_edges 42 = .ok (.goto (-38), 3) := by decide +kernel
theorem dXM_edges_45 : decode cXM_edges 45 = .ok (.iload_n 2, 1) := by decide +kernel
theorem dXM_edges_46 : decode cXM_edges 46 = .ok (.iconst 2, 1) := by decide +kernel
theorem dXM_edges_47 : decode cXM_edges 47 = .ok (.idiv, 1) := by decide +kernel
theorem dXM_edges_48 : decode cXM_edges 48 = .ok (.ireturn, 1) := by decide +kernel
theorem dXM_apart_0 : decode cXM_apart 0 = .ok (.aload_n 0, 1) := by decide +kernel
theorem dXM_apart_1 : decode cXM_apart 1 = .ok (.iload_n 1, 1) := by decide +kernel
theorem dXM_apart_2 : decode cXM_apart 2 = .ok (.invokevirtual 118, 3) := by decide +kernel
theorem dXM_apart_5 : decode cXM_apart 5 = .ok (.ifCond .eq 16, 3) := by decide +kernel
theorem dXM_apart_8 : decode cXM_apart 8 = .ok (.aload_n 0, 1) := by decide +kernel
theorem dXM_apart_9 : decode cXM_apart 9 = .ok (.aload_n 0, 1) := by decide +kernel
theorem dXM_apart_10 : decode cXM_apart 10 = .ok (.iload_n 1, 1) := by decide +kernel
theorem dXM_apart_11 : decode cXM_apart 11 = .ok (.invokevirtual 60, 3) := by decide +kernel
theorem dXM_apart_14 : decode cXM_apart 14 = .ok (.iconst 0, 1) := by decide +kernel
theorem dXM_apart_15 : decode cXM_apart 15 = .ok (.invokevirtual 121, 3) := by decide +kernel
theorem dXM_apart_18 : decode cXM_apart 18 = .ok (.goto 4, 3) := by decide +kernel
theorem dXM_apart_21 : decode cXM_apart 21 = .ok (.iconst (-1), 1) := by decide +kernel
theorem dXM_apart_22 : decode cXM_apart 22 = .ok (.ireturn, 1) := by decide +kernel
theorem dXM_best_0 : decode cXM_best 0 = .ok (.iconst 0, 1) := by decide +kernel
theorem dXM_best_1 : decode cXM_best 1 = .ok (.istore_n 3, 1) := by decide +kernel
theorem dXM_best_2 : decode cXM_best 2 = .ok (.iconst 0, 1) := by decide +kernel
theorem dXM_best_3 : decode cXM_best 3 = .ok (.istore 4, 2) := by decide +kernel
theorem dXM_best_5 : decode cXM_best 5 = .ok (.iconst 1, 1) := by decide +kernel
theorem dXM_best_6 : decode cXM_best 6 = .ok (.istore 5, 2) := by decide +kernel
theorem dXM_best_8 : decode cXM_best 8 = .ok (.iload 5, 2) := by decide +kernel
theorem dXM_best_10 : decode cXM_best 10 = .ok (.sipush 512, 3) := by decide +kernel
theorem dXM_best_13 : decode cXM_best 13 = .ok (.if_icmp .ge 46, 3) := by decide +kernel
theorem dXM_best_16 : decode cXM_best 16 = .ok (.iload 5, 2) := by decide +kernel
theorem dXM_best_18 : decode cXM_best 18 = .ok (.iload_n 1, 1) := by decide +kernel
theorem dXM_best_19 : decode cXM_best 19 = .ok (.iconst (-1), 1) := by decide +kernel
theorem dXM_best_20 : decode cXM_best 20 = .ok (.ixor, 1) := by decide +kernel
theorem dXM_best_21 : decode cXM_best 21 = .ok (.iand, 1) := by decide +kernel
theorem dXM_best_22 : decode cXM_best 22 = .ok (.ifCond .ne 31, 3) := by decide +kernel
theorem dXM_best_25 : decode cXM_best 25 = .ok (.aload_n 0, 1) := by decide +kernel
theorem dXM_best_26 : decode cXM_best 26 = .ok (.iload 5, 2) := by decide +kernel
theorem dXM_best_28 : decode cXM_best 28 = .ok (.invokevirtual 115, 3) := by decide +kernel
theorem dXM_best_31 : decode cXM_best 31 = .ok (.ifCond .ne 22, 3) := by decide +kernel
theorem dXM_best_34 : decode cXM_best 34 = .ok (.iload 5, 2) := by decide +kernel
theorem dXM_best_36 : decode cXM_best 36 = .ok (.invokestatic 47, 3) := by decide +kernel
theorem dXM_best_39 : decode cXM_best 39 = .ok (.iload_n 3, 1) := by decide +kernel
theorem dXM_best_40 : decode cXM_best 40 = .ok (.if_icmp .le 13, 3) := by decide +kernel
theorem dXM_best_43 : decode cXM_best 43 = .ok (.iload 5, 2) := by decide +kernel
theorem dXM_best_45 : decode cXM_best 45 = .ok (.invokestatic 47, 3) := by decide +kernel
theorem dXM_best_48 : decode cXM_best 48 = .ok (.istore_n 3, 1) := by decide +kernel
theorem dXM_best_49 : decode cXM_best 49 = .ok (.iload 5, 2) := by decide +kernel
theorem dXM_best_51 : decode cXM_best 51 = .ok (.istore 4, 2) := by decide +kernel
theorem dXM_best_53 : decode cXM_best 53 = .ok (.iinc 5 1, 3) := by decide +kernel
theorem dXM_best_56 : decode cXM_best 56 = .ok (.goto (-48), 3) := by decide +kernel
theorem dXM_best_59 : decode cXM_best 59 = .ok (.iload_n 2, 1) := by decide +kernel
theorem dXM_best_60 : decode cXM_best 60 = .ok (.ifCond .eq 8, 3) := by decide +kernel
theorem dXM_best_63 : decode cXM_best 63 = .ok (.iload 4, 2) := by decide +kernel
theorem dXM_best_65 : decode cXM_best 65 = .ok (.goto 4, 3) := by decide +kernel
theorem dXM_best_68 : decode cXM_best 68 = .ok (.iload_n 3, 1) := by decide +kernel
theorem dXM_best_69 : decode cXM_best 69 = .ok (.ireturn, 1) := by decide +kernel
theorem dXM_chosen_0 : decode cXM_chosen 0 = .ok (.aload_n 0, 1) := by decide +kernel
theorem dXM_chosen_1 : decode cXM_chosen 1 = .ok (.iload_n 1, 1) := by decide +kernel
theorem dXM_chosen_2 : decode cXM_chosen 2 = .ok (.invokevirtual 118, 3) := by decide +kernel
theorem dXM_chosen_5 : decode cXM_chosen 5 = .ok (.ifCond .eq 16, 3) := by decide +kernel
theorem dXM_chosen_8 : decode cXM_chosen 8 = .ok (.aload_n 0, 1) := by decide +kernel
theorem dXM_chosen_9 : decode cXM_chosen 9 = .ok (.aload_n 0, 1) := by decide +kernel
theorem dXM_chosen_10 : decode cXM_chosen 10 = .ok (.iload_n 1, 1) := by decide +kernel
theorem dXM_chosen_11 : decode cXM_chosen 11 = .ok (.invokevirtual 60, 3) := by decide +kernel
theorem dXM_chosen_14 : decode cXM_chosen 14 = .ok (.iconst 1, 1) := by decide +kernel
theorem dXM_chosen_15 : decode cXM_chosen 15 = .ok (.invokevirtual 121, 3) := by decide +kernel
theorem dXM_chosen_18 : decode cXM_chosen 18 = .ok (.goto 4, 3) := by decide +kernel
theorem dXM_chosen_21 : decode cXM_chosen 21 = .ok (.iconst (-1), 1) := by decide +kernel
theorem dXM_chosen_22 : decode cXM_chosen 22 = .ok (.ireturn, 1) := by decide +kernel
theorem dXM_cover_0 : decode cXM_cover 0 = .ok (.aload_n 0, 1) := by decide +kernel
theorem dXM_cover_1 : decode cXM_cover 1 = .ok (.iload_n 1, 1) := by decide +kernel
theorem dXM_cover_2 : decode cXM_cover 2 = .ok (.invokevirtual 118, 3) := by decide +kernel
theorem dXM_cover_5 : decode cXM_cover 5 = .ok (.ifCond .ne 5, 3) := by decide +kernel
theorem dXM_cover_8 : decode cXM_cover 8 = .ok (.iconst (-1), 1) := by decide +kernel
theorem dXM_cover_9 : decode cXM_cover 9 = .ok (.ireturn, 1) := by decide +kernel
theorem dXM_cover_10 : decode cXM_cover 10 = .ok (.aload_n 0, 1) := by decide +kernel
theorem dXM_cover_11 : decode cXM_cover 11 = .ok (.iload_n 1, 1) := by decide +kernel
theorem dXM_cover_12 : decode cXM_cover 12 = .ok (.invokevirtual 60, 3) := by decide +kernel
theorem dXM_cover_15 : decode cXM_cover 15 = .ok (.istore_n 2, 1) := by decide +kernel
theorem dXM_cover_16 : decode cXM_cover 16 = .ok (.aload_n 0, 1) := by decide +kernel
theorem dXM_cover_17 : decode cXM_cover 17 = .ok (.getfield 25, 3) := by decide +kernel
theorem dXM_cover_20 : decode cXM_cover 20 = .ok (.iconst 0, 1) := by decide +kernel
theorem dXM_cover_21 : decode cXM_cover 21 = .ok (.iconst 0, 1) := by decide +kernel
theorem dXM_cover_22 : decode cXM_cover 22 = .ok (.iastore, 1) := by decide +kernel
theorem dXM_cover_23 : decode cXM_cover 23 = .ok (.iconst 1, 1) := by decide +kernel
theorem dXM_cover_24 : decode cXM_cover 24 = .ok (.istore_n 3, 1) := by decide +kernel
theorem dXM_cover_25 : decode cXM_cover 25 = .ok (.iload_n 3, 1) := by decide +kernel
theorem dXM_cover_26 : decode cXM_cover 26 = .ok (.sipush 512, 3) := by decide +kernel
theorem dXM_cover_29 : decode cXM_cover 29 = .ok (.if_icmp .ge 128, 3) := by decide +kernel
theorem dXM_cover_32 : decode cXM_cover 32 = .ok (.aload_n 0, 1) := by decide +kernel
theorem dXM_cover_33 : decode cXM_cover 33 = .ok (.getfield 25, 3) := by decide +kernel
theorem dXM_cover_36 : decode cXM_cover 36 = .ok (.iload_n 3, 1) := by decide +kernel
theorem dXM_cover_37 : decode cXM_cover 37 = .ok (.bipush 9, 2) := by decide +kernel
theorem dXM_cover_39 : decode cXM_cover 39 = .ok (.iastore, 1) := by decide +kernel
theorem dXM_cover_40 : decode cXM_cover 40 = .ok (.iload_n 3, 1) := by decide +kernel
theorem dXM_cover_41 : decode cXM_cover 41 = .ok (.iload_n 2, 1) := by decide +kernel
theorem dXM_cover_42 : decode cXM_cover 42 = .ok (.iconst (-1), 1) := by decide +kernel
theorem dXM_cover_43 : decode cXM_cover 43 = .ok (.ixor, 1) := by decide +kernel
theorem dXM_cover_44 : decode cXM_cover 44 = .ok (.iand, 1) := by decide +kernel
theorem dXM_cover_45 : decode cXM_cover 45 = .ok (.ifCond .ne 106, 3) := by decide +kernel
theorem dXM_cover_48 : decode cXM_cover 48 = .ok (.iload_n 3, 1) := by decide +kernel
theorem dXM_cover_49 : decode cXM_cover 49 = .ok (.istore 4, 2) := by decide +kernel
theorem dXM_cover_51 : decode cXM_cover 51 = .ok (.iload 4, 2) := by decide +kernel
theorem dXM_cover_53 : decode cXM_cover 53 = .ok (.ifCond .le 98, 3) := by decide +kernel
theorem dXM_cover_56 : decode cXM_cover 56 = .ok (.iload 4, 2) := by decide +kernel
theorem dXM_cover_58 : decode cXM_cover 58 = .ok (.iload_n 3, 1) := by decide +kernel
theorem dXM_cover_59 : decode cXM_cover 59 = .ok (.invokestatic 43, 3) := by decide +kernel
theorem dXM_cover_62 : decode cXM_cover 62 = .ok (.ishr, 1) := by decide +kernel
theorem dXM_cover_63 : decode cXM_cover 63 = .ok (.iconst 1, 1) := by decide +kernel
theorem dXM_cover_64 : decode cXM_cover 64 = .ok (.iand, 1) := by decide +kernel
theorem dXM_cover_65 : decode cXM_cover 65 = .ok (.iconst 1, 1) := by decide +kernel
theorem dXM_cover_66 : decode cXM_cover 66 = .ok (.if_icmp .ne 38, 3) := by decide +kernel
theorem dXM_cover_69 : decode cXM_cover 69 = .ok (.aload_n 0, 1) := by decide +kernel
theorem dXM_cover_70 : decode cXM_cover 70 = .ok (.getfield 25, 3) := by decide +kernel
theorem dXM_cover_73 : decode cXM_cover 73 = .ok (.iload_n 3, 1) := by decide +kernel
theorem dXM_cover_74 : decode cXM_cover 74 = .ok (.iload 4, 2) := by decide +kernel
theorem dXM_cover_76 : decode cXM_cover 76 = .ok (.iconst (-1), 1) := by decide +kernel
theorem dXM_cover_77 : decode cXM_cover 77 = .ok (.ixor, 1) := by decide +kernel
theorem dXM_cover_78 : decode cXM_cover 78 = .ok (.iand, 1) := by decide +kernel
theorem dXM_cover_79 : decode cXM_cover 79 = .ok (.iaload, 1) := by decide +kernel
theorem dXM_cover_80 : decode cXM_cover 80 = .ok (.aload_n 0, 1) := by decide +kernel
theorem dXM_cover_81 : decode cXM_cover 81 = .ok (.getfield 25, 3) := by decide +kernel
theorem dXM_cover_84 : decode cXM_cover 84 = .ok (.iload_n 3, 1) := by decide +kernel
theorem dXM_cover_85 : decode cXM_cover 85 = .ok (.iaload, 1) := by decide +kernel
theorem dXM_cover_86 : decode cXM_cover 86 = .ok (.iconst 1, 1) := by decide +kernel
theorem dXM_cover_87 : decode cXM_cover 87 = .ok (.isub, 1) := by decide +kernel
theorem dXM_cover_88 : decode cXM_cover 88 = .ok (.if_icmp .ge 16, 3) := by decide +kernel
theorem dXM_cover_91 : decode cXM_cover 91 = .ok (.aload_n 0, 1) := by decide +kernel
theorem dXM_cover_92 : decode cXM_cover 92 = .ok (.iload 4, 2) := by decide +kernel
theorem dXM_cover_94 : decode cXM_cover 94 = .ok (.invokevirtual 125, 3) := by decide +kernel
theorem dXM_cover_97 : decode cXM_cover 97 = .ok (.ifCond .eq 7, 3) := by decide +kernel
theorem dXM_cover_100 : decode cXM_cover 100 = .ok (.iconst 1, 1) := by decide +kernel
theorem dXM_cover_101 : decode cXM_cover 101 = .ok (.goto 4, 3) := by decide +kernel
theorem dXM_cover_104 : decode cXM_cover 104 = .ok (.iconst 0, 1) := by decide +kernel
theorem dXM_cover_105 : decode cXM_cover 105 = .ok (.istore 5, 2) := by decide +kernel
theorem dXM_cover_107 : decode cXM_cover 107 = .ok (.aload_n 0, 1) := by decide +kernel
theorem dXM_cover_108 : decode cXM_cover 108 = .ok (.getfield 25, 3) := by decide +kernel
theorem dXM_cover_111 : decode cXM_cover 111 = .ok (.iload_n 3, 1) := by decide +kernel
theorem dXM_cover_112 : decode cXM_cover 112 = .ok (.iload 5, 2) := by decide +kernel
theorem dXM_cover_114 : decode cXM_cover 114 = .ok (.ifCond .eq 19, 3) := by decide +kernel
theorem dXM_cover_117 : decode cXM_cover 117 = .ok (.aload_n 0, 1) := by decide +kernel
theorem dXM_cover_118 : decode cXM_cover 118 = .ok (.getfield 25, 3) := by decide +kernel
theorem dXM_cover_121 : decode cXM_cover 121 = .ok (.iload_n 3, 1) := by decide +kernel
theorem dXM_cover_122 : decode cXM_cover 122 = .ok (.iload 4, 2) := by decide +kernel
theorem dXM_cover_124 : decode cXM_cover 124 = .ok (.iconst (-1), 1) := by decide +kernel
theorem dXM_cover_125 : decode cXM_cover 125 = .ok (.ixor, 1) := by decide +kernel
theorem dXM_cover_126 : decode cXM_cover 126 = .ok (.iand, 1) := by decide +kernel
theorem dXM_cover_127 : decode cXM_cover 127 = .ok (.iaload, 1) := by decide +kernel
theorem dXM_cover_128 : decode cXM_cover 128 = .ok (.iconst 1, 1) := by decide +kernel
theorem dXM_cover_129 : decode cXM_cover 129 = .ok (.iadd, 1) := by decide +kernel
theorem dXM_cover_130 : decode cXM_cover 130 = .ok (.goto 9, 3) := by decide +kernel
theorem dXM_cover_133 : decode cXM_cover 133 = .ok (.aload_n 0, 1) := by decide +kernel
theorem dXM_cover_134 : decode cXM_cover 134 = .ok (.getfield 25, 3) := by decide +kernel
theorem dXM_cover_137 : decode cXM_cover 137 = .ok (.iload_n 3, 1) := by decide +kernel
theorem dXM_cover_138 : decode cXM_cover 138 = .ok (.iaload, 1) := by decide +kernel
theorem dXM_cover_139 : decode cXM_cover 139 = .ok (.iastore, 1) := by decide +kernel
theorem dXM_cover_140 : decode cXM_cover 140 = .ok (.iload 4, 2) := by decide +kernel
theorem dXM_cover_142 : decode cXM_cover 142 = .ok (.iconst 1, 1) := by decide +kernel
theorem dXM_cover_143 : decode cXM_cover 143 = .ok (.isub, 1) := by decide +kernel
theorem dXM_cover_144 : decode cXM_cover 144 = .ok (.iload_n 3, 1) := by decide +kernel
theorem dXM_cover_145 : decode cXM_cover 145 = .ok (.iand, 1) := by decide +kernel
theorem dXM_cover_146 : decode cXM_cover 146 = .ok (.istore 4, 2) := by decide +kernel
theorem dXM_cover_148 : decode cXM_cover 148 = .ok (.goto (-97), 3) := by decide +kernel
theorem dXM_cover_151 : decode cXM_cover 151 = .ok (.iinc 3 1, 3) := by decide +kernel
theorem dXM_cover_154 : decode cXM_cover 154 = .ok (.goto (-129), 3) := by decide +kernel
theorem dXM_cover_157 : decode cXM_cover 157 = .ok (.aload_n 0, 1) := by decide +kernel
theorem dXM_cover_158 : decode cXM_cover 158 = .ok (.getfield 25, 3) := by decide +kernel
theorem dXM_cover_161 : decode cXM_cover 161 = .ok (.iload_n 2, 1) := by decide +kernel
theorem dXM_cover_162 : decode cXM_cover 162 = .ok (.iaload, 1) := by decide +kernel
theorem dXM_cover_163 : decode cXM_cover 163 = .ok (.ireturn, 1) := by decide +kernel
theorem dXM_clique_0 : decode cXM_clique 0 = .ok (.iload_n 1, 1) := by decide +kernel
theorem dXM_clique_1 : decode cXM_clique 1 = .ok (.invokestatic 47, 3) := by decide +kernel
theorem dXM_clique_4 : decode cXM_clique 4 = .ok (.istore_n 2, 1) := by decide +kernel
theorem dXM_clique_5 : decode cXM_clique 5 = .ok (.aload_n 0, 1) := by decide +kernel
theorem dXM_clique_6 : decode cXM_clique 6 = .ok (.iload_n 1, 1) := by decide +kernel
theorem dXM_clique_7 : decode cXM_clique 7 = .ok (.invokevirtual 115, 3) := by decide +kernel
theorem dXM_clique_10 : decode cXM_clique 10 = .ok (.iload_n 2, 1) := by decide +kernel
theorem dXM_clique_11 : decode cXM_clique 11 = .ok (.iload_n 2, 1) := by decide +kernel
theorem dXM_clique_12 : decode cXM_clique 12 = .ok (.iconst 1, 1) := by decide +kernel
theorem dXM_clique_13 : decode cXM_clique 13 = .ok (.isub, 1) := by decide +kernel
theorem dXM_clique_14 : decode cXM_clique 14 = .ok (.imul, 1) := by decide +kernel
theorem dXM_clique_15 : decode cXM_clique 15 = .ok (.iconst 2, 1) := by decide +kernel
theorem dXM_clique_16 : decode cXM_clique 16 = .ok (.idiv, 1) := by decide +kernel
theorem dXM_clique_17 : decode cXM_clique 17 = .ok (.if_icmp .ne 7, 3) := by decide +kernel
theorem dXM_clique_20 : decode cXM_clique 20 = .ok (.iconst 1, 1) := by decide +kernel
theorem dXM_clique_21 : decode cXM_clique 21 = .ok (.goto 4, 3) := by decide +kernel
theorem dXM_clique_24 : decode cXM_clique 24 = .ok (.iconst 0, 1) := by decide +kernel
theorem dXM_clique_25 : decode cXM_clique 25 = .ok (.ireturn, 1) := by decide +kernel
end
section
/-! Tools of this claim's walks. A method's MIRROR is a pure function with fuel (m.._..); a contract says: where the mirror answers 'some', the machine answers the same. -/
def kl {α : Type} (v : Int32) (f : Int32 → Option α) : Option α := f v
def kg {α : Type} (i : Int32) (n : Nat) (x : Option α) : Option α := if i < 0 ∨ n ≤ i.toNatClampNeg then none else x
def kz {α : Type} (v : Int32) (x : Option α) : Option α := if v = 0 ∨ v = 1 then x else none
def kB (r : Int32) : Prop := r = 0 ∨ r = 1
def kT (_ : Int32) : Prop := True
theorem kl_s {α : Type} {v x : Int32} {f : Int32 → Option α} {r : Option α} (e : x = v) (h : kl v f = r) : f x = r := by
  subst e
  exact h
theorem kg_s {α : Type} {i : Int32} {n : Nat} {x : Option α} {r : α} (h : kg i n x = some r) : vp_in i n ∧ x = some r := by
  unfold kg at h
  by_cases hc : i < 0 ∨ n ≤ i.toNatClampNeg
  · rw [if_pos hc] at h
    cases h
  · rw [if_neg hc] at h
    exact ⟨hc, h⟩
theorem kz_s {α : Type} {v : Int32} {x : Option α} {r : α} (h : kz v x = some r) : kB v ∧ x = some r := by
  unfold kz at h
  by_cases hc : v = 0 ∨ v = 1
  · rw [if_pos hc] at h
    exact ⟨hc, h⟩
  · rw [if_neg hc] at h
    cases h
theorem kb_s {α β : Type} {o : Option α} {f : α → Option β} {r : β} (h : o.bind f = some r) : ∃ a, o = some a ∧ f a = some r := by
  cases o with
  | none => cases h
  | some a => exact ⟨a, rfl, h⟩
theorem kB_nar {v : Int32} (h : kB v) : narrow .boolean (.int v) = .int v := by
  rcases h with h | h <;> (subst h; rfl)
theorem kB_fit {v : Int32} (h : kB v) : fits .boolean (.int v) = true := by
  rcases h with h | h <;> (subst h; rfl)
abbrev kTy (cA : ClassId) : List (ClassId × FieldType) := [(cA, .int)]
def kPc (D : va_G) (cA : ClassId) (av : List Value) (w : va_W) (sz : Nat) : Array Value → State → Prop := va_Pc av (fun U => U.heap.size = sz ∧ va_P D vwCl w U.heap ∧ va_K D vwCl (kTy cA) U ∧ va_D (fun _ => True) w ∧ kN U)
def kQi (D : va_G) (cA : ClassId) (ok : Int32 → Prop) (A : Nat → Prop) (w : va_W) (r : Int32) : Array Value → State → Outcome → State → Prop := va_Qi (fun (r' : Int32) (_ : Unit) => r' = r ∧ ok r) (fun _ t => va_P D vwCl w t.heap ∧ va_K D vwCl (kTy cA) t ∧ va_D A w) A
def kQv (D : va_G) (cA : ClassId) (A : Nat → Prop) (w : va_W) : Array Value → State → Outcome → State → Prop := va_Qv (fun (_ : Unit) => True) (fun _ t => va_P D vwCl w t.heap ∧ va_K D vwCl (kTy cA) t ∧ va_D A w) A
def kQr (D : va_G) (cA : ClassId) (A : Nat → Prop) (w : va_W) (a0 : Nat) : Array Value → State → Outcome → State → Prop := va_Qr (fun (_ : Unit) => True) (fun _ a t => a = a0 ∧ va_P D vwCl w t.heap ∧ va_K D vwCl (kTy cA) t ∧ va_D A w) A
def kQn {α : Type} (D : va_G) (cA : ClassId) (A : Nat → Prop) (wv : α → va_W) : Array Value → State → Outcome → State → Prop := va_Qv (fun (_ : α) => True) (fun u t => va_P D vwCl (wv u) t.heap ∧ va_K D vwCl (kTy cA) t ∧ va_D A (wv u)) A
theorem kPc_blind (D : va_G) (cA : ClassId) (av : List Value) (w : va_W) (sz : Nat) : FrameBlind (kPc D cA av w sz) := fun a U g mk q => by
  obtain ⟨q0, q1, qP, qK, qD, qN⟩ := q
  exact ⟨q0, q1, qP, va_K.moved (u := U) (U := U.calling g mk a) (Vm.Alike.refl U.vm) qK, qD, kN_same (U := U.calling g mk a) rfl qN⟩
def kX (p : Program) (cc : ByteArray) (nL : Nat) (ret : Option FieldType) (own mn : String) (Ts : List Cond) (s : State) (m : MethodId) (args : Array Value) (meth : Method) (c : Code) : Prop :=
  p.tables.exec = Jvm.exec ∧ c.code = cc ∧ meth.sig.returnType = ret ∧ c.maxLocals = nL ∧ s.vm.findClass own = some m.cls ∧ (∀ w ∈ Ts, w.before args s = true) ∧ meth.locks = false ∧ meth.name = mn
/-- a contract out of a walk from the method's entry -/
theorem k_met {l : Launch} {y : MethodName} {ws ws' : List Cond} {rm : Room} {cc : ByteArray} {maxL : Nat} {ret : Option FieldType} {D : va_G} {cA : ClassId} {av : List Value} {w : va_W} {sz mc ms : Nat} {Qc : (Nat → Prop) → Array Value → State → Outcome → State → Prop}
    (hy : plainName y.cls = true) (hw : ws = Cond.code y cc maxL ret :: ws') (hn : (lg_sl av).length ≤ maxL)
    (body : ∀ (p : Program) (e : Env) (s : State) (m : MethodId) (below : List Frame) (meth : Method) (c : Code) (A : Nat → Prop) (ls : Array Slot), kX p cc maxL ret y.cls y.name ws s m av.toArray meth c → va_K D vwCl (kTy cA) s → kN s → (∀ q : Nat, s.heap.size ≤ q → A q) → va_P D vwCl w s.heap → va_D A w → lv_has ls maxL (lv_args 0 av) →
      W p l e rm s m av.toArray below meth c s.heap [] 0 0 (MQ below (Qc A) av.toArray s mc ms A) (F0 m 0 ls [])) :
    Met l y ws rm (kPc D cA av w sz) (Qc (va_A w sz)) mc ms (va_A w sz) := by
  refine Met.ofW (cc := cc) (maxL := maxL) (ret := ret) hy hw ?_
  intro p e s m args below meth c s₁ B hml hv
  obtain ⟨rfl, hsz, hP, hK, hD0, hN⟩ := hv
  have hts := atoms_spec (ws := ws) B.pre
  have hown : s.vm.findClass y.cls = some m.cls := findClass_of_methodNamed B.named
  subst hsz
  have hl := lv_entry av (n := maxL) hn
  rw [lg_entry_eq]
  exact body p e s m below meth c _ _ ⟨B.exec, B.bytes, B.returns, hml, hown, hts, B.notSynchronized, (name_of_methodNamed B.named B.method).1⟩ hK hN (fun q h => Or.inr h) hP hD0.self hl
section KW
variable {p : Program} {l : Launch} {e : Env} {R : Room} {s : State} {m : MethodId} {args : Array Value} {below : List Frame} {meth : Method} {c : Code} {H : Heap} {locs : List Loc} {cells slots : Nat} {Q : State → Prop}
variable {cc bytes : ByteArray} {nL maxL n index : Nat} {own C host : String} {y : MethodName} {ret : Option FieldType} {wsy Ts : List Cond} {rm : Room} {D : va_G} {cA : ClassId} {A : Nat → Prop} {H0 : Heap} {pc : Nat} {ls : Array Slot} {rest st0 : List Value} {b a0 : Nat} {As : List Value} {ws wc w1 w2 : va_W} {ok : Int32 → Prop} {r v : Int32}
theorem k_iret (hx : p.tables.exec = Jvm.exec) (hb : c.code = cc) (hr : meth.sig.returnType = some .int) (hlocks : meth.locks = false) (hK : va_K D vwCl (kTy cA) s) (hP : va_P D vwCl ws H) (hD : va_D A ws) (hS : va_S A s.heap H locs) (hv : ok v) (hdg : decode cc pc = .ok (.ireturn, 1)) :
    W p l e R s m args below meth c H locs cells slots (MQ below (kQi D cA ok A ws v) args s cells slots A) (F0 m pc ls [.int v]) :=
  W.iret hx hb hr (fun t ht hW => ⟨⟨v, (), rfl, ⟨rfl, hv⟩, by rw [ht]; exact hP, va_K.moved hW.alike hK, hD⟩, hS.F ht⟩) hS.2.2 hdg hlocks
theorem k_zret (hx : p.tables.exec = Jvm.exec) (hb : c.code = cc) (hr : meth.sig.returnType = some .boolean) (hlocks : meth.locks = false) (hK : va_K D vwCl (kTy cA) s) (hP : va_P D vwCl ws H) (hD : va_D A ws) (hS : va_S A s.heap H locs) (hv : kB v) (hdg : decode cc pc = .ok (.ireturn, 1)) :
    W p l e R s m args below meth c H locs cells slots (MQ below (kQi D cA kB A ws v) args s cells slots A) (F0 m pc ls [.int v]) :=
  W.zret hx hb hr (kB_nar hv) (fun t ht hW => ⟨⟨v, (), rfl, ⟨rfl, hv⟩, by rw [ht]; exact hP, va_K.moved hW.alike hK, hD⟩, hS.F ht⟩) hS.2.2 hdg hlocks
theorem k_vret (hx : p.tables.exec = Jvm.exec) (hb : c.code = cc) (hr : meth.sig.returnType = none) (hlocks : meth.locks = false) (hK : va_K D vwCl (kTy cA) s) (hP : va_P D vwCl ws H) (hD : va_D A ws) (hS : va_S A s.heap H locs) (hdg : decode cc pc = .ok (.return_, 1)) :
    W p l e R s m args below meth c H locs cells slots (MQ below (kQv D cA A ws) args s cells slots A) (F0 m pc ls []) :=
  W.vret hx hb hr (fun t ht hW => ⟨⟨(), rfl, trivial, by rw [ht]; exact hP, va_K.moved hW.alike hK, hD⟩, hS.F ht⟩) hS.2.2 hdg hlocks
theorem k_rret {cn : String} (hx : p.tables.exec = Jvm.exec) (hb : c.code = cc) (hr : meth.sig.returnType = some (.object cn)) (hlocks : meth.locks = false) (hK : va_K D vwCl (kTy cA) s) (hP : va_P D vwCl ws H) (hD : va_D A ws) (hS : va_S A s.heap H locs) (hdg : decode cc pc = .ok (.areturn, 1)) :
    W p l e R s m args below meth c H locs cells slots (MQ below (kQr D cA A ws a0) args s cells slots A) (F0 m pc ls [.ref a0]) :=
  W.aret hx hb hr (Or.inl ⟨cn, rfl⟩) (Or.inr ⟨a0, rfl⟩) (fun t ht hW => ⟨⟨(), a0, rfl, trivial, rfl, by rw [ht]; exact hP, va_K.moved hW.alike hK, hD⟩, hS.F ht⟩) hS.2.2 hdg hlocks
/-- the callee's cells wc at the places isC of ws; the others at isR; behind the call, others and callee's (w1), put in the order isP, are w2 -/
def k_cut (ws wc w1 w2 : va_W) (isC isR isP : List Nat) : Prop :=
  isC.map (fun i => ws[i]?) = wc.map some ∧ isC.filterMap (fun i => ws[i]?) = wc ∧ va_nd isC = true ∧ isR.map (fun i => ws[i]?) = (isR.filterMap (fun i => ws[i]?)).map some ∧ va_nd isR = true ∧ (∀ i ∈ isR, i ∉ isC) ∧ isP.map (fun i => (isR.filterMap (fun i => ws[i]?) ++ w1)[i]?) = w2.map some ∧ isP.filterMap (fun i => (isR.filterMap (fun i => ws[i]?) ++ w1)[i]?) = w2 ∧ va_nd isP = true
theorem k_vi (S : CallFix p m c cc nL s args Ts own) (hM : Met l y wsy rm (kPc D cA (.ref b :: As) wc H.size) (kQi D cA ok (va_A wc H.size) w1 r) 0 0 (va_A wc H.size)) (cw : CallW R s args own C index y bytes maxL ret wsy rm 0 0 n) (hK : va_K D vwCl (kTy cA) s) (hN : kN s) (hP : va_P D vwCl ws H) (hD : va_D A ws) (hS : va_S A H0 H locs) (hA : ∀ q, H0.size ≤ q → A q)
    (isC isR isP : List Nat) (hcut : k_cut ws wc w1 w2 isC isR isP) (hv : ∃ cell : Cell, H[b]? = some cell ∧ cell.vm.isStatics = false ∧ s.vm.findClass C = some cell.cls) (hn : As.length = n) (hsz : ls.size = nL) (hst : st0 = As.reverse ++ .ref b :: rest) (hrm : (rest.map fun v => v.category).sum ≤ 8) (hdg : decode cc pc = .ok (.invokevirtual index, 3)) (hf : cells + 0 ≤ R.cells ∧ slots + 0 ≤ R.slots)
    (kk : ok r → ∀ (H : Heap) (locs : List Loc), va_P D vwCl w2 H → va_D A w2 → va_S A H0 H locs → W p l e R s m args below meth c H locs cells slots Q (F0 m (pc + 3) ls (.int r :: rest))) : W p l e R s m args below meth c H locs cells slots Q (F0 m pc ls st0) := by
  obtain ⟨h1, h2, h3, h4, h5, h6, h7, h8, h9⟩ := hcut
  have hPc := hP.sub isC h2
  have hDc := hD.sub isC h3 h1
  have hFc := va_free hD hS hA isC h1
  refine va_calli (va_runV (As := As) (rest := rest) S hM cw ⟨kPc_blind _ _ _ _ _, hv, fun U hU hW => ⟨rfl, by rw [hU], by rw [hU]; exact hPc, va_K.moved hW.alike hK, hDc.weaken (fun _ _ _ _ => trivial), kN_warm hW hN⟩⟩ rfl hn hsz hst (lv_room hrm) hdg hf) hS (fun q _ h => hFc q h) hFc (fun r' u t H1 locs1 ht hvm hw hB hz1 hk1 hS1 => ?_)
  obtain ⟨hP1, hK1, hD1⟩ := hB
  rw [ht] at hP1
  obtain ⟨hw, hok⟩ := hw
  subst hw
  obtain ⟨hP2, hD2⟩ := va_join hP hD isC isR h1 h4 h5 h6 hk1 hFc hP1 hD1
  exact kk hok H1 locs1 (hP2.sub isP h8) (hD2.sub isP h9 h7) hS1
theorem k_vv (S : CallFix p m c cc nL s args Ts own) (hM : Met l y wsy rm (kPc D cA (.ref b :: As) wc H.size) (kQv D cA (va_A wc H.size) w1) 0 0 (va_A wc H.size)) (cw : CallW R s args own C index y bytes maxL ret wsy rm 0 0 n) (hK : va_K D vwCl (kTy cA) s) (hN : kN s) (hP : va_P D vwCl ws H) (hD : va_D A ws) (hS : va_S A H0 H locs) (hA : ∀ q, H0.size ≤ q → A q)
    (isC isR isP : List Nat) (hcut : k_cut ws wc w1 w2 isC isR isP) (hv : ∃ cell : Cell, H[b]? = some cell ∧ cell.vm.isStatics = false ∧ s.vm.findClass C = some cell.cls) (hn : As.length = n) (hsz : ls.size = nL) (hst : st0 = As.reverse ++ .ref b :: rest) (hrm : (rest.map fun v => v.category).sum ≤ 8) (hdg : decode cc pc = .ok (.invokevirtual index, 3)) (hf : cells + 0 ≤ R.cells ∧ slots + 0 ≤ R.slots)
    (kk : ∀ (H : Heap) (locs : List Loc), va_P D vwCl w2 H → va_D A w2 → va_S A H0 H locs → W p l e R s m args below meth c H locs cells slots Q (F0 m (pc + 3) ls rest)) : W p l e R s m args below meth c H locs cells slots Q (F0 m pc ls st0) := by
  obtain ⟨h1, h2, h3, h4, h5, h6, h7, h8, h9⟩ := hcut
  have hPc := hP.sub isC h2
  have hDc := hD.sub isC h3 h1
  have hFc := va_free hD hS hA isC h1
  refine va_callv (va_runV (As := As) (rest := rest) S hM cw ⟨kPc_blind _ _ _ _ _, hv, fun U hU hW => ⟨rfl, by rw [hU], by rw [hU]; exact hPc, va_K.moved hW.alike hK, hDc.weaken (fun _ _ _ _ => trivial), kN_warm hW hN⟩⟩ rfl hn hsz hst (lv_room hrm) hdg hf) hS (fun q _ h => hFc q h) hFc (fun u t H1 locs1 ht hvm hw hB hz1 hk1 hS1 => ?_)
  obtain ⟨hP1, hK1, hD1⟩ := hB
  rw [ht] at hP1
  obtain ⟨hP2, hD2⟩ := va_join hP hD isC isR h1 h4 h5 h6 hk1 hFc hP1 hD1
  exact kk H1 locs1 (hP2.sub isP h8) (hD2.sub isP h9 h7) hS1
theorem k_vr (S : CallFix p m c cc nL s args Ts own) (hM : Met l y wsy rm (kPc D cA (.ref b :: As) wc H.size) (kQr D cA (va_A wc H.size) w1 a0) 0 0 (va_A wc H.size)) (cw : CallW R s args own C index y bytes maxL ret wsy rm 0 0 n) (hK : va_K D vwCl (kTy cA) s) (hN : kN s) (hP : va_P D vwCl ws H) (hD : va_D A ws) (hS : va_S A H0 H locs) (hA : ∀ q, H0.size ≤ q → A q)
    (isC isR isP : List Nat) (hcut : k_cut ws wc w1 w2 isC isR isP) (hv : ∃ cell : Cell, H[b]? = some cell ∧ cell.vm.isStatics = false ∧ s.vm.findClass C = some cell.cls) (hn : As.length = n) (hsz : ls.size = nL) (hst : st0 = As.reverse ++ .ref b :: rest) (hrm : (rest.map fun v => v.category).sum ≤ 8) (hdg : decode cc pc = .ok (.invokevirtual index, 3)) (hf : cells + 0 ≤ R.cells ∧ slots + 0 ≤ R.slots)
    (kk : ∀ (H : Heap) (locs : List Loc), va_P D vwCl w2 H → va_D A w2 → va_S A H0 H locs → W p l e R s m args below meth c H locs cells slots Q (F0 m (pc + 3) ls (.ref a0 :: rest))) : W p l e R s m args below meth c H locs cells slots Q (F0 m pc ls st0) := by
  obtain ⟨h1, h2, h3, h4, h5, h6, h7, h8, h9⟩ := hcut
  have hPc := hP.sub isC h2
  have hDc := hD.sub isC h3 h1
  have hFc := va_free hD hS hA isC h1
  refine va_callr (va_runV (As := As) (rest := rest) S hM cw ⟨kPc_blind _ _ _ _ _, hv, fun U hU hW => ⟨rfl, by rw [hU], by rw [hU]; exact hPc, va_K.moved hW.alike hK, hDc.weaken (fun _ _ _ _ => trivial), kN_warm hW hN⟩⟩ rfl hn hsz hst (lv_room hrm) hdg hf) hS (fun q _ h => hFc q h) hFc (fun u ra t H1 locs1 ht hvm hw hB hz1 hk1 hS1 => ?_)
  obtain ⟨hra, hP1, hK1, hD1⟩ := hB
  rw [ht] at hP1
  subst hra
  obtain ⟨hP2, hD2⟩ := va_join hP hD isC isR h1 h4 h5 h6 hk1 hFc hP1 hD1
  exact kk H1 locs1 (hP2.sub isP h8) (hD2.sub isP h9 h7) hS1
/-- a static method that has no world: the cells stay -/
theorem k_s0 (S : CallFix p m c cc nL s args Ts own) (hM : Met l y wsy rm (kPc D cA As [] H.size) (kQi D cA ok (va_A [] H.size) [] r) 0 0 (va_A [] H.size)) (cw : CallB R s args own index y bytes maxL ret wsy rm 0 0 n ∧ (Cond.static y).before args s = true) (hK : va_K D vwCl (kTy cA) s) (hN : kN s) (hP : va_P D vwCl ws H) (hD : va_D A ws) (hS : va_S A H0 H locs) (hA : ∀ q, H0.size ≤ q → A q)
    (hn : As.length = n) (hsz : ls.size = nL) (hst : st0 = As.reverse ++ rest) (hrm : (rest.map fun v => v.category).sum ≤ 8) (hdg : decode cc pc = .ok (.invokestatic index, 3)) (hf : cells + 0 ≤ R.cells ∧ slots + 0 ≤ R.slots)
    (kk : ok r → ∀ (H : Heap) (locs : List Loc), va_P D vwCl ws H → va_D A ws → va_S A H0 H locs → W p l e R s m args below meth c H locs cells slots Q (F0 m (pc + 3) ls (.int r :: rest))) : W p l e R s m args below meth c H locs cells slots Q (F0 m pc ls st0) := by
  have hPc : va_P D vwCl [] H := hP.sub [] rfl
  have hDc : va_D A [] := hD.sub [] rfl rfl
  have hFc : ∀ q, va_A [] H.size q → A q := va_free (wc := []) hD hS hA [] rfl
  refine va_calli (va_runS (As := As) (rest := rest) S hM cw ⟨kPc_blind _ _ _ _ _, fun U hU hW => ⟨rfl, by rw [hU], by rw [hU]; exact hPc, va_K.moved hW.alike hK, hDc.weaken (fun _ _ _ _ => trivial), kN_warm hW hN⟩⟩ rfl hn hsz hst (lv_room hrm) hdg hf) hS (fun q _ h => hFc q h) hFc (fun r' u t H1 locs1 ht hvm hw hB hz1 hk1 hS1 => ?_)
  obtain ⟨hw, hok⟩ := hw
  subst hw
  exact kk hok H1 locs1 (hP.kept (fun k q hq => hk1 _ (hP k q hq).lt (fun hz => by
    rcases hz with ⟨k', e', he'⟩ | hz
    · simp at he'
    · exact absurd (hP k q hq).lt (Nat.not_lt.mpr hz)))) hD hS1
theorem k_n0 (S : CallFix p m c cc nL s args Ts own) (hM : Met l y wsy rm (kPc D cA As [] H.size) (kQi D cA ok (va_A [] H.size) [] r) 0 0 (va_A [] H.size)) (cw : va_CN R s args own index y host bytes maxL ret wsy rm 0 0 n ∧ (Cond.static y).before args s = true ∧ True) (hK : va_K D vwCl (kTy cA) s) (hN : kN s) (hP : va_P D vwCl ws H) (hD : va_D A ws) (hS : va_S A H0 H locs) (hA : ∀ q, H0.size ≤ q → A q)
    (hn : As.length = n) (hsz : ls.size = nL) (hst : st0 = As.reverse ++ rest) (hrm : (rest.map fun v => v.category).sum ≤ 8) (hdg : decode cc pc = .ok (.invokestatic index, 3)) (hf : cells + 0 ≤ R.cells ∧ slots + 0 ≤ R.slots)
    (kk : ok r → ∀ (H : Heap) (locs : List Loc), va_P D vwCl ws H → va_D A ws → va_S A H0 H locs → W p l e R s m args below meth c H locs cells slots Q (F0 m (pc + 3) ls (.int r :: rest))) : W p l e R s m args below meth c H locs cells slots Q (F0 m pc ls st0) := by
  have hPc : va_P D vwCl [] H := hP.sub [] rfl
  have hDc : va_D A [] := hD.sub [] rfl rfl
  have hFc : ∀ q, va_A [] H.size q → A q := va_free (wc := []) hD hS hA [] rfl
  refine va_calli (va_runSN (As := As) (rest := rest) S hM cw ⟨kPc_blind _ _ _ _ _, fun U hU hW => ⟨rfl, by rw [hU], by rw [hU]; exact hPc, va_K.moved hW.alike hK, hDc.weaken (fun _ _ _ _ => trivial), kN_warm hW hN⟩⟩ rfl hn hsz hst (lv_room hrm) hdg hf) hS (fun q _ h => hFc q h) hFc (fun r' u t H1 locs1 ht hvm hw hB hz1 hk1 hS1 => ?_)
  obtain ⟨hw, hok⟩ := hw
  subst hw
  exact kk hok H1 locs1 (hP.kept (fun k q hq => hk1 _ (hP k q hq).lt (fun hz => by
    rcases hz with ⟨k', e', he'⟩ | hz
    · simp at he'
    · exact absurd (hP k q hq).lt (Nat.not_lt.mpr hz)))) hD hS1
theorem k_nret {α : Type} {wv : α → va_W} (u : α) (hx : p.tables.exec = Jvm.exec) (hb : c.code = cc) (hr : meth.sig.returnType = none) (hlocks : meth.locks = false) (hK : va_K D vwCl (kTy cA) s) (hP : va_P D vwCl (wv u) H) (hD : va_D A (wv u)) (hS : va_S A s.heap H locs) (hdg : decode cc pc = .ok (.return_, 1)) :
    W p l e R s m args below meth c H locs cells slots (MQ below (kQn D cA A wv) args s cells slots A) (F0 m pc ls []) :=
  W.vret hx hb hr (fun t ht hW => ⟨⟨u, rfl, trivial, by rw [ht]; exact hP, va_K.moved hW.alike hK, hD⟩, hS.F ht⟩) hS.2.2 hdg hlocks
/-- a constructor's call: new cells may come, at addresses u -/
theorem k_ci {α : Type} {mc ms : Nat} {wv w3 : α → va_W} (S : CallFix p m c cc nL s args Ts own) (hM : Met l y wsy rm (kPc D cA (.ref b :: As) wc H.size) (kQn D cA (va_A wc H.size) wv) mc ms (va_A wc H.size)) (cw : CallB R s args own index y bytes maxL none wsy rm mc ms n ∧ y.name = "<init>" ∧ (Cond.instanceMethod y).before args s = true) (hK : va_K D vwCl (kTy cA) s) (hN : kN s) (hP : va_P D vwCl ws H) (hD : va_D A ws) (hS : va_S A H0 H locs) (hA : ∀ q, H0.size ≤ q → A q)
    (isC isR isP : List Nat) (hC : isC.map (fun i => ws[i]?) = wc.map some ∧ isC.filterMap (fun i => ws[i]?) = wc ∧ va_nd isC = true) (hcut : ∀ u : α, k_cut ws wc (wv u) (w3 u) isC isR isP) (hn : As.length = n) (hsz : ls.size = nL) (hst : st0 = As.reverse ++ .ref b :: rest) (hrm : (rest.map fun v => v.category).sum ≤ 8) (hdg : decode cc pc = .ok (.invokespecial index, 3)) (hf : cells + mc ≤ R.cells ∧ slots + ms ≤ R.slots)
    (kk : ∀ (u : α) (H : Heap) (locs : List Loc), va_P D vwCl (w3 u) H → va_D A (w3 u) → va_S A H0 H locs → W p l e R s m args below meth c H locs (cells + mc) (slots + ms) Q (F0 m (pc + 3) ls rest)) : W p l e R s m args below meth c H locs cells slots Q (F0 m pc ls st0) := by
  have hPc := hP.sub isC hC.2.1
  have hDc := hD.sub isC hC.2.2 hC.1
  have hFc := va_free hD hS hA isC hC.1
  refine va_callv (va_runI (As := As) (rest := rest) S hM cw ⟨kPc_blind _ _ _ _ _, fun U hU hW => ⟨rfl, by rw [hU], by rw [hU]; exact hPc, va_K.moved hW.alike hK, hDc.weaken (fun _ _ _ _ => trivial), kN_warm hW hN⟩⟩ rfl hn hsz hst (lv_room hrm) hdg hf) hS (fun q _ h => hFc q h) hFc (fun u t H1 locs1 ht hvm hw hB hz1 hk1 hS1 => ?_)
  obtain ⟨h1, h2, h3, h4, h5, h6, h7, h8, h9⟩ := hcut u
  obtain ⟨hP1, hK1, hD1⟩ := hB
  rw [ht] at hP1
  obtain ⟨hP2, hD2⟩ := va_join hP hD isC isR h1 h4 h5 h6 hk1 hFc hP1 hD1
  exact kk u H1 locs1 (hP2.sub isP h8) (hD2.sub isP h9 h7) hS1
/-- a new array of ints: its class is the one class of int arrays -/
theorem k_newa (hx : p.tables.exec = Jvm.exec) (hb : c.code = cc) (harr : (Cond.arrayClass .int).before args s = true) (hK : va_K D vwCl (kTy cA) s) (hP : va_P D vwCl ws H) (hD : va_D A ws) (hS : va_S A H0 H locs) (hA : ∀ q, H0.size ≤ q → A q) {k : Int32} {N' : Nat} (hk : ¬ k < 0) (hN : k.toNatClampNeg = N') (hbytes : N' ≤ 1000000) (hcells : cells + 1 ≤ R.cells) (hslots : slots + N' ≤ R.slots) (hdg : decode cc pc = .ok (.newarray .int, 2))
    (kk : ∀ (q : Nat) (H : Heap), va_P D vwCl (ws ++ [(q, .inl (cA, N', .inl (fun _ => 0)))]) H → va_D A (ws ++ [(q, .inl (cA, N', .inl (fun _ => 0)))]) → va_S A H0 H locs → W p l e R s m args below meth c H locs (cells + 1) (slots + N') Q (F0 m (pc + 2) ls (.ref q :: rest))) : W p l e R s m args below meth c H locs cells slots Q (F0 m pc ls (.int k :: rest)) := by
  refine va_newa (atype := .int) (ty := .int) (a0 := (N', .inl (fun _ => 0))) hx hb harr rfl hK hP hD hS hA (fun _ => rfl) hk hN (by show N' * 4 ≤ 536870912; omega) hcells hslots hdg (fun q cA' H1 hK1 hP1 hD1 hS1 => ?_)
  have e0 := (hK1.2 0 (cA, .int) rfl).2
  have e1 := (hK1.2 1 (cA', .int) rfl).2
  have e : cA = cA' := Option.some.inj (Eq.trans (Eq.symm e0) e1)
  subst e
  exact kk q H1 hP1 hD1 hS1
end KW
end
section
abbrev wG (q : Nat → Nat) (cA : ClassId) (N : Nat) (nr : Nat → Int32) : va_W := [(q 10, .inr (2, [.int (nI N), .ref (q 11)])), (q 11, .inl (cA, N, .inl nr))]
abbrev wT (q : Nat → Nat) (cA : ClassId) (N : Nat) (nr : Nat → Int32) (ss : Nat → Int32) (sc : Int32) (ns : Nat → Int32) (nc : Int32) (ps : Nat → Int32) (dg : Nat → Int32) (pn : Int32) (pj : Int32) (wh : Int32) : va_W := [(q 5, .inr (3, [.ref (q 10), .ref (q 6), .int sc, .ref (q 7), .int nc, .ref (q 8), .ref (q 9), .int pn, .int pj, .int wh])), (q 6, .inl (cA, 2 ^ (N - 1), .inl ss)), (q 7, .inl (cA, 2 ^ (N - 1), .inl ns)), (q 8, .inl (cA, N, .inl ps)), (q 9, .inl (cA, N, .inl dg)), (q 10, .inr (2, [.int (nI N), .ref (q 11)])), (q 11, .inl (cA, N, .inl nr))]
abbrev wE (q : Nat → Nat) (cA : ClassId) (N : Nat) (nr : Nat → Int32) (st : Nat → Int32) (sn : Int32) (lf : Int32) : va_W := [(q 3, .inr (1, [.ref (q 10), .ref (q 4), .int sn, .int lf])), (q 4, .inl (cA, N, .inl st)), (q 10, .inr (2, [.int (nI N), .ref (q 11)])), (q 11, .inl (cA, N, .inl nr))]
abbrev wC (q : Nat → Nat) (cA : ClassId) (N : Nat) (nr : Nat → Int32) (fw : Nat → Int32) : va_W := [(q 1, .inr (0, [.ref (q 10), .ref (q 2)])), (q 2, .inl (cA, 2 ^ N, .inl fw)), (q 10, .inr (2, [.int (nI N), .ref (q 11)])), (q 11, .inl (cA, N, .inl nr))]
abbrev wF (q : Nat → Nat) (cA : ClassId) (N : Nat) (nr : Nat → Int32) (ss : Nat → Int32) (sc : Int32) (ns : Nat → Int32) (nc : Int32) (ps : Nat → Int32) (dg : Nat → Int32) (pn : Int32) (pj : Int32) (wh : Int32) (st : Nat → Int32) (sn : Int32) (lf : Int32) (fw : Nat → Int32) : va_W := [(q 0, .inr (4, [.ref (q 10), .ref (q 5), .ref (q 3), .ref (q 1)])), (q 1, .inr (0, [.ref (q 10), .ref (q 2)])), (q 2, .inl (cA, 2 ^ N, .inl fw)), (q 3, .inr (1, [.ref (q 10), .ref (q 4), .int sn, .int lf])), (q 4, .inl (cA, N, .inl st)), (q 5, .inr (3, [.ref (q 10), .ref (q 6), .int sc, .ref (q 7), .int nc, .ref (q 8), .ref (q 9), .int pn, .int pj, .int wh])), (q 6, .inl (cA, 2 ^ (N - 1), .inl ss)), (q 7, .inl (cA, 2 ^ (N - 1), .inl ns)), (q 8, .inl (cA, N, .inl ps)), (q 9, .inl (cA, N, .inl dg)), (q 10, .inr (2, [.int (nI N), .ref (q 11)])), (q 11, .inl (cA, N, .inl nr))]
abbrev wM (q : Nat → Nat) (cA : ClassId) (N : Nat) (mr : Nat → Int32) (zn : Int32) (zs : Nat → Int32) (tn : Int32) (ts : Nat → Int32) (yn : Int32) (ys : Nat → Int32) (en : Int32) (es : Nat → Int32) (ew : Int32) (cv : Nat → Int32) : va_W := [(q 0, .inr (5, [.int (nI N), .ref (q 1), .int zn, .ref (q 2), .int tn, .ref (q 3), .int yn, .ref (q 4), .int en, .ref (q 5), .int ew, .ref (q 6)])), (q 1, .inl (cA, 9, .inl mr)), (q 2, .inl (cA, 256, .inl zs)), (q 3, .inl (cA, 256, .inl ts)), (q 4, .inl (cA, 16, .inl ys)), (q 5, .inl (cA, 9, .inl es)), (q 6, .inl (cA, 512, .inl cv))]
end
section
def mG_size (N : Nat) : Nat → Nat → List Int32 → Option Int32
  | n + 1, 0, [] => some (nI N)
  | _, _, _ => none
theorem mG_size_z (N : Nat) (b : Nat) (l : List Int32) : mG_size N 0 b l = none := by first | rfl | (cases b <;> rfl) | simp [mG_size]
theorem mG_size_e0 (N : Nat) (n : Nat) : mG_size N (n + 1) 0 [] = some (nI N) := rfl
def mF_vertices (N : Nat) : Nat → Nat → List Int32 → Option Int32
  | n + 1, 0, [] => (mG_size N n 0 []).bind fun r11 => some r11
  | _, _, _ => none
theorem mF_vertices_z (N : Nat) (b : Nat) (l : List Int32) : mF_vertices N 0 b l = none := by first | rfl | (cases b <;> rfl) | simp [mF_vertices]
theorem mF_vertices_e0 (N : Nat) (n : Nat) : mF_vertices N (n + 1) 0 [] = (mG_size N n 0 []).bind fun r11 => some r11 := rfl
def mG_has (N : Nat) : Nat → Nat → List Int32 → Option Int32
  | n + 1, 0, [x1] => (if x1 < 0 then some (0 : Int32) else (if (nI N) ≤ x1 then some (0 : Int32) else some (1 : Int32)))
  | _, _, _ => none
theorem mG_has_z (N : Nat) (b : Nat) (l : List Int32) : mG_has N 0 b l = none := by first | rfl | (cases b <;> rfl) | simp [mG_has]
theorem mG_has_e0 (N : Nat) (n : Nat) (x1 : Int32) : mG_has N (n + 1) 0 [x1] = (if x1 < 0 then some (0 : Int32) else (if (nI N) ≤ x1 then some (0 : Int32) else some (1 : Int32))) := rfl
def mG_toggle (N : Nat) : Nat → Nat → List Int32 → (Nat → Int32) → Option (Nat → Int32)
  | n + 1, 0, [x1, x2], nr => kg x1 N (kg x1 N (kg x2 N (kg x2 N (some (upd (upd nr x1.toNatClampNeg ((nr x1.toNatClampNeg) ^^^ ((1 : Int32) <<< (x2 &&& 31)))) x2.toNatClampNeg (((upd nr x1.toNatClampNeg ((nr x1.toNatClampNeg) ^^^ ((1 : Int32) <<< (x2 &&& 31)))) x2.toNatClampNeg) ^^^ ((1 : Int32) <<< (x1 &&& 31))))))))
  | _, _, _, _ => none
theorem mG_toggle_z (N : Nat) (b : Nat) (l : List Int32) (nr : Nat → Int32) : mG_toggle N 0 b l nr = none := by first | rfl | (cases b <;> rfl) | simp [mG_toggle]
theorem mG_toggle_e0 (N : Nat) (n : Nat) (x1 x2 : Int32) (nr : Nat → Int32) : mG_toggle N (n + 1) 0 [x1, x2] nr = kg x1 N (kg x1 N (kg x2 N (kg x2 N (some (upd (upd nr x1.toNatClampNeg ((nr x1.toNatClampNeg) ^^^ ((1 : Int32) <<< (x2 &&& 31)))) x2.toNatClampNeg (((upd nr x1.toNatClampNeg ((nr x1.toNatClampNeg) ^^^ ((1 : Int32) <<< (x2 &&& 31)))) x2.toNatClampNeg) ^^^ ((1 : Int32) <<< (x1 &&& 31)))))))) := rfl
def mT_forget (N : Nat) : Nat → Nat → List Int32 → Int32 → Option Int32
  | n + 1, 0, [], wh => some (0 : Int32)
  | _, _, _, _ => none
theorem mT_forget_z (N : Nat) (b : Nat) (l : List Int32) (wh : Int32) : mT_forget N 0 b l wh = none := by first | rfl | (cases b <;> rfl) | simp [mT_forget]
theorem mT_forget_e0 (N : Nat) (n : Nat) (wh : Int32) : mT_forget N (n + 1) 0 [] wh = some (0 : Int32) := rfl
def mF_contains : Nat → Nat → List Int32 → Option Int32
  | n + 1, 0, [x0, x1] => (if ((x0 >>> (x1 &&& 31)) &&& 1) = 0 then some (0 : Int32) else some (1 : Int32))
  | _, _, _ => none
theorem mF_contains_z (b : Nat) (l : List Int32) : mF_contains  0 b l = none := by first | rfl | (cases b <;> rfl) | simp [mF_contains]
theorem mF_contains_e0 (n : Nat) (x0 x1 : Int32) : mF_contains  (n + 1) 0 [x0, x1] = (if ((x0 >>> (x1 &&& 31)) &&& 1) = 0 then some (0 : Int32) else some (1 : Int32)) := rfl
def mG_edge (N : Nat) (nr : Nat → Int32) : Nat → Nat → List Int32 → Option Int32
  | n + 1, 0, [x1, x2] => kg x1 N ((mF_contains n 0 [(nr x1.toNatClampNeg), x2]).bind fun r12 => some r12)
  | _, _, _ => none
theorem mG_edge_z (N : Nat) (nr : Nat → Int32) (b : Nat) (l : List Int32) : mG_edge N nr 0 b l = none := by first | rfl | (cases b <;> rfl) | simp [mG_edge]
theorem mG_edge_e0 (N : Nat) (nr : Nat → Int32) (n : Nat) (x1 x2 : Int32) : mG_edge N nr (n + 1) 0 [x1, x2] = kg x1 N ((mF_contains n 0 [(nr x1.toNatClampNeg), x2]).bind fun r12 => some r12) := rfl
def mF_flip (N : Nat) : Nat → Nat → List Int32 → (Nat → Int32) → Int32 → Option (Int32 × (Nat → Int32) × Int32)
  | n + 1, 0, [x1, x2], nr, wh => (mG_has N n 0 [x1]).bind fun r11 => (if r11 = 0 then some ((0 : Int32), nr, wh) else (mG_has N n 0 [x2]).bind fun r13 => (if r13 = 0 then some ((0 : Int32), nr, wh) else (if x1 = x2 then some ((0 : Int32), nr, wh) else (mG_toggle N n 0 [x1, x2] nr).bind fun nr_16 => (mT_forget N n 0 [] wh).bind fun wh_17 => (mG_edge N nr_16 n 0 [x1, x2]).bind fun r18 => some (r18, nr_16, wh_17))))
  | _, _, _, _, _ => none
theorem mF_flip_z (N : Nat) (b : Nat) (l : List Int32) (nr : Nat → Int32) (wh : Int32) : mF_flip N 0 b l nr wh = none := by first | rfl | (cases b <;> rfl) | simp [mF_flip]
theorem mF_flip_e0 (N : Nat) (n : Nat) (x1 x2 : Int32) (nr : Nat → Int32) (wh : Int32) : mF_flip N (n + 1) 0 [x1, x2] nr wh = (mG_has N n 0 [x1]).bind fun r11 => (if r11 = 0 then some ((0 : Int32), nr, wh) else (mG_has N n 0 [x2]).bind fun r13 => (if r13 = 0 then some ((0 : Int32), nr, wh) else (if x1 = x2 then some ((0 : Int32), nr, wh) else (mG_toggle N n 0 [x1, x2] nr).bind fun nr_16 => (mT_forget N n 0 [] wh).bind fun wh_17 => (mG_edge N nr_16 n 0 [x1, x2]).bind fun r18 => some (r18, nr_16, wh_17)))) := rfl
def mF_neighbours (N : Nat) (nr : Nat → Int32) : Nat → Nat → List Int32 → Option Int32
  | n + 1, 0, [x1, x2] => (mG_has N n 0 [x1]).bind fun r11 => (if r11 = 0 then some (0 : Int32) else (mG_has N n 0 [x2]).bind fun r13 => (if r13 = 0 then some (0 : Int32) else (mG_edge N nr n 0 [x1, x2]).bind fun r15 => (if r15 = 0 then some (0 : Int32) else some (1 : Int32))))
  | _, _, _ => none
theorem mF_neighbours_z (N : Nat) (nr : Nat → Int32) (b : Nat) (l : List Int32) : mF_neighbours N nr 0 b l = none := by first | rfl | (cases b <;> rfl) | simp [mF_neighbours]
theorem mF_neighbours_e0 (N : Nat) (nr : Nat → Int32) (n : Nat) (x1 x2 : Int32) : mF_neighbours N nr (n + 1) 0 [x1, x2] = (mG_has N n 0 [x1]).bind fun r11 => (if r11 = 0 then some (0 : Int32) else (mG_has N n 0 [x2]).bind fun r13 => (if r13 = 0 then some (0 : Int32) else (mG_edge N nr n 0 [x1, x2]).bind fun r15 => (if r15 = 0 then some (0 : Int32) else some (1 : Int32)))) := rfl
def mG_all (N : Nat) : Nat → Nat → List Int32 → Option Int32
  | n + 1, 0, [] => some (((1 : Int32) <<< ((nI N) &&& 31)) - 1)
  | _, _, _ => none
theorem mG_all_z (N : Nat) (b : Nat) (l : List Int32) : mG_all N 0 b l = none := by first | rfl | (cases b <;> rfl) | simp [mG_all]
theorem mG_all_e0 (N : Nat) (n : Nat) : mG_all N (n + 1) 0 [] = some (((1 : Int32) <<< ((nI N) &&& 31)) - 1) := rfl
def mG_nearToAny (N : Nat) (nr : Nat → Int32) : Nat → Nat → List Int32 → Option Int32
  | n + 1, 0, [x1, x2] => mG_nearToAny N nr n 1 [x1, x2, 0, 0]
  | n + 1, 1, [x1, x2, x3, x4] => (if (nI N) ≤ x4 then some x3 else (mF_contains n 0 [x1, x4]).bind fun r112 => (if r112 = 0 then mG_nearToAny N nr n 1 [x1, x2, x3, (x4 + 1)] else kg x4 N (kl (x3 ||| ((nr x4.toNatClampNeg) &&& x2)) fun x3_115 => mG_nearToAny N nr n 1 [x1, x2, x3_115, (x4 + 1)])))
  | _, _, _ => none
theorem mG_nearToAny_z (N : Nat) (nr : Nat → Int32) (b : Nat) (l : List Int32) : mG_nearToAny N nr 0 b l = none := by first | rfl | (cases b <;> rfl) | simp [mG_nearToAny]
theorem mG_nearToAny_e0 (N : Nat) (nr : Nat → Int32) (n : Nat) (x1 x2 : Int32) : mG_nearToAny N nr (n + 1) 0 [x1, x2] = mG_nearToAny N nr n 1 [x1, x2, 0, 0] := rfl
theorem mG_nearToAny_e1 (N : Nat) (nr : Nat → Int32) (n : Nat) (x1 x2 x3 x4 : Int32) : mG_nearToAny N nr (n + 1) 1 [x1, x2, x3, x4] = (if (nI N) ≤ x4 then some x3 else (mF_contains n 0 [x1, x4]).bind fun r112 => (if r112 = 0 then mG_nearToAny N nr n 1 [x1, x2, x3, (x4 + 1)] else kg x4 N (kl (x3 ||| ((nr x4.toNatClampNeg) &&& x2)) fun x3_115 => mG_nearToAny N nr n 1 [x1, x2, x3_115, (x4 + 1)]))) := rfl
def mG_reached (N : Nat) (nr : Nat → Int32) : Nat → Nat → List Int32 → Option Int32
  | n + 1, 0, [x1, x2] => kl ((1 : Int32) <<< (x1 &&& 31)) fun x3_11 => mG_reached N nr n 1 [x2, x3_11, 0]
  | n + 1, 1, [x2, x3, x4] => (if (nI N) ≤ x4 then some x3 else (mG_nearToAny N nr n 0 [x3, x2]).bind fun r112 => kl (x3 ||| r112) fun x5_113 => (if x5_113 = x3 then some x3 else mG_reached N nr n 1 [x2, x5_113, (x4 + 1)]))
  | _, _, _ => none
theorem mG_reached_z (N : Nat) (nr : Nat → Int32) (b : Nat) (l : List Int32) : mG_reached N nr 0 b l = none := by first | rfl | (cases b <;> rfl) | simp [mG_reached]
theorem mG_reached_e0 (N : Nat) (nr : Nat → Int32) (n : Nat) (x1 x2 : Int32) : mG_reached N nr (n + 1) 0 [x1, x2] = kl ((1 : Int32) <<< (x1 &&& 31)) fun x3_11 => mG_reached N nr n 1 [x2, x3_11, 0] := rfl
theorem mG_reached_e1 (N : Nat) (nr : Nat → Int32) (n : Nat) (x2 x3 x4 : Int32) : mG_reached N nr (n + 1) 1 [x2, x3, x4] = (if (nI N) ≤ x4 then some x3 else (mG_nearToAny N nr n 0 [x3, x2]).bind fun r112 => kl (x3 ||| r112) fun x5_113 => (if x5_113 = x3 then some x3 else mG_reached N nr n 1 [x2, x5_113, (x4 + 1)])) := rfl
def mF_componentOf (N : Nat) (nr : Nat → Int32) : Nat → Nat → List Int32 → Option Int32
  | n + 1, 0, [x1] => (mG_all N n 0 []).bind fun r11 => (mG_reached N nr n 0 [x1, r11]).bind fun r12 => some r12
  | _, _, _ => none
theorem mF_componentOf_z (N : Nat) (nr : Nat → Int32) (b : Nat) (l : List Int32) : mF_componentOf N nr 0 b l = none := by first | rfl | (cases b <;> rfl) | simp [mF_componentOf]
theorem mF_componentOf_e0 (N : Nat) (nr : Nat → Int32) (n : Nat) (x1 : Int32) : mF_componentOf N nr (n + 1) 0 [x1] = (mG_all N n 0 []).bind fun r11 => (mG_reached N nr n 0 [x1, r11]).bind fun r12 => some r12 := rfl
def mF_component (N : Nat) (nr : Nat → Int32) : Nat → Nat → List Int32 → Option Int32
  | n + 1, 0, [x1] => (mG_has N n 0 [x1]).bind fun r11 => (if r11 = 0 then some (0 : Int32) else (mF_componentOf N nr n 0 [x1]).bind fun r13 => some r13)
  | _, _, _ => none
theorem mF_component_z (N : Nat) (nr : Nat → Int32) (b : Nat) (l : List Int32) : mF_component N nr 0 b l = none := by first | rfl | (cases b <;> rfl) | simp [mF_component]
theorem mF_component_e0 (N : Nat) (nr : Nat → Int32) (n : Nat) (x1 : Int32) : mF_component N nr (n + 1) 0 [x1] = (mG_has N n 0 [x1]).bind fun r11 => (if r11 = 0 then some (0 : Int32) else (mF_componentOf N nr n 0 [x1]).bind fun r13 => some r13) := rfl
def mJ_bitCount : Nat → Nat → List Int32 → Option Int32
  | n + 1, 0, [x0] => kl (x0 - ((x0.toUInt32 >>> ((1 : Int32).toUInt32 &&& Int32.toUInt32 31)).toInt32 &&& 1431655765)) fun x0_11 => kl ((x0_11 &&& 858993459) + ((x0_11.toUInt32 >>> ((2 : Int32).toUInt32 &&& Int32.toUInt32 31)).toInt32 &&& 858993459)) fun x0_12 => kl ((x0_12 + (x0_12.toUInt32 >>> ((4 : Int32).toUInt32 &&& Int32.toUInt32 31)).toInt32) &&& 252645135) fun x0_13 => kl (x0_13 + (x0_13.toUInt32 >>> ((8 : Int32).toUInt32 &&& Int32.toUInt32 31)).toInt32) fun x0_14 => kl (x0_14 + (x0_14.toUInt32 >>> ((16 : Int32).toUInt32 &&& Int32.toUInt32 31)).toInt32) fun x0_15 => some (x0_15 &&& 63)
  | _, _, _ => none
theorem mJ_bitCount_z (b : Nat) (l : List Int32) : mJ_bitCount  0 b l = none := by first | rfl | (cases b <;> rfl) | simp [mJ_bitCount]
theorem mJ_bitCount_e0 (n : Nat) (x0 : Int32) : mJ_bitCount  (n + 1) 0 [x0] = kl (x0 - ((x0.toUInt32 >>> ((1 : Int32).toUInt32 &&& Int32.toUInt32 31)).toInt32 &&& 1431655765)) fun x0_11 => kl ((x0_11 &&& 858993459) + ((x0_11.toUInt32 >>> ((2 : Int32).toUInt32 &&& Int32.toUInt32 31)).toInt32 &&& 858993459)) fun x0_12 => kl ((x0_12 + (x0_12.toUInt32 >>> ((4 : Int32).toUInt32 &&& Int32.toUInt32 31)).toInt32) &&& 252645135) fun x0_13 => kl (x0_13 + (x0_13.toUInt32 >>> ((8 : Int32).toUInt32 &&& Int32.toUInt32 31)).toInt32) fun x0_14 => kl (x0_14 + (x0_14.toUInt32 >>> ((16 : Int32).toUInt32 &&& Int32.toUInt32 31)).toInt32) fun x0_15 => some (x0_15 &&& 63) := rfl
def mG_nearInside (N : Nat) (nr : Nat → Int32) : Nat → Nat → List Int32 → Option Int32
  | n + 1, 0, [x1, x2] => kg x1 N (some ((nr x1.toNatClampNeg) &&& x2))
  | _, _, _ => none
theorem mG_nearInside_z (N : Nat) (nr : Nat → Int32) (b : Nat) (l : List Int32) : mG_nearInside N nr 0 b l = none := by first | rfl | (cases b <;> rfl) | simp [mG_nearInside]
theorem mG_nearInside_e0 (N : Nat) (nr : Nat → Int32) (n : Nat) (x1 x2 : Int32) : mG_nearInside N nr (n + 1) 0 [x1, x2] = kg x1 N (some ((nr x1.toNatClampNeg) &&& x2)) := rfl
def mT_isSplit (N : Nat) (nr : Nat → Int32) : Nat → Nat → List Int32 → Option Int32
  | n + 1, 0, [x1, x2] => (mJ_bitCount n 0 [x1]).bind fun r11 => (if r11 < 2 then some (0 : Int32) else (mJ_bitCount n 0 [x2]).bind fun r13 => (if 2 ≤ r13 then mT_isSplit N nr n 1 [x1, x2, 0, 0] else some (0 : Int32)))
  | n + 1, 1, [x1, x2, x3, x4] => (mG_size N n 0 []).bind fun r111 => (if r111 ≤ x4 then some (1 : Int32) else (mF_contains n 0 [x1, x4]).bind fun r113 => (if r113 = 0 then mT_isSplit N nr n 2 [x1, x2, x3, x4, 0] else (mG_nearInside N nr n 0 [x4, x2]).bind fun r115 => mT_isSplit N nr n 2 [x1, x2, x3, x4, r115]))
  | n + 1, 2, [x1, x2, x3, x4, y0] => (if y0 = 0 then mT_isSplit N nr n 3 [x1, x2, x3, x4, y0] else (if x3 = 0 then mT_isSplit N nr n 3 [x1, x2, x3, x4, y0] else (if y0 = x3 then mT_isSplit N nr n 3 [x1, x2, x3, x4, y0] else some (0 : Int32))))
  | n + 1, 3, [x1, x2, x3, x4, x5] => kl (x3 ||| x5) fun x3_311 => mT_isSplit N nr n 1 [x1, x2, x3_311, (x4 + 1)]
  | _, _, _ => none
theorem mT_isSplit_z (N : Nat) (nr : Nat → Int32) (b : Nat) (l : List Int32) : mT_isSplit N nr 0 b l = none := by first | rfl | (cases b <;> rfl) | simp [mT_isSplit]
theorem mT_isSplit_e0 (N : Nat) (nr : Nat → Int32) (n : Nat) (x1 x2 : Int32) : mT_isSplit N nr (n + 1) 0 [x1, x2] = (mJ_bitCount n 0 [x1]).bind fun r11 => (if r11 < 2 then some (0 : Int32) else (mJ_bitCount n 0 [x2]).bind fun r13 => (if 2 ≤ r13 then mT_isSplit N nr n 1 [x1, x2, 0, 0] else some (0 : Int32))) := rfl
theorem mT_isSplit_e1 (N : Nat) (nr : Nat → Int32) (n : Nat) (x1 x2 x3 x4 : Int32) : mT_isSplit N nr (n + 1) 1 [x1, x2, x3, x4] = (mG_size N n 0 []).bind fun r111 => (if r111 ≤ x4 then some (1 : Int32) else (mF_contains n 0 [x1, x4]).bind fun r113 => (if r113 = 0 then mT_isSplit N nr n 2 [x1, x2, x3, x4, 0] else (mG_nearInside N nr n 0 [x4, x2]).bind fun r115 => mT_isSplit N nr n 2 [x1, x2, x3, x4, r115])) := rfl
theorem mT_isSplit_e2 (N : Nat) (nr : Nat → Int32) (n : Nat) (x1 x2 x3 x4 y0 : Int32) : mT_isSplit N nr (n + 1) 2 [x1, x2, x3, x4, y0] = (if y0 = 0 then mT_isSplit N nr n 3 [x1, x2, x3, x4, y0] else (if x3 = 0 then mT_isSplit N nr n 3 [x1, x2, x3, x4, y0] else (if y0 = x3 then mT_isSplit N nr n 3 [x1, x2, x3, x4, y0] else some (0 : Int32)))) := rfl
theorem mT_isSplit_e3 (N : Nat) (nr : Nat → Int32) (n : Nat) (x1 x2 x3 x4 x5 : Int32) : mT_isSplit N nr (n + 1) 3 [x1, x2, x3, x4, x5] = kl (x3 ||| x5) fun x3_311 => mT_isSplit N nr n 1 [x1, x2, x3_311, (x4 + 1)] := rfl
def mT_findSplits (N : Nat) (nr : Nat → Int32) (wh : Int32) : Nat → Nat → List Int32 → (Nat → Int32) → Int32 → Option ((Nat → Int32) × Int32)
  | n + 1, 0, [], ss, sc => kl (wh &&& (wh - 1)) fun x1_11 => mT_findSplits N nr wh n 1 [x1_11, 1] ss 0
  | n + 1, 1, [x1, x2], ss, sc => (if x1 < x2 then some (ss, sc) else (if (x2 &&& (x1 ^^^ (-1))) = 0 then (mT_isSplit N nr n 0 [x2, (wh &&& (x2 ^^^ (-1)))]).bind fun r113 => (if r113 = 0 then mT_findSplits N nr wh n 1 [x1, (x2 + 1)] ss sc else kg sc (2 ^ (N - 1)) (mT_findSplits N nr wh n 1 [x1, (x2 + 1)] (upd ss sc.toNatClampNeg x2) (sc + 1))) else mT_findSplits N nr wh n 1 [x1, (x2 + 1)] ss sc))
  | _, _, _, _, _ => none
theorem mT_findSplits_z (N : Nat) (nr : Nat → Int32) (wh : Int32) (b : Nat) (l : List Int32) (ss : Nat → Int32) (sc : Int32) : mT_findSplits N nr wh 0 b l ss sc = none := by first | rfl | (cases b <;> rfl) | simp [mT_findSplits]
theorem mT_findSplits_e0 (N : Nat) (nr : Nat → Int32) (wh : Int32) (n : Nat) (ss : Nat → Int32) (sc : Int32) : mT_findSplits N nr wh (n + 1) 0 [] ss sc = kl (wh &&& (wh - 1)) fun x1_11 => mT_findSplits N nr wh n 1 [x1_11, 1] ss 0 := rfl
theorem mT_findSplits_e1 (N : Nat) (nr : Nat → Int32) (wh : Int32) (n : Nat) (x1 x2 : Int32) (ss : Nat → Int32) (sc : Int32) : mT_findSplits N nr wh (n + 1) 1 [x1, x2] ss sc = (if x1 < x2 then some (ss, sc) else (if (x2 &&& (x1 ^^^ (-1))) = 0 then (mT_isSplit N nr n 0 [x2, (wh &&& (x2 ^^^ (-1)))]).bind fun r113 => (if r113 = 0 then mT_findSplits N nr wh n 1 [x1, (x2 + 1)] ss sc else kg sc (2 ^ (N - 1)) (mT_findSplits N nr wh n 1 [x1, (x2 + 1)] (upd ss sc.toNatClampNeg x2) (sc + 1))) else mT_findSplits N nr wh n 1 [x1, (x2 + 1)] ss sc)) := rfl
def mT_isStrong (N : Nat) (ss : Nat → Int32) (sc : Int32) : Nat → Nat → List Int32 → Option Int32
  | n + 1, 0, [x1] => mT_isStrong N ss sc n 1 [x1, 0]
  | n + 1, 1, [x1, x2] => (if sc ≤ x2 then some (1 : Int32) else kg x2 (2 ^ (N - 1)) (kl (ss x2.toNatClampNeg) fun x3_113 => (if (x1 &&& x3_113) = 0 then mT_isStrong N ss sc n 1 [x1, (x2 + 1)] else (if (x1 &&& (x3_113 ^^^ (-1))) = 0 then mT_isStrong N ss sc n 1 [x1, (x2 + 1)] else (if (x3_113 &&& (x1 ^^^ (-1))) = 0 then mT_isStrong N ss sc n 1 [x1, (x2 + 1)] else some (0 : Int32))))))
  | _, _, _ => none
theorem mT_isStrong_z (N : Nat) (ss : Nat → Int32) (sc : Int32) (b : Nat) (l : List Int32) : mT_isStrong N ss sc 0 b l = none := by first | rfl | (cases b <;> rfl) | simp [mT_isStrong]
theorem mT_isStrong_e0 (N : Nat) (ss : Nat → Int32) (sc : Int32) (n : Nat) (x1 : Int32) : mT_isStrong N ss sc (n + 1) 0 [x1] = mT_isStrong N ss sc n 1 [x1, 0] := rfl
theorem mT_isStrong_e1 (N : Nat) (ss : Nat → Int32) (sc : Int32) (n : Nat) (x1 x2 : Int32) : mT_isStrong N ss sc (n + 1) 1 [x1, x2] = (if sc ≤ x2 then some (1 : Int32) else kg x2 (2 ^ (N - 1)) (kl (ss x2.toNatClampNeg) fun x3_113 => (if (x1 &&& x3_113) = 0 then mT_isStrong N ss sc n 1 [x1, (x2 + 1)] else (if (x1 &&& (x3_113 ^^^ (-1))) = 0 then mT_isStrong N ss sc n 1 [x1, (x2 + 1)] else (if (x3_113 &&& (x1 ^^^ (-1))) = 0 then mT_isStrong N ss sc n 1 [x1, (x2 + 1)] else some (0 : Int32)))))) := rfl
def mT_findNodes (N : Nat) (ss : Nat → Int32) (sc : Int32) (wh : Int32) : Nat → Nat → List Int32 → (Nat → Int32) → Int32 → Option ((Nat → Int32) × Int32)
  | n + 1, 0, [], ns, nc => kg 0 (2 ^ (N - 1)) (mT_findNodes N ss sc wh n 1 [0] (upd ns (0 : Int32).toNatClampNeg wh) 1)
  | n + 1, 1, [x1], ns, nc => (if sc ≤ x1 then some (ns, nc) else kg x1 (2 ^ (N - 1)) ((mT_isStrong N ss sc n 0 [(ss x1.toNatClampNeg)]).bind fun r113 => (if r113 = 0 then mT_findNodes N ss sc wh n 1 [(x1 + 1)] ns nc else kg x1 (2 ^ (N - 1)) (kg nc (2 ^ (N - 1)) (mT_findNodes N ss sc wh n 1 [(x1 + 1)] (upd ns nc.toNatClampNeg (ss x1.toNatClampNeg)) (nc + 1))))))
  | _, _, _, _, _ => none
theorem mT_findNodes_z (N : Nat) (ss : Nat → Int32) (sc : Int32) (wh : Int32) (b : Nat) (l : List Int32) (ns : Nat → Int32) (nc : Int32) : mT_findNodes N ss sc wh 0 b l ns nc = none := by first | rfl | (cases b <;> rfl) | simp [mT_findNodes]
theorem mT_findNodes_e0 (N : Nat) (ss : Nat → Int32) (sc : Int32) (wh : Int32) (n : Nat) (ns : Nat → Int32) (nc : Int32) : mT_findNodes N ss sc wh (n + 1) 0 [] ns nc = kg 0 (2 ^ (N - 1)) (mT_findNodes N ss sc wh n 1 [0] (upd ns (0 : Int32).toNatClampNeg wh) 1) := rfl
theorem mT_findNodes_e1 (N : Nat) (ss : Nat → Int32) (sc : Int32) (wh : Int32) (n : Nat) (x1 : Int32) (ns : Nat → Int32) (nc : Int32) : mT_findNodes N ss sc wh (n + 1) 1 [x1] ns nc = (if sc ≤ x1 then some (ns, nc) else kg x1 (2 ^ (N - 1)) ((mT_isStrong N ss sc n 0 [(ss x1.toNatClampNeg)]).bind fun r113 => (if r113 = 0 then mT_findNodes N ss sc wh n 1 [(x1 + 1)] ns nc else kg x1 (2 ^ (N - 1)) (kg nc (2 ^ (N - 1)) (mT_findNodes N ss sc wh n 1 [(x1 + 1)] (upd ns nc.toNatClampNeg (ss x1.toNatClampNeg)) (nc + 1)))))) := rfl
def mT_growFor (N : Nat) (nr : Nat → Int32) : Nat → Nat → List Int32 → (Nat → Int32) → Int32 → (Nat → Int32) → Int32 → Int32 → Option ((Nat → Int32) × Int32 × (Nat → Int32) × Int32 × Int32)
  | n + 1, 0, [x1], ss, sc, ns, nc, wh => (if wh = x1 then some (ss, sc, ns, nc, wh) else (mT_findSplits N nr x1 n 0 [] ss sc).bind fun (ss_12, sc_12) => (mT_findNodes N ss_12 sc_12 x1 n 0 [] ns nc).bind fun (ns_13, nc_13) => some (ss_12, sc_12, ns_13, nc_13, x1))
  | _, _, _, _, _, _, _, _ => none
theorem mT_growFor_z (N : Nat) (nr : Nat → Int32) (b : Nat) (l : List Int32) (ss : Nat → Int32) (sc : Int32) (ns : Nat → Int32) (nc : Int32) (wh : Int32) : mT_growFor N nr 0 b l ss sc ns nc wh = none := by first | rfl | (cases b <;> rfl) | simp [mT_growFor]
theorem mT_growFor_e0 (N : Nat) (nr : Nat → Int32) (n : Nat) (x1 : Int32) (ss : Nat → Int32) (sc : Int32) (ns : Nat → Int32) (nc : Int32) (wh : Int32) : mT_growFor N nr (n + 1) 0 [x1] ss sc ns nc wh = (if wh = x1 then some (ss, sc, ns, nc, wh) else (mT_findSplits N nr x1 n 0 [] ss sc).bind fun (ss_12, sc_12) => (mT_findNodes N ss_12 sc_12 x1 n 0 [] ns nc).bind fun (ns_13, nc_13) => some (ss_12, sc_12, ns_13, nc_13, x1)) := rfl
def mF_treeOf (N : Nat) (nr : Nat → Int32) : Nat → Nat → List Int32 → (Nat → Int32) → Int32 → (Nat → Int32) → Int32 → Int32 → Option ((Nat → Int32) × Int32 × (Nat → Int32) × Int32 × Int32)
  | n + 1, 0, [x1], ss, sc, ns, nc, wh => (mF_componentOf N nr n 0 [x1]).bind fun r11 => (mT_growFor N nr n 0 [r11] ss sc ns nc wh).bind fun (ss_12, sc_12, ns_12, nc_12, wh_12) => some (ss_12, sc_12, ns_12, nc_12, wh_12)
  | _, _, _, _, _, _, _, _ => none
theorem mF_treeOf_z (N : Nat) (nr : Nat → Int32) (b : Nat) (l : List Int32) (ss : Nat → Int32) (sc : Int32) (ns : Nat → Int32) (nc : Int32) (wh : Int32) : mF_treeOf N nr 0 b l ss sc ns nc wh = none := by first | rfl | (cases b <;> rfl) | simp [mF_treeOf]
theorem mF_treeOf_e0 (N : Nat) (nr : Nat → Int32) (n : Nat) (x1 : Int32) (ss : Nat → Int32) (sc : Int32) (ns : Nat → Int32) (nc : Int32) (wh : Int32) : mF_treeOf N nr (n + 1) 0 [x1] ss sc ns nc wh = (mF_componentOf N nr n 0 [x1]).bind fun r11 => (mT_growFor N nr n 0 [r11] ss sc ns nc wh).bind fun (ss_12, sc_12, ns_12, nc_12, wh_12) => some (ss_12, sc_12, ns_12, nc_12, wh_12) := rfl
def mT_splitCount (N : Nat) (sc : Int32) : Nat → Nat → List Int32 → Option Int32
  | n + 1, 0, [] => some sc
  | _, _, _ => none
theorem mT_splitCount_z (N : Nat) (sc : Int32) (b : Nat) (l : List Int32) : mT_splitCount N sc 0 b l = none := by first | rfl | (cases b <;> rfl) | simp [mT_splitCount]
theorem mT_splitCount_e0 (N : Nat) (sc : Int32) (n : Nat) : mT_splitCount N sc (n + 1) 0 [] = some sc := rfl
def mF_splits (N : Nat) (nr : Nat → Int32) : Nat → Nat → List Int32 → (Nat → Int32) → Int32 → (Nat → Int32) → Int32 → Int32 → Option (Int32 × (Nat → Int32) × Int32 × (Nat → Int32) × Int32 × Int32)
  | n + 1, 0, [x1], ss, sc, ns, nc, wh => (mG_has N n 0 [x1]).bind fun r11 => (if r11 = 0 then some ((-1 : Int32), ss, sc, ns, nc, wh) else (mF_treeOf N nr n 0 [x1] ss sc ns nc wh).bind fun (ss_13, sc_13, ns_13, nc_13, wh_13) => (mT_splitCount N sc_13 n 0 []).bind fun r14 => some (r14, ss_13, sc_13, ns_13, nc_13, wh_13))
  | _, _, _, _, _, _, _, _ => none
theorem mF_splits_z (N : Nat) (nr : Nat → Int32) (b : Nat) (l : List Int32) (ss : Nat → Int32) (sc : Int32) (ns : Nat → Int32) (nc : Int32) (wh : Int32) : mF_splits N nr 0 b l ss sc ns nc wh = none := by first | rfl | (cases b <;> rfl) | simp [mF_splits]
theorem mF_splits_e0 (N : Nat) (nr : Nat → Int32) (n : Nat) (x1 : Int32) (ss : Nat → Int32) (sc : Int32) (ns : Nat → Int32) (nc : Int32) (wh : Int32) : mF_splits N nr (n + 1) 0 [x1] ss sc ns nc wh = (mG_has N n 0 [x1]).bind fun r11 => (if r11 = 0 then some ((-1 : Int32), ss, sc, ns, nc, wh) else (mF_treeOf N nr n 0 [x1] ss sc ns nc wh).bind fun (ss_13, sc_13, ns_13, nc_13, wh_13) => (mT_splitCount N sc_13 n 0 []).bind fun r14 => some (r14, ss_13, sc_13, ns_13, nc_13, wh_13)) := rfl
def mT_nodeCount (N : Nat) (nc : Int32) : Nat → Nat → List Int32 → Option Int32
  | n + 1, 0, [] => some nc
  | _, _, _ => none
theorem mT_nodeCount_z (N : Nat) (nc : Int32) (b : Nat) (l : List Int32) : mT_nodeCount N nc 0 b l = none := by first | rfl | (cases b <;> rfl) | simp [mT_nodeCount]
theorem mT_nodeCount_e0 (N : Nat) (nc : Int32) (n : Nat) : mT_nodeCount N nc (n + 1) 0 [] = some nc := rfl
def mF_strong (N : Nat) (nr : Nat → Int32) : Nat → Nat → List Int32 → (Nat → Int32) → Int32 → (Nat → Int32) → Int32 → Int32 → Option (Int32 × (Nat → Int32) × Int32 × (Nat → Int32) × Int32 × Int32)
  | n + 1, 0, [x1], ss, sc, ns, nc, wh => (mG_has N n 0 [x1]).bind fun r11 => (if r11 = 0 then some ((-1 : Int32), ss, sc, ns, nc, wh) else (mF_treeOf N nr n 0 [x1] ss sc ns nc wh).bind fun (ss_13, sc_13, ns_13, nc_13, wh_13) => (mT_nodeCount N nc_13 n 0 []).bind fun r14 => some ((r14 - 1), ss_13, sc_13, ns_13, nc_13, wh_13))
  | _, _, _, _, _, _, _, _ => none
theorem mF_strong_z (N : Nat) (nr : Nat → Int32) (b : Nat) (l : List Int32) (ss : Nat → Int32) (sc : Int32) (ns : Nat → Int32) (nc : Int32) (wh : Int32) : mF_strong N nr 0 b l ss sc ns nc wh = none := by first | rfl | (cases b <;> rfl) | simp [mF_strong]
theorem mF_strong_e0 (N : Nat) (nr : Nat → Int32) (n : Nat) (x1 : Int32) (ss : Nat → Int32) (sc : Int32) (ns : Nat → Int32) (nc : Int32) (wh : Int32) : mF_strong N nr (n + 1) 0 [x1] ss sc ns nc wh = (mG_has N n 0 [x1]).bind fun r11 => (if r11 = 0 then some ((-1 : Int32), ss, sc, ns, nc, wh) else (mF_treeOf N nr n 0 [x1] ss sc ns nc wh).bind fun (ss_13, sc_13, ns_13, nc_13, wh_13) => (mT_nodeCount N nc_13 n 0 []).bind fun r14 => some ((r14 - 1), ss_13, sc_13, ns_13, nc_13, wh_13)) := rfl
def mF_hasNode (N : Nat) (nr : Nat → Int32) : Nat → Nat → List Int32 → (Nat → Int32) → Int32 → (Nat → Int32) → Int32 → Int32 → Option (Int32 × (Nat → Int32) × Int32 × (Nat → Int32) × Int32 × Int32)
  | n + 1, 0, [x1, x2], ss, sc, ns, nc, wh => (mG_has N n 0 [x1]).bind fun r11 => (if r11 = 0 then some ((0 : Int32), ss, sc, ns, nc, wh) else (if x2 < 0 then some ((0 : Int32), ss, sc, ns, nc, wh) else (mF_treeOf N nr n 0 [x1] ss sc ns nc wh).bind fun (ss_14, sc_14, ns_14, nc_14, wh_14) => (mT_nodeCount N nc_14 n 0 []).bind fun r15 => (if r15 ≤ x2 then some ((0 : Int32), ss_14, sc_14, ns_14, nc_14, wh_14) else some ((1 : Int32), ss_14, sc_14, ns_14, nc_14, wh_14))))
  | _, _, _, _, _, _, _, _ => none
theorem mF_hasNode_z (N : Nat) (nr : Nat → Int32) (b : Nat) (l : List Int32) (ss : Nat → Int32) (sc : Int32) (ns : Nat → Int32) (nc : Int32) (wh : Int32) : mF_hasNode N nr 0 b l ss sc ns nc wh = none := by first | rfl | (cases b <;> rfl) | simp [mF_hasNode]
theorem mF_hasNode_e0 (N : Nat) (nr : Nat → Int32) (n : Nat) (x1 x2 : Int32) (ss : Nat → Int32) (sc : Int32) (ns : Nat → Int32) (nc : Int32) (wh : Int32) : mF_hasNode N nr (n + 1) 0 [x1, x2] ss sc ns nc wh = (mG_has N n 0 [x1]).bind fun r11 => (if r11 = 0 then some ((0 : Int32), ss, sc, ns, nc, wh) else (if x2 < 0 then some ((0 : Int32), ss, sc, ns, nc, wh) else (mF_treeOf N nr n 0 [x1] ss sc ns nc wh).bind fun (ss_14, sc_14, ns_14, nc_14, wh_14) => (mT_nodeCount N nc_14 n 0 []).bind fun r15 => (if r15 ≤ x2 then some ((0 : Int32), ss_14, sc_14, ns_14, nc_14, wh_14) else some ((1 : Int32), ss_14, sc_14, ns_14, nc_14, wh_14)))) := rfl
def mT_nodeSet (N : Nat) (ns : Nat → Int32) : Nat → Nat → List Int32 → Option Int32
  | n + 1, 0, [x1] => kg x1 (2 ^ (N - 1)) (some (ns x1.toNatClampNeg))
  | _, _, _ => none
theorem mT_nodeSet_z (N : Nat) (ns : Nat → Int32) (b : Nat) (l : List Int32) : mT_nodeSet N ns 0 b l = none := by first | rfl | (cases b <;> rfl) | simp [mT_nodeSet]
theorem mT_nodeSet_e0 (N : Nat) (ns : Nat → Int32) (n : Nat) (x1 : Int32) : mT_nodeSet N ns (n + 1) 0 [x1] = kg x1 (2 ^ (N - 1)) (some (ns x1.toNatClampNeg)) := rfl
def mF_set (N : Nat) (nr : Nat → Int32) : Nat → Nat → List Int32 → (Nat → Int32) → Int32 → (Nat → Int32) → Int32 → Int32 → Option (Int32 × (Nat → Int32) × Int32 × (Nat → Int32) × Int32 × Int32)
  | n + 1, 0, [x1, x2], ss, sc, ns, nc, wh => (mF_hasNode N nr n 0 [x1, x2] ss sc ns nc wh).bind fun (r11, ss_11, sc_11, ns_11, nc_11, wh_11) => (if r11 = 0 then some ((-1 : Int32), ss_11, sc_11, ns_11, nc_11, wh_11) else (mT_nodeSet N ns_11 n 0 [x2]).bind fun r13 => some (r13, ss_11, sc_11, ns_11, nc_11, wh_11))
  | _, _, _, _, _, _, _, _ => none
theorem mF_set_z (N : Nat) (nr : Nat → Int32) (b : Nat) (l : List Int32) (ss : Nat → Int32) (sc : Int32) (ns : Nat → Int32) (nc : Int32) (wh : Int32) : mF_set N nr 0 b l ss sc ns nc wh = none := by first | rfl | (cases b <;> rfl) | simp [mF_set]
theorem mF_set_e0 (N : Nat) (nr : Nat → Int32) (n : Nat) (x1 x2 : Int32) (ss : Nat → Int32) (sc : Int32) (ns : Nat → Int32) (nc : Int32) (wh : Int32) : mF_set N nr (n + 1) 0 [x1, x2] ss sc ns nc wh = (mF_hasNode N nr n 0 [x1, x2] ss sc ns nc wh).bind fun (r11, ss_11, sc_11, ns_11, nc_11, wh_11) => (if r11 = 0 then some ((-1 : Int32), ss_11, sc_11, ns_11, nc_11, wh_11) else (mT_nodeSet N ns_11 n 0 [x2]).bind fun r13 => some (r13, ss_11, sc_11, ns_11, nc_11, wh_11)) := rfl
def mT_partWith (N : Nat) (ns : Nat → Int32) (nc : Int32) (wh : Int32) : Nat → Nat → List Int32 → Option Int32
  | n + 1, 0, [x1, x2] => kg x1 (2 ^ (N - 1)) (kl (ns x1.toNatClampNeg) fun x3_12 => (mF_contains n 0 [x3_12, x2]).bind fun r13 => (if r13 = 0 then some (wh &&& (x3_12 ^^^ (-1))) else kl ((1 : Int32) <<< (x2 &&& 31)) fun x4_15 => mT_partWith N ns nc wh n 1 [x2, x3_12, x4_15, 1]))
  | n + 1, 1, [x2, x3, x4, x5] => (if nc ≤ x5 then some x4 else kg x5 (2 ^ (N - 1)) (kl (ns x5.toNatClampNeg) fun x6_113 => (mF_contains n 0 [x6_113, x2]).bind fun r114 => (if r114 = 0 then mT_partWith N ns nc wh n 1 [x2, x3, x4, (x5 + 1)] else (if x6_113 = x3 then mT_partWith N ns nc wh n 1 [x2, x3, x4, (x5 + 1)] else (if (x6_113 &&& (x3 ^^^ (-1))) = 0 then mT_partWith N ns nc wh n 1 [x2, x3, x6_113, (x5 + 1)] else mT_partWith N ns nc wh n 1 [x2, x3, x4, (x5 + 1)])))))
  | _, _, _ => none
theorem mT_partWith_z (N : Nat) (ns : Nat → Int32) (nc : Int32) (wh : Int32) (b : Nat) (l : List Int32) : mT_partWith N ns nc wh 0 b l = none := by first | rfl | (cases b <;> rfl) | simp [mT_partWith]
theorem mT_partWith_e0 (N : Nat) (ns : Nat → Int32) (nc : Int32) (wh : Int32) (n : Nat) (x1 x2 : Int32) : mT_partWith N ns nc wh (n + 1) 0 [x1, x2] = kg x1 (2 ^ (N - 1)) (kl (ns x1.toNatClampNeg) fun x3_12 => (mF_contains n 0 [x3_12, x2]).bind fun r13 => (if r13 = 0 then some (wh &&& (x3_12 ^^^ (-1))) else kl ((1 : Int32) <<< (x2 &&& 31)) fun x4_15 => mT_partWith N ns nc wh n 1 [x2, x3_12, x4_15, 1])) := rfl
theorem mT_partWith_e1 (N : Nat) (ns : Nat → Int32) (nc : Int32) (wh : Int32) (n : Nat) (x2 x3 x4 x5 : Int32) : mT_partWith N ns nc wh (n + 1) 1 [x2, x3, x4, x5] = (if nc ≤ x5 then some x4 else kg x5 (2 ^ (N - 1)) (kl (ns x5.toNatClampNeg) fun x6_113 => (mF_contains n 0 [x6_113, x2]).bind fun r114 => (if r114 = 0 then mT_partWith N ns nc wh n 1 [x2, x3, x4, (x5 + 1)] else (if x6_113 = x3 then mT_partWith N ns nc wh n 1 [x2, x3, x4, (x5 + 1)] else (if (x6_113 &&& (x3 ^^^ (-1))) = 0 then mT_partWith N ns nc wh n 1 [x2, x3, x6_113, (x5 + 1)] else mT_partWith N ns nc wh n 1 [x2, x3, x4, (x5 + 1)]))))) := rfl
def mT_addPart (N : Nat) : Nat → Nat → List Int32 → (Nat → Int32) → Int32 → Option ((Nat → Int32) × Int32)
  | n + 1, 0, [x1], ps, pn => mT_addPart N n 1 [x1, pn] ps pn
  | n + 1, 1, [x1, x2], ps, pn => (if x2 ≤ 0 then mT_addPart N n 2 [x1, x2] ps pn else kg (x2 - 1) N ((if (ps (x2 - 1).toNatClampNeg) ≤ x1 then mT_addPart N n 2 [x1, x2] ps pn else kg (x2 - 1) N (kg x2 N (mT_addPart N n 1 [x1, (x2 + (-1))] (upd ps x2.toNatClampNeg (ps (x2 - 1).toNatClampNeg)) pn)))))
  | n + 1, 2, [x1, x2], ps, pn => kg x2 N (some ((upd ps x2.toNatClampNeg x1), (pn + 1)))
  | _, _, _, _, _ => none
theorem mT_addPart_z (N : Nat) (b : Nat) (l : List Int32) (ps : Nat → Int32) (pn : Int32) : mT_addPart N 0 b l ps pn = none := by first | rfl | (cases b <;> rfl) | simp [mT_addPart]
theorem mT_addPart_e0 (N : Nat) (n : Nat) (x1 : Int32) (ps : Nat → Int32) (pn : Int32) : mT_addPart N (n + 1) 0 [x1] ps pn = mT_addPart N n 1 [x1, pn] ps pn := rfl
theorem mT_addPart_e1 (N : Nat) (n : Nat) (x1 x2 : Int32) (ps : Nat → Int32) (pn : Int32) : mT_addPart N (n + 1) 1 [x1, x2] ps pn = (if x2 ≤ 0 then mT_addPart N n 2 [x1, x2] ps pn else kg (x2 - 1) N ((if (ps (x2 - 1).toNatClampNeg) ≤ x1 then mT_addPart N n 2 [x1, x2] ps pn else kg (x2 - 1) N (kg x2 N (mT_addPart N n 1 [x1, (x2 + (-1))] (upd ps x2.toNatClampNeg (ps (x2 - 1).toNatClampNeg)) pn))))) := rfl
theorem mT_addPart_e2 (N : Nat) (n : Nat) (x1 x2 : Int32) (ps : Nat → Int32) (pn : Int32) : mT_addPart N (n + 1) 2 [x1, x2] ps pn = kg x2 N (some ((upd ps x2.toNatClampNeg x1), (pn + 1))) := rfl
def mT_findParts (N : Nat) (ns : Nat → Int32) (nc : Int32) (wh : Int32) : Nat → Nat → List Int32 → (Nat → Int32) → Int32 → Option ((Nat → Int32) × Int32)
  | n + 1, 0, [x1], ps, pn => mT_findParts N ns nc wh n 1 [x1, wh, 0] ps 0
  | n + 1, 1, [x1, x2, x3], ps, pn => (mG_size N n 0 []).bind fun r111 => (if r111 ≤ x3 then some (ps, pn) else (mF_contains n 0 [x2, x3]).bind fun r113 => (if r113 = 0 then mT_findParts N ns nc wh n 1 [x1, x2, (x3 + 1)] ps pn else (mT_partWith N ns nc wh n 0 [x1, x3]).bind fun r115 => kl (x2 &&& (r115 ^^^ (-1))) fun x2_116 => (mT_addPart N n 0 [r115] ps pn).bind fun (ps_117, pn_117) => mT_findParts N ns nc wh n 1 [x1, x2_116, (x3 + 1)] ps_117 pn_117))
  | _, _, _, _, _ => none
theorem mT_findParts_z (N : Nat) (ns : Nat → Int32) (nc : Int32) (wh : Int32) (b : Nat) (l : List Int32) (ps : Nat → Int32) (pn : Int32) : mT_findParts N ns nc wh 0 b l ps pn = none := by first | rfl | (cases b <;> rfl) | simp [mT_findParts]
theorem mT_findParts_e0 (N : Nat) (ns : Nat → Int32) (nc : Int32) (wh : Int32) (n : Nat) (x1 : Int32) (ps : Nat → Int32) (pn : Int32) : mT_findParts N ns nc wh (n + 1) 0 [x1] ps pn = mT_findParts N ns nc wh n 1 [x1, wh, 0] ps 0 := rfl
theorem mT_findParts_e1 (N : Nat) (ns : Nat → Int32) (nc : Int32) (wh : Int32) (n : Nat) (x1 x2 x3 : Int32) (ps : Nat → Int32) (pn : Int32) : mT_findParts N ns nc wh (n + 1) 1 [x1, x2, x3] ps pn = (mG_size N n 0 []).bind fun r111 => (if r111 ≤ x3 then some (ps, pn) else (mF_contains n 0 [x2, x3]).bind fun r113 => (if r113 = 0 then mT_findParts N ns nc wh n 1 [x1, x2, (x3 + 1)] ps pn else (mT_partWith N ns nc wh n 0 [x1, x3]).bind fun r115 => kl (x2 &&& (r115 ^^^ (-1))) fun x2_116 => (mT_addPart N n 0 [r115] ps pn).bind fun (ps_117, pn_117) => mT_findParts N ns nc wh n 1 [x1, x2_116, (x3 + 1)] ps_117 pn_117)) := rfl
def mG_joined (N : Nat) (nr : Nat → Int32) : Nat → Nat → List Int32 → Option Int32
  | n + 1, 0, [x1, x2] => (mG_nearToAny N nr n 0 [x1, x2]).bind fun r11 => (if r11 = 0 then some (0 : Int32) else some (1 : Int32))
  | _, _, _ => none
theorem mG_joined_z (N : Nat) (nr : Nat → Int32) (b : Nat) (l : List Int32) : mG_joined N nr 0 b l = none := by first | rfl | (cases b <;> rfl) | simp [mG_joined]
theorem mG_joined_e0 (N : Nat) (nr : Nat → Int32) (n : Nat) (x1 x2 : Int32) : mG_joined N nr (n + 1) 0 [x1, x2] = (mG_nearToAny N nr n 0 [x1, x2]).bind fun r11 => (if r11 = 0 then some (0 : Int32) else some (1 : Int32)) := rfl
def mT_findJoins (N : Nat) (nr : Nat → Int32) (ns : Nat → Int32) (nc : Int32) (wh : Int32) : Nat → Nat → List Int32 → (Nat → Int32) → (Nat → Int32) → Int32 → Int32 → Option ((Nat → Int32) × (Nat → Int32) × Int32 × Int32)
  | n + 1, 0, [x1], ps, dg, pn, pj => (mT_findParts N ns nc wh n 0 [x1] ps pn).bind fun (ps_11, pn_11) => mT_findJoins N nr ns nc wh n 1 [0] ps_11 dg pn_11 0
  | n + 1, 1, [x2], ps, dg, pn, pj => (if pn ≤ x2 then some (ps, dg, pn, pj) else kg x2 N (mT_findJoins N nr ns nc wh n 2 [x2, 0] ps (upd dg x2.toNatClampNeg 0) pn pj))
  | n + 1, 2, [x2, x3], ps, dg, pn, pj => (if x2 ≤ x3 then mT_findJoins N nr ns nc wh n 1 [(x2 + 1)] ps dg pn pj else kg x2 N (kg x3 N ((mG_joined N nr n 0 [(ps x2.toNatClampNeg), (ps x3.toNatClampNeg)]).bind fun r214 => (if r214 = 0 then mT_findJoins N nr ns nc wh n 2 [x2, (x3 + 1)] ps dg pn pj else kg x2 N (kg x2 N (kg x3 N (kg x3 N (mT_findJoins N nr ns nc wh n 2 [x2, (x3 + 1)] ps (upd (upd dg x2.toNatClampNeg ((dg x2.toNatClampNeg) + 1)) x3.toNatClampNeg (((upd dg x2.toNatClampNeg ((dg x2.toNatClampNeg) + 1)) x3.toNatClampNeg) + 1)) pn (pj + 1)))))))))
  | _, _, _, _, _, _, _ => none
theorem mT_findJoins_z (N : Nat) (nr : Nat → Int32) (ns : Nat → Int32) (nc : Int32) (wh : Int32) (b : Nat) (l : List Int32) (ps : Nat → Int32) (dg : Nat → Int32) (pn : Int32) (pj : Int32) : mT_findJoins N nr ns nc wh 0 b l ps dg pn pj = none := by first | rfl | (cases b <;> rfl) | simp [mT_findJoins]
theorem mT_findJoins_e0 (N : Nat) (nr : Nat → Int32) (ns : Nat → Int32) (nc : Int32) (wh : Int32) (n : Nat) (x1 : Int32) (ps : Nat → Int32) (dg : Nat → Int32) (pn : Int32) (pj : Int32) : mT_findJoins N nr ns nc wh (n + 1) 0 [x1] ps dg pn pj = (mT_findParts N ns nc wh n 0 [x1] ps pn).bind fun (ps_11, pn_11) => mT_findJoins N nr ns nc wh n 1 [0] ps_11 dg pn_11 0 := rfl
theorem mT_findJoins_e1 (N : Nat) (nr : Nat → Int32) (ns : Nat → Int32) (nc : Int32) (wh : Int32) (n : Nat) (x2 : Int32) (ps : Nat → Int32) (dg : Nat → Int32) (pn : Int32) (pj : Int32) : mT_findJoins N nr ns nc wh (n + 1) 1 [x2] ps dg pn pj = (if pn ≤ x2 then some (ps, dg, pn, pj) else kg x2 N (mT_findJoins N nr ns nc wh n 2 [x2, 0] ps (upd dg x2.toNatClampNeg 0) pn pj)) := rfl
theorem mT_findJoins_e2 (N : Nat) (nr : Nat → Int32) (ns : Nat → Int32) (nc : Int32) (wh : Int32) (n : Nat) (x2 x3 : Int32) (ps : Nat → Int32) (dg : Nat → Int32) (pn : Int32) (pj : Int32) : mT_findJoins N nr ns nc wh (n + 1) 2 [x2, x3] ps dg pn pj = (if x2 ≤ x3 then mT_findJoins N nr ns nc wh n 1 [(x2 + 1)] ps dg pn pj else kg x2 N (kg x3 N ((mG_joined N nr n 0 [(ps x2.toNatClampNeg), (ps x3.toNatClampNeg)]).bind fun r214 => (if r214 = 0 then mT_findJoins N nr ns nc wh n 2 [x2, (x3 + 1)] ps dg pn pj else kg x2 N (kg x2 N (kg x3 N (kg x3 N (mT_findJoins N nr ns nc wh n 2 [x2, (x3 + 1)] ps (upd (upd dg x2.toNatClampNeg ((dg x2.toNatClampNeg) + 1)) x3.toNatClampNeg (((upd dg x2.toNatClampNeg ((dg x2.toNatClampNeg) + 1)) x3.toNatClampNeg) + 1)) pn (pj + 1))))))))) := rfl
def mT_centreIndex (N : Nat) (dg : Nat → Int32) (pn : Int32) (pj : Int32) : Nat → Nat → List Int32 → Option Int32
  | n + 1, 0, [] => mT_centreIndex N dg pn pj n 1 [0]
  | n + 1, 1, [x1] => (if pn ≤ x1 then some (-1 : Int32) else kg x1 N ((if (dg x1.toNatClampNeg) = (pn - 1) then (if pj = (pn - 1) then some x1 else mT_centreIndex N dg pn pj n 1 [(x1 + 1)]) else mT_centreIndex N dg pn pj n 1 [(x1 + 1)])))
  | _, _, _ => none
theorem mT_centreIndex_z (N : Nat) (dg : Nat → Int32) (pn : Int32) (pj : Int32) (b : Nat) (l : List Int32) : mT_centreIndex N dg pn pj 0 b l = none := by first | rfl | (cases b <;> rfl) | simp [mT_centreIndex]
theorem mT_centreIndex_e0 (N : Nat) (dg : Nat → Int32) (pn : Int32) (pj : Int32) (n : Nat) : mT_centreIndex N dg pn pj (n + 1) 0 [] = mT_centreIndex N dg pn pj n 1 [0] := rfl
theorem mT_centreIndex_e1 (N : Nat) (dg : Nat → Int32) (pn : Int32) (pj : Int32) (n : Nat) (x1 : Int32) : mT_centreIndex N dg pn pj (n + 1) 1 [x1] = (if pn ≤ x1 then some (-1 : Int32) else kg x1 N ((if (dg x1.toNatClampNeg) = (pn - 1) then (if pj = (pn - 1) then some x1 else mT_centreIndex N dg pn pj n 1 [(x1 + 1)]) else mT_centreIndex N dg pn pj n 1 [(x1 + 1)]))) := rfl
def mT_nodeKind (N : Nat) (nr : Nat → Int32) (ns : Nat → Int32) (nc : Int32) (wh : Int32) : Nat → Nat → List Int32 → (Nat → Int32) → (Nat → Int32) → Int32 → Int32 → Option (Int32 × (Nat → Int32) × (Nat → Int32) × Int32 × Int32)
  | n + 1, 0, [x1], ps, dg, pn, pj => (mT_findJoins N nr ns nc wh n 0 [x1] ps dg pn pj).bind fun (ps_11, dg_11, pn_11, pj_11) => (if pj_11 = ((pn_11 * (pn_11 - 1)) / 2) then some ((1 : Int32), ps_11, dg_11, pn_11, pj_11) else (mT_centreIndex N dg_11 pn_11 pj_11 n 0 []).bind fun r13 => (if r13 = (-1) then some ((3 : Int32), ps_11, dg_11, pn_11, pj_11) else some ((2 : Int32), ps_11, dg_11, pn_11, pj_11)))
  | _, _, _, _, _, _, _ => none
theorem mT_nodeKind_z (N : Nat) (nr : Nat → Int32) (ns : Nat → Int32) (nc : Int32) (wh : Int32) (b : Nat) (l : List Int32) (ps : Nat → Int32) (dg : Nat → Int32) (pn : Int32) (pj : Int32) : mT_nodeKind N nr ns nc wh 0 b l ps dg pn pj = none := by first | rfl | (cases b <;> rfl) | simp [mT_nodeKind]
theorem mT_nodeKind_e0 (N : Nat) (nr : Nat → Int32) (ns : Nat → Int32) (nc : Int32) (wh : Int32) (n : Nat) (x1 : Int32) (ps : Nat → Int32) (dg : Nat → Int32) (pn : Int32) (pj : Int32) : mT_nodeKind N nr ns nc wh (n + 1) 0 [x1] ps dg pn pj = (mT_findJoins N nr ns nc wh n 0 [x1] ps dg pn pj).bind fun (ps_11, dg_11, pn_11, pj_11) => (if pj_11 = ((pn_11 * (pn_11 - 1)) / 2) then some ((1 : Int32), ps_11, dg_11, pn_11, pj_11) else (mT_centreIndex N dg_11 pn_11 pj_11 n 0 []).bind fun r13 => (if r13 = (-1) then some ((3 : Int32), ps_11, dg_11, pn_11, pj_11) else some ((2 : Int32), ps_11, dg_11, pn_11, pj_11))) := rfl
def mF_kind (N : Nat) (nr : Nat → Int32) : Nat → Nat → List Int32 → (Nat → Int32) → Int32 → (Nat → Int32) → Int32 → (Nat → Int32) → (Nat → Int32) → Int32 → Int32 → Int32 → Option (Int32 × (Nat → Int32) × Int32 × (Nat → Int32) × Int32 × (Nat → Int32) × (Nat → Int32) × Int32 × Int32 × Int32)
  | n + 1, 0, [x1, x2], ss, sc, ns, nc, ps, dg, pn, pj, wh => (mF_hasNode N nr n 0 [x1, x2] ss sc ns nc wh).bind fun (r11, ss_11, sc_11, ns_11, nc_11, wh_11) => (if r11 = 0 then some ((-1 : Int32), ss_11, sc_11, ns_11, nc_11, ps, dg, pn, pj, wh_11) else (mT_nodeKind N nr ns_11 nc_11 wh_11 n 0 [x2] ps dg pn pj).bind fun (r13, ps_13, dg_13, pn_13, pj_13) => some (r13, ss_11, sc_11, ns_11, nc_11, ps_13, dg_13, pn_13, pj_13, wh_11))
  | _, _, _, _, _, _, _, _, _, _, _, _ => none
theorem mF_kind_z (N : Nat) (nr : Nat → Int32) (b : Nat) (l : List Int32) (ss : Nat → Int32) (sc : Int32) (ns : Nat → Int32) (nc : Int32) (ps : Nat → Int32) (dg : Nat → Int32) (pn : Int32) (pj : Int32) (wh : Int32) : mF_kind N nr 0 b l ss sc ns nc ps dg pn pj wh = none := by first | rfl | (cases b <;> rfl) | simp [mF_kind]
theorem mF_kind_e0 (N : Nat) (nr : Nat → Int32) (n : Nat) (x1 x2 : Int32) (ss : Nat → Int32) (sc : Int32) (ns : Nat → Int32) (nc : Int32) (ps : Nat → Int32) (dg : Nat → Int32) (pn : Int32) (pj : Int32) (wh : Int32) : mF_kind N nr (n + 1) 0 [x1, x2] ss sc ns nc ps dg pn pj wh = (mF_hasNode N nr n 0 [x1, x2] ss sc ns nc wh).bind fun (r11, ss_11, sc_11, ns_11, nc_11, wh_11) => (if r11 = 0 then some ((-1 : Int32), ss_11, sc_11, ns_11, nc_11, ps, dg, pn, pj, wh_11) else (mT_nodeKind N nr ns_11 nc_11 wh_11 n 0 [x2] ps dg pn pj).bind fun (r13, ps_13, dg_13, pn_13, pj_13) => some (r13, ss_11, sc_11, ns_11, nc_11, ps_13, dg_13, pn_13, pj_13, wh_11)) := rfl
def mT_partCount (N : Nat) (ns : Nat → Int32) (nc : Int32) (wh : Int32) : Nat → Nat → List Int32 → (Nat → Int32) → Int32 → Option (Int32 × (Nat → Int32) × Int32)
  | n + 1, 0, [x1], ps, pn => (mT_findParts N ns nc wh n 0 [x1] ps pn).bind fun (ps_11, pn_11) => some (pn_11, ps_11, pn_11)
  | _, _, _, _, _ => none
theorem mT_partCount_z (N : Nat) (ns : Nat → Int32) (nc : Int32) (wh : Int32) (b : Nat) (l : List Int32) (ps : Nat → Int32) (pn : Int32) : mT_partCount N ns nc wh 0 b l ps pn = none := by first | rfl | (cases b <;> rfl) | simp [mT_partCount]
theorem mT_partCount_e0 (N : Nat) (ns : Nat → Int32) (nc : Int32) (wh : Int32) (n : Nat) (x1 : Int32) (ps : Nat → Int32) (pn : Int32) : mT_partCount N ns nc wh (n + 1) 0 [x1] ps pn = (mT_findParts N ns nc wh n 0 [x1] ps pn).bind fun (ps_11, pn_11) => some (pn_11, ps_11, pn_11) := rfl
def mF_parts (N : Nat) (nr : Nat → Int32) : Nat → Nat → List Int32 → (Nat → Int32) → Int32 → (Nat → Int32) → Int32 → (Nat → Int32) → Int32 → Int32 → Option (Int32 × (Nat → Int32) × Int32 × (Nat → Int32) × Int32 × (Nat → Int32) × Int32 × Int32)
  | n + 1, 0, [x1, x2], ss, sc, ns, nc, ps, pn, wh => (mF_hasNode N nr n 0 [x1, x2] ss sc ns nc wh).bind fun (r11, ss_11, sc_11, ns_11, nc_11, wh_11) => (if r11 = 0 then some ((-1 : Int32), ss_11, sc_11, ns_11, nc_11, ps, pn, wh_11) else (mT_partCount N ns_11 nc_11 wh_11 n 0 [x2] ps pn).bind fun (r13, ps_13, pn_13) => some (r13, ss_11, sc_11, ns_11, nc_11, ps_13, pn_13, wh_11))
  | _, _, _, _, _, _, _, _, _, _ => none
theorem mF_parts_z (N : Nat) (nr : Nat → Int32) (b : Nat) (l : List Int32) (ss : Nat → Int32) (sc : Int32) (ns : Nat → Int32) (nc : Int32) (ps : Nat → Int32) (pn : Int32) (wh : Int32) : mF_parts N nr 0 b l ss sc ns nc ps pn wh = none := by first | rfl | (cases b <;> rfl) | simp [mF_parts]
theorem mF_parts_e0 (N : Nat) (nr : Nat → Int32) (n : Nat) (x1 x2 : Int32) (ss : Nat → Int32) (sc : Int32) (ns : Nat → Int32) (nc : Int32) (ps : Nat → Int32) (pn : Int32) (wh : Int32) : mF_parts N nr (n + 1) 0 [x1, x2] ss sc ns nc ps pn wh = (mF_hasNode N nr n 0 [x1, x2] ss sc ns nc wh).bind fun (r11, ss_11, sc_11, ns_11, nc_11, wh_11) => (if r11 = 0 then some ((-1 : Int32), ss_11, sc_11, ns_11, nc_11, ps, pn, wh_11) else (mT_partCount N ns_11 nc_11 wh_11 n 0 [x2] ps pn).bind fun (r13, ps_13, pn_13) => some (r13, ss_11, sc_11, ns_11, nc_11, ps_13, pn_13, wh_11)) := rfl
def mT_partSet (N : Nat) (ns : Nat → Int32) (nc : Int32) (wh : Int32) : Nat → Nat → List Int32 → (Nat → Int32) → Int32 → Option (Int32 × (Nat → Int32) × Int32)
  | n + 1, 0, [x1, x2], ps, pn => (mT_findParts N ns nc wh n 0 [x1] ps pn).bind fun (ps_11, pn_11) => (if x2 < 0 then some ((-1 : Int32), ps_11, pn_11) else (if pn_11 ≤ x2 then some ((-1 : Int32), ps_11, pn_11) else kg x2 N (some ((ps_11 x2.toNatClampNeg), ps_11, pn_11))))
  | _, _, _, _, _ => none
theorem mT_partSet_z (N : Nat) (ns : Nat → Int32) (nc : Int32) (wh : Int32) (b : Nat) (l : List Int32) (ps : Nat → Int32) (pn : Int32) : mT_partSet N ns nc wh 0 b l ps pn = none := by first | rfl | (cases b <;> rfl) | simp [mT_partSet]
theorem mT_partSet_e0 (N : Nat) (ns : Nat → Int32) (nc : Int32) (wh : Int32) (n : Nat) (x1 x2 : Int32) (ps : Nat → Int32) (pn : Int32) : mT_partSet N ns nc wh (n + 1) 0 [x1, x2] ps pn = (mT_findParts N ns nc wh n 0 [x1] ps pn).bind fun (ps_11, pn_11) => (if x2 < 0 then some ((-1 : Int32), ps_11, pn_11) else (if pn_11 ≤ x2 then some ((-1 : Int32), ps_11, pn_11) else kg x2 N (some ((ps_11 x2.toNatClampNeg), ps_11, pn_11)))) := rfl
def mF_part (N : Nat) (nr : Nat → Int32) : Nat → Nat → List Int32 → (Nat → Int32) → Int32 → (Nat → Int32) → Int32 → (Nat → Int32) → Int32 → Int32 → Option (Int32 × (Nat → Int32) × Int32 × (Nat → Int32) × Int32 × (Nat → Int32) × Int32 × Int32)
  | n + 1, 0, [x1, x2, x3], ss, sc, ns, nc, ps, pn, wh => (mF_hasNode N nr n 0 [x1, x2] ss sc ns nc wh).bind fun (r11, ss_11, sc_11, ns_11, nc_11, wh_11) => (if r11 = 0 then some ((-1 : Int32), ss_11, sc_11, ns_11, nc_11, ps, pn, wh_11) else (mT_partSet N ns_11 nc_11 wh_11 n 0 [x2, x3] ps pn).bind fun (r13, ps_13, pn_13) => some (r13, ss_11, sc_11, ns_11, nc_11, ps_13, pn_13, wh_11))
  | _, _, _, _, _, _, _, _, _, _ => none
theorem mF_part_z (N : Nat) (nr : Nat → Int32) (b : Nat) (l : List Int32) (ss : Nat → Int32) (sc : Int32) (ns : Nat → Int32) (nc : Int32) (ps : Nat → Int32) (pn : Int32) (wh : Int32) : mF_part N nr 0 b l ss sc ns nc ps pn wh = none := by first | rfl | (cases b <;> rfl) | simp [mF_part]
theorem mF_part_e0 (N : Nat) (nr : Nat → Int32) (n : Nat) (x1 x2 x3 : Int32) (ss : Nat → Int32) (sc : Int32) (ns : Nat → Int32) (nc : Int32) (ps : Nat → Int32) (pn : Int32) (wh : Int32) : mF_part N nr (n + 1) 0 [x1, x2, x3] ss sc ns nc ps pn wh = (mF_hasNode N nr n 0 [x1, x2] ss sc ns nc wh).bind fun (r11, ss_11, sc_11, ns_11, nc_11, wh_11) => (if r11 = 0 then some ((-1 : Int32), ss_11, sc_11, ns_11, nc_11, ps, pn, wh_11) else (mT_partSet N ns_11 nc_11 wh_11 n 0 [x2, x3] ps pn).bind fun (r13, ps_13, pn_13) => some (r13, ss_11, sc_11, ns_11, nc_11, ps_13, pn_13, wh_11)) := rfl
def mT_centreSet (N : Nat) (nr : Nat → Int32) (ns : Nat → Int32) (nc : Int32) (wh : Int32) : Nat → Nat → List Int32 → (Nat → Int32) → (Nat → Int32) → Int32 → Int32 → Option (Int32 × (Nat → Int32) × (Nat → Int32) × Int32 × Int32)
  | n + 1, 0, [x1], ps, dg, pn, pj => (mT_nodeKind N nr ns nc wh n 0 [x1] ps dg pn pj).bind fun (r11, ps_11, dg_11, pn_11, pj_11) => (if r11 = 2 then (mT_centreIndex N dg_11 pn_11 pj_11 n 0 []).bind fun r13 => kg r13 N (some ((ps_11 r13.toNatClampNeg), ps_11, dg_11, pn_11, pj_11)) else some ((-1 : Int32), ps_11, dg_11, pn_11, pj_11))
  | _, _, _, _, _, _, _ => none
theorem mT_centreSet_z (N : Nat) (nr : Nat → Int32) (ns : Nat → Int32) (nc : Int32) (wh : Int32) (b : Nat) (l : List Int32) (ps : Nat → Int32) (dg : Nat → Int32) (pn : Int32) (pj : Int32) : mT_centreSet N nr ns nc wh 0 b l ps dg pn pj = none := by first | rfl | (cases b <;> rfl) | simp [mT_centreSet]
theorem mT_centreSet_e0 (N : Nat) (nr : Nat → Int32) (ns : Nat → Int32) (nc : Int32) (wh : Int32) (n : Nat) (x1 : Int32) (ps : Nat → Int32) (dg : Nat → Int32) (pn : Int32) (pj : Int32) : mT_centreSet N nr ns nc wh (n + 1) 0 [x1] ps dg pn pj = (mT_nodeKind N nr ns nc wh n 0 [x1] ps dg pn pj).bind fun (r11, ps_11, dg_11, pn_11, pj_11) => (if r11 = 2 then (mT_centreIndex N dg_11 pn_11 pj_11 n 0 []).bind fun r13 => kg r13 N (some ((ps_11 r13.toNatClampNeg), ps_11, dg_11, pn_11, pj_11)) else some ((-1 : Int32), ps_11, dg_11, pn_11, pj_11)) := rfl
def mF_centre (N : Nat) (nr : Nat → Int32) : Nat → Nat → List Int32 → (Nat → Int32) → Int32 → (Nat → Int32) → Int32 → (Nat → Int32) → (Nat → Int32) → Int32 → Int32 → Int32 → Option (Int32 × (Nat → Int32) × Int32 × (Nat → Int32) × Int32 × (Nat → Int32) × (Nat → Int32) × Int32 × Int32 × Int32)
  | n + 1, 0, [x1, x2], ss, sc, ns, nc, ps, dg, pn, pj, wh => (mF_hasNode N nr n 0 [x1, x2] ss sc ns nc wh).bind fun (r11, ss_11, sc_11, ns_11, nc_11, wh_11) => (if r11 = 0 then some ((-1 : Int32), ss_11, sc_11, ns_11, nc_11, ps, dg, pn, pj, wh_11) else (mT_centreSet N nr ns_11 nc_11 wh_11 n 0 [x2] ps dg pn pj).bind fun (r13, ps_13, dg_13, pn_13, pj_13) => some (r13, ss_11, sc_11, ns_11, nc_11, ps_13, dg_13, pn_13, pj_13, wh_11))
  | _, _, _, _, _, _, _, _, _, _, _, _ => none
theorem mF_centre_z (N : Nat) (nr : Nat → Int32) (b : Nat) (l : List Int32) (ss : Nat → Int32) (sc : Int32) (ns : Nat → Int32) (nc : Int32) (ps : Nat → Int32) (dg : Nat → Int32) (pn : Int32) (pj : Int32) (wh : Int32) : mF_centre N nr 0 b l ss sc ns nc ps dg pn pj wh = none := by first | rfl | (cases b <;> rfl) | simp [mF_centre]
theorem mF_centre_e0 (N : Nat) (nr : Nat → Int32) (n : Nat) (x1 x2 : Int32) (ss : Nat → Int32) (sc : Int32) (ns : Nat → Int32) (nc : Int32) (ps : Nat → Int32) (dg : Nat → Int32) (pn : Int32) (pj : Int32) (wh : Int32) : mF_centre N nr (n + 1) 0 [x1, x2] ss sc ns nc ps dg pn pj wh = (mF_hasNode N nr n 0 [x1, x2] ss sc ns nc wh).bind fun (r11, ss_11, sc_11, ns_11, nc_11, wh_11) => (if r11 = 0 then some ((-1 : Int32), ss_11, sc_11, ns_11, nc_11, ps, dg, pn, pj, wh_11) else (mT_centreSet N nr ns_11 nc_11 wh_11 n 0 [x2] ps dg pn pj).bind fun (r13, ps_13, dg_13, pn_13, pj_13) => some (r13, ss_11, sc_11, ns_11, nc_11, ps_13, dg_13, pn_13, pj_13, wh_11)) := rfl
def mT_links (N : Nat) (nr : Nat → Int32) (ns : Nat → Int32) (nc : Int32) (wh : Int32) : Nat → Nat → List Int32 → Option Int32
  | n + 1, 0, [x1, x2] => mT_links N nr ns nc wh n 1 [x1, x2, 0]
  | n + 1, 1, [x1, x2, x3] => (if nc ≤ x3 then some (1 : Int32) else (mT_partWith N ns nc wh n 0 [x3, x1]).bind fun r112 => (mT_partWith N ns nc wh n 0 [x3, x2]).bind fun r113 => (if r112 = r113 then mT_links N nr ns nc wh n 1 [x1, x2, (x3 + 1)] else (mG_joined N nr n 0 [r112, r113]).bind fun r115 => (if r115 = 0 then some (0 : Int32) else mT_links N nr ns nc wh n 1 [x1, x2, (x3 + 1)])))
  | _, _, _ => none
theorem mT_links_z (N : Nat) (nr : Nat → Int32) (ns : Nat → Int32) (nc : Int32) (wh : Int32) (b : Nat) (l : List Int32) : mT_links N nr ns nc wh 0 b l = none := by first | rfl | (cases b <;> rfl) | simp [mT_links]
theorem mT_links_e0 (N : Nat) (nr : Nat → Int32) (ns : Nat → Int32) (nc : Int32) (wh : Int32) (n : Nat) (x1 x2 : Int32) : mT_links N nr ns nc wh (n + 1) 0 [x1, x2] = mT_links N nr ns nc wh n 1 [x1, x2, 0] := rfl
theorem mT_links_e1 (N : Nat) (nr : Nat → Int32) (ns : Nat → Int32) (nc : Int32) (wh : Int32) (n : Nat) (x1 x2 x3 : Int32) : mT_links N nr ns nc wh (n + 1) 1 [x1, x2, x3] = (if nc ≤ x3 then some (1 : Int32) else (mT_partWith N ns nc wh n 0 [x3, x1]).bind fun r112 => (mT_partWith N ns nc wh n 0 [x3, x2]).bind fun r113 => (if r112 = r113 then mT_links N nr ns nc wh n 1 [x1, x2, (x3 + 1)] else (mG_joined N nr n 0 [r112, r113]).bind fun r115 => (if r115 = 0 then some (0 : Int32) else mT_links N nr ns nc wh n 1 [x1, x2, (x3 + 1)]))) := rfl
def mF_linked (N : Nat) (nr : Nat → Int32) : Nat → Nat → List Int32 → (Nat → Int32) → Int32 → (Nat → Int32) → Int32 → Int32 → Option (Int32 × (Nat → Int32) × Int32 × (Nat → Int32) × Int32 × Int32)
  | n + 1, 0, [x1, x2], ss, sc, ns, nc, wh => (mG_has N n 0 [x1]).bind fun r11 => (if r11 = 0 then some ((0 : Int32), ss, sc, ns, nc, wh) else (mG_has N n 0 [x2]).bind fun r13 => (if r13 = 0 then some ((0 : Int32), ss, sc, ns, nc, wh) else (if x1 = x2 then some ((0 : Int32), ss, sc, ns, nc, wh) else (mF_componentOf N nr n 0 [x1]).bind fun r16 => (mF_contains n 0 [r16, x2]).bind fun r17 => (if r17 = 0 then some ((0 : Int32), ss, sc, ns, nc, wh) else (mF_treeOf N nr n 0 [x1] ss sc ns nc wh).bind fun (ss_19, sc_19, ns_19, nc_19, wh_19) => (mT_links N nr ns_19 nc_19 wh_19 n 0 [x1, x2]).bind fun r20 => (if r20 = 0 then some ((0 : Int32), ss_19, sc_19, ns_19, nc_19, wh_19) else some ((1 : Int32), ss_19, sc_19, ns_19, nc_19, wh_19))))))
  | _, _, _, _, _, _, _, _ => none
theorem mF_linked_z (N : Nat) (nr : Nat → Int32) (b : Nat) (l : List Int32) (ss : Nat → Int32) (sc : Int32) (ns : Nat → Int32) (nc : Int32) (wh : Int32) : mF_linked N nr 0 b l ss sc ns nc wh = none := by first | rfl | (cases b <;> rfl) | simp [mF_linked]
theorem mF_linked_e0 (N : Nat) (nr : Nat → Int32) (n : Nat) (x1 x2 : Int32) (ss : Nat → Int32) (sc : Int32) (ns : Nat → Int32) (nc : Int32) (wh : Int32) : mF_linked N nr (n + 1) 0 [x1, x2] ss sc ns nc wh = (mG_has N n 0 [x1]).bind fun r11 => (if r11 = 0 then some ((0 : Int32), ss, sc, ns, nc, wh) else (mG_has N n 0 [x2]).bind fun r13 => (if r13 = 0 then some ((0 : Int32), ss, sc, ns, nc, wh) else (if x1 = x2 then some ((0 : Int32), ss, sc, ns, nc, wh) else (mF_componentOf N nr n 0 [x1]).bind fun r16 => (mF_contains n 0 [r16, x2]).bind fun r17 => (if r17 = 0 then some ((0 : Int32), ss, sc, ns, nc, wh) else (mF_treeOf N nr n 0 [x1] ss sc ns nc wh).bind fun (ss_19, sc_19, ns_19, nc_19, wh_19) => (mT_links N nr ns_19 nc_19 wh_19 n 0 [x1, x2]).bind fun r20 => (if r20 = 0 then some ((0 : Int32), ss_19, sc_19, ns_19, nc_19, wh_19) else some ((1 : Int32), ss_19, sc_19, ns_19, nc_19, wh_19)))))) := rfl
def mG_areTwins (N : Nat) (nr : Nat → Int32) : Nat → Nat → List Int32 → Option Int32
  | n + 1, 0, [x1, x2, x3] => kl ((x3 &&& (((1 : Int32) <<< (x1 &&& 31)) ^^^ (-1))) &&& (((1 : Int32) <<< (x2 &&& 31)) ^^^ (-1))) fun x4_11 => kg x1 N (kg x2 N ((if ((nr x1.toNatClampNeg) &&& x4_11) = ((nr x2.toNatClampNeg) &&& x4_11) then some (1 : Int32) else some (0 : Int32))))
  | _, _, _ => none
theorem mG_areTwins_z (N : Nat) (nr : Nat → Int32) (b : Nat) (l : List Int32) : mG_areTwins N nr 0 b l = none := by first | rfl | (cases b <;> rfl) | simp [mG_areTwins]
theorem mG_areTwins_e0 (N : Nat) (nr : Nat → Int32) (n : Nat) (x1 x2 x3 : Int32) : mG_areTwins N nr (n + 1) 0 [x1, x2, x3] = kl ((x3 &&& (((1 : Int32) <<< (x1 &&& 31)) ^^^ (-1))) &&& (((1 : Int32) <<< (x2 &&& 31)) ^^^ (-1))) fun x4_11 => kg x1 N (kg x2 N ((if ((nr x1.toNatClampNeg) &&& x4_11) = ((nr x2.toNatClampNeg) &&& x4_11) then some (1 : Int32) else some (0 : Int32)))) := rfl
def mE_stepAt (N : Nat) (nr : Nat → Int32) (lf : Int32) : Nat → Nat → List Int32 → Option Int32
  | n + 1, 0, [x1] => (mG_nearInside N nr n 0 [x1, lf]).bind fun r11 => (mJ_bitCount n 0 [r11]).bind fun r12 => (if r12 = 1 then mE_stepAt N nr lf n 1 [x1, r11, 1] else mE_stepAt N nr lf n 1 [x1, r11, 0])
  | n + 1, 1, [x1, x2, y0] => mE_stepAt N nr lf n 2 [x1, x2, y0, 0]
  | n + 1, 2, [x1, x2, x3, x4] => (mG_size N n 0 []).bind fun r211 => (if r211 ≤ x4 then some (-1 : Int32) else (mF_contains n 0 [x2, x4]).bind fun r213 => (if x3 = 0 then mE_stepAt N nr lf n 3 [x1, x2, x3, x4, r213] else (if r213 = 0 then mE_stepAt N nr lf n 3 [x1, x2, x3, x4, r213] else some (x1 + (16 * x4)))))
  | n + 1, 3, [x1, x2, x3, x4, x5] => (if x3 = 0 then (if x4 = x1 then mE_stepAt N nr lf n 2 [x1, x2, x3, (x4 + 1)] else (mF_contains n 0 [lf, x4]).bind fun r313 => (if r313 = 0 then mE_stepAt N nr lf n 2 [x1, x2, x3, (x4 + 1)] else (mG_areTwins N nr n 0 [x1, x4, lf]).bind fun r315 => (if r315 = 0 then mE_stepAt N nr lf n 2 [x1, x2, x3, (x4 + 1)] else (if x5 = 0 then some ((x1 + (16 * x4)) + 256) else some ((x1 + (16 * x4)) + 512))))) else mE_stepAt N nr lf n 2 [x1, x2, x3, (x4 + 1)])
  | _, _, _ => none
theorem mE_stepAt_z (N : Nat) (nr : Nat → Int32) (lf : Int32) (b : Nat) (l : List Int32) : mE_stepAt N nr lf 0 b l = none := by first | rfl | (cases b <;> rfl) | simp [mE_stepAt]
theorem mE_stepAt_e0 (N : Nat) (nr : Nat → Int32) (lf : Int32) (n : Nat) (x1 : Int32) : mE_stepAt N nr lf (n + 1) 0 [x1] = (mG_nearInside N nr n 0 [x1, lf]).bind fun r11 => (mJ_bitCount n 0 [r11]).bind fun r12 => (if r12 = 1 then mE_stepAt N nr lf n 1 [x1, r11, 1] else mE_stepAt N nr lf n 1 [x1, r11, 0]) := rfl
theorem mE_stepAt_e1 (N : Nat) (nr : Nat → Int32) (lf : Int32) (n : Nat) (x1 x2 y0 : Int32) : mE_stepAt N nr lf (n + 1) 1 [x1, x2, y0] = mE_stepAt N nr lf n 2 [x1, x2, y0, 0] := rfl
theorem mE_stepAt_e2 (N : Nat) (nr : Nat → Int32) (lf : Int32) (n : Nat) (x1 x2 x3 x4 : Int32) : mE_stepAt N nr lf (n + 1) 2 [x1, x2, x3, x4] = (mG_size N n 0 []).bind fun r211 => (if r211 ≤ x4 then some (-1 : Int32) else (mF_contains n 0 [x2, x4]).bind fun r213 => (if x3 = 0 then mE_stepAt N nr lf n 3 [x1, x2, x3, x4, r213] else (if r213 = 0 then mE_stepAt N nr lf n 3 [x1, x2, x3, x4, r213] else some (x1 + (16 * x4))))) := rfl
theorem mE_stepAt_e3 (N : Nat) (nr : Nat → Int32) (lf : Int32) (n : Nat) (x1 x2 x3 x4 x5 : Int32) : mE_stepAt N nr lf (n + 1) 3 [x1, x2, x3, x4, x5] = (if x3 = 0 then (if x4 = x1 then mE_stepAt N nr lf n 2 [x1, x2, x3, (x4 + 1)] else (mF_contains n 0 [lf, x4]).bind fun r313 => (if r313 = 0 then mE_stepAt N nr lf n 2 [x1, x2, x3, (x4 + 1)] else (mG_areTwins N nr n 0 [x1, x4, lf]).bind fun r315 => (if r315 = 0 then mE_stepAt N nr lf n 2 [x1, x2, x3, (x4 + 1)] else (if x5 = 0 then some ((x1 + (16 * x4)) + 256) else some ((x1 + (16 * x4)) + 512))))) else mE_stepAt N nr lf n 2 [x1, x2, x3, (x4 + 1)]) := rfl
def mE_nextStep (N : Nat) (nr : Nat → Int32) (lf : Int32) : Nat → Nat → List Int32 → Option Int32
  | n + 1, 0, [] => (mG_size N n 0 []).bind fun r11 => kl (r11 - 1) fun x1_12 => mE_nextStep N nr lf n 1 [x1_12]
  | n + 1, 1, [x1] => (if x1 < 0 then some (-1 : Int32) else (mF_contains n 0 [lf, x1]).bind fun r112 => (if r112 = 0 then mE_nextStep N nr lf n 2 [x1, (-1)] else (mE_stepAt N nr lf n 0 [x1]).bind fun r114 => mE_nextStep N nr lf n 2 [x1, r114]))
  | n + 1, 2, [x1, y0] => (if y0 = (-1) then mE_nextStep N nr lf n 1 [(x1 + (-1))] else some y0)
  | _, _, _ => none
theorem mE_nextStep_z (N : Nat) (nr : Nat → Int32) (lf : Int32) (b : Nat) (l : List Int32) : mE_nextStep N nr lf 0 b l = none := by first | rfl | (cases b <;> rfl) | simp [mE_nextStep]
theorem mE_nextStep_e0 (N : Nat) (nr : Nat → Int32) (lf : Int32) (n : Nat) : mE_nextStep N nr lf (n + 1) 0 [] = (mG_size N n 0 []).bind fun r11 => kl (r11 - 1) fun x1_12 => mE_nextStep N nr lf n 1 [x1_12] := rfl
theorem mE_nextStep_e1 (N : Nat) (nr : Nat → Int32) (lf : Int32) (n : Nat) (x1 : Int32) : mE_nextStep N nr lf (n + 1) 1 [x1] = (if x1 < 0 then some (-1 : Int32) else (mF_contains n 0 [lf, x1]).bind fun r112 => (if r112 = 0 then mE_nextStep N nr lf n 2 [x1, (-1)] else (mE_stepAt N nr lf n 0 [x1]).bind fun r114 => mE_nextStep N nr lf n 2 [x1, r114])) := rfl
theorem mE_nextStep_e2 (N : Nat) (nr : Nat → Int32) (lf : Int32) (n : Nat) (x1 y0 : Int32) : mE_nextStep N nr lf (n + 1) 2 [x1, y0] = (if y0 = (-1) then mE_nextStep N nr lf n 1 [(x1 + (-1))] else some y0) := rfl
def mE_run (N : Nat) (nr : Nat → Int32) : Nat → Nat → List Int32 → (Nat → Int32) → Int32 → Int32 → Option ((Nat → Int32) × Int32 × Int32)
  | n + 1, 0, [x1], st, sn, lf => (mE_nextStep N nr x1 n 0 []).bind fun r11 => mE_run N nr n 1 [r11] st 0 x1
  | n + 1, 1, [x2], st, sn, lf => (if x2 = (-1) then some (st, sn, lf) else (if (nI N) ≤ sn then some (st, sn, lf) else kg sn N ((mE_nextStep N nr (lf &&& (((1 : Int32) <<< ((x2 - x2 / 16 * 16) &&& 31)) ^^^ (-1))) n 0 []).bind fun r114 => mE_run N nr n 1 [r114] (upd st sn.toNatClampNeg x2) (sn + 1) (lf &&& (((1 : Int32) <<< ((x2 - x2 / 16 * 16) &&& 31)) ^^^ (-1))))))
  | _, _, _, _, _, _ => none
theorem mE_run_z (N : Nat) (nr : Nat → Int32) (b : Nat) (l : List Int32) (st : Nat → Int32) (sn : Int32) (lf : Int32) : mE_run N nr 0 b l st sn lf = none := by first | rfl | (cases b <;> rfl) | simp [mE_run]
theorem mE_run_e0 (N : Nat) (nr : Nat → Int32) (n : Nat) (x1 : Int32) (st : Nat → Int32) (sn : Int32) (lf : Int32) : mE_run N nr (n + 1) 0 [x1] st sn lf = (mE_nextStep N nr x1 n 0 []).bind fun r11 => mE_run N nr n 1 [r11] st 0 x1 := rfl
theorem mE_run_e1 (N : Nat) (nr : Nat → Int32) (n : Nat) (x2 : Int32) (st : Nat → Int32) (sn : Int32) (lf : Int32) : mE_run N nr (n + 1) 1 [x2] st sn lf = (if x2 = (-1) then some (st, sn, lf) else (if (nI N) ≤ sn then some (st, sn, lf) else kg sn N ((mE_nextStep N nr (lf &&& (((1 : Int32) <<< ((x2 - x2 / 16 * 16) &&& 31)) ^^^ (-1))) n 0 []).bind fun r114 => mE_run N nr n 1 [r114] (upd st sn.toNatClampNeg x2) (sn + 1) (lf &&& (((1 : Int32) <<< ((x2 - x2 / 16 * 16) &&& 31)) ^^^ (-1)))))) := rfl
def mE_clears (N : Nat) (nr : Nat → Int32) : Nat → Nat → List Int32 → (Nat → Int32) → Int32 → Int32 → Option (Int32 × (Nat → Int32) × Int32 × Int32)
  | n + 1, 0, [x1], st, sn, lf => mE_clears N nr n 1 [x1, x1, 0] st sn lf
  | n + 1, 1, [x1, x2, x3], st, sn, lf => (mG_size N n 0 []).bind fun r111 => (if r111 ≤ x3 then some ((1 : Int32), st, sn, lf) else (mF_contains n 0 [x2, x3]).bind fun r113 => (if r113 = 0 then mE_clears N nr n 1 [x1, x2, (x3 + 1)] st sn lf else (mG_reached N nr n 0 [x3, x1]).bind fun r115 => kl (x2 &&& (r115 ^^^ (-1))) fun x2_116 => (mE_run N nr n 0 [r115] st sn lf).bind fun (st_117, sn_117, lf_117) => (mJ_bitCount n 0 [lf_117]).bind fun r118 => (if r118 = 1 then mE_clears N nr n 1 [x1, x2_116, (x3 + 1)] st_117 sn_117 lf_117 else some ((0 : Int32), st_117, sn_117, lf_117))))
  | _, _, _, _, _, _ => none
theorem mE_clears_z (N : Nat) (nr : Nat → Int32) (b : Nat) (l : List Int32) (st : Nat → Int32) (sn : Int32) (lf : Int32) : mE_clears N nr 0 b l st sn lf = none := by first | rfl | (cases b <;> rfl) | simp [mE_clears]
theorem mE_clears_e0 (N : Nat) (nr : Nat → Int32) (n : Nat) (x1 : Int32) (st : Nat → Int32) (sn : Int32) (lf : Int32) : mE_clears N nr (n + 1) 0 [x1] st sn lf = mE_clears N nr n 1 [x1, x1, 0] st sn lf := rfl
theorem mE_clears_e1 (N : Nat) (nr : Nat → Int32) (n : Nat) (x1 x2 x3 : Int32) (st : Nat → Int32) (sn : Int32) (lf : Int32) : mE_clears N nr (n + 1) 1 [x1, x2, x3] st sn lf = (mG_size N n 0 []).bind fun r111 => (if r111 ≤ x3 then some ((1 : Int32), st, sn, lf) else (mF_contains n 0 [x2, x3]).bind fun r113 => (if r113 = 0 then mE_clears N nr n 1 [x1, x2, (x3 + 1)] st sn lf else (mG_reached N nr n 0 [x3, x1]).bind fun r115 => kl (x2 &&& (r115 ^^^ (-1))) fun x2_116 => (mE_run N nr n 0 [r115] st sn lf).bind fun (st_117, sn_117, lf_117) => (mJ_bitCount n 0 [lf_117]).bind fun r118 => (if r118 = 1 then mE_clears N nr n 1 [x1, x2_116, (x3 + 1)] st_117 sn_117 lf_117 else some ((0 : Int32), st_117, sn_117, lf_117)))) := rfl
def mF_hereditary (N : Nat) (nr : Nat → Int32) : Nat → Nat → List Int32 → (Nat → Int32) → Int32 → Int32 → Option (Int32 × (Nat → Int32) × Int32 × Int32)
  | n + 1, 0, [x1], st, sn, lf => (mG_has N n 0 [x1]).bind fun r11 => (if r11 = 0 then some ((0 : Int32), st, sn, lf) else (mF_componentOf N nr n 0 [x1]).bind fun r13 => (mE_clears N nr n 0 [r13] st sn lf).bind fun (r14, st_14, sn_14, lf_14) => (if r14 = 0 then some ((0 : Int32), st_14, sn_14, lf_14) else some ((1 : Int32), st_14, sn_14, lf_14)))
  | _, _, _, _, _, _ => none
theorem mF_hereditary_z (N : Nat) (nr : Nat → Int32) (b : Nat) (l : List Int32) (st : Nat → Int32) (sn : Int32) (lf : Int32) : mF_hereditary N nr 0 b l st sn lf = none := by first | rfl | (cases b <;> rfl) | simp [mF_hereditary]
theorem mF_hereditary_e0 (N : Nat) (nr : Nat → Int32) (n : Nat) (x1 : Int32) (st : Nat → Int32) (sn : Int32) (lf : Int32) : mF_hereditary N nr (n + 1) 0 [x1] st sn lf = (mG_has N n 0 [x1]).bind fun r11 => (if r11 = 0 then some ((0 : Int32), st, sn, lf) else (mF_componentOf N nr n 0 [x1]).bind fun r13 => (mE_clears N nr n 0 [r13] st sn lf).bind fun (r14, st_14, sn_14, lf_14) => (if r14 = 0 then some ((0 : Int32), st_14, sn_14, lf_14) else some ((1 : Int32), st_14, sn_14, lf_14))) := rfl
def mE_stepOf (N : Nat) (nr : Nat → Int32) : Nat → Nat → List Int32 → (Nat → Int32) → Int32 → Int32 → Option (Int32 × (Nat → Int32) × Int32 × Int32)
  | n + 1, 0, [x1, x2], st, sn, lf => (mE_run N nr n 0 [x1] st sn lf).bind fun (st_11, sn_11, lf_11) => (if x2 < 0 then some ((-1 : Int32), st_11, sn_11, lf_11) else (if sn_11 ≤ x2 then some ((-1 : Int32), st_11, sn_11, lf_11) else kg x2 N (some ((st_11 x2.toNatClampNeg), st_11, sn_11, lf_11))))
  | _, _, _, _, _, _ => none
theorem mE_stepOf_z (N : Nat) (nr : Nat → Int32) (b : Nat) (l : List Int32) (st : Nat → Int32) (sn : Int32) (lf : Int32) : mE_stepOf N nr 0 b l st sn lf = none := by first | rfl | (cases b <;> rfl) | simp [mE_stepOf]
theorem mE_stepOf_e0 (N : Nat) (nr : Nat → Int32) (n : Nat) (x1 x2 : Int32) (st : Nat → Int32) (sn : Int32) (lf : Int32) : mE_stepOf N nr (n + 1) 0 [x1, x2] st sn lf = (mE_run N nr n 0 [x1] st sn lf).bind fun (st_11, sn_11, lf_11) => (if x2 < 0 then some ((-1 : Int32), st_11, sn_11, lf_11) else (if sn_11 ≤ x2 then some ((-1 : Int32), st_11, sn_11, lf_11) else kg x2 N (some ((st_11 x2.toNatClampNeg), st_11, sn_11, lf_11)))) := rfl
def mF_step (N : Nat) (nr : Nat → Int32) : Nat → Nat → List Int32 → (Nat → Int32) → Int32 → Int32 → Option (Int32 × (Nat → Int32) × Int32 × Int32)
  | n + 1, 0, [x1, x2], st, sn, lf => (mG_has N n 0 [x1]).bind fun r11 => (if r11 = 0 then some ((-1 : Int32), st, sn, lf) else (mF_componentOf N nr n 0 [x1]).bind fun r13 => (mE_stepOf N nr n 0 [r13, x2] st sn lf).bind fun (r14, st_14, sn_14, lf_14) => some (r14, st_14, sn_14, lf_14))
  | _, _, _, _, _, _ => none
theorem mF_step_z (N : Nat) (nr : Nat → Int32) (b : Nat) (l : List Int32) (st : Nat → Int32) (sn : Int32) (lf : Int32) : mF_step N nr 0 b l st sn lf = none := by first | rfl | (cases b <;> rfl) | simp [mF_step]
theorem mF_step_e0 (N : Nat) (nr : Nat → Int32) (n : Nat) (x1 x2 : Int32) (st : Nat → Int32) (sn : Int32) (lf : Int32) : mF_step N nr (n + 1) 0 [x1, x2] st sn lf = (mG_has N n 0 [x1]).bind fun r11 => (if r11 = 0 then some ((-1 : Int32), st, sn, lf) else (mF_componentOf N nr n 0 [x1]).bind fun r13 => (mE_stepOf N nr n 0 [r13, x2] st sn lf).bind fun (r14, st_14, sn_14, lf_14) => some (r14, st_14, sn_14, lf_14)) := rfl
def mE_obstructionIn (N : Nat) (nr : Nat → Int32) : Nat → Nat → List Int32 → (Nat → Int32) → Int32 → Int32 → Option (Int32 × (Nat → Int32) × Int32 × Int32)
  | n + 1, 0, [x1], st, sn, lf => (mE_clears N nr n 0 [x1] st sn lf).bind fun (r11, st_11, sn_11, lf_11) => (if r11 = 0 then mE_obstructionIn N nr n 1 [x1, 0] st_11 sn_11 lf_11 else some ((-1 : Int32), st_11, sn_11, lf_11))
  | n + 1, 1, [x2, x3], st, sn, lf => (mG_size N n 0 []).bind fun r111 => (if r111 ≤ x3 then some (x2, st, sn, lf) else kl (x2 &&& (((1 : Int32) <<< (x3 &&& 31)) ^^^ (-1))) fun x4_113 => (mF_contains n 0 [x2, x3]).bind fun r114 => (if r114 = 0 then mE_obstructionIn N nr n 1 [x2, (x3 + 1)] st sn lf else (mE_clears N nr n 0 [x4_113] st sn lf).bind fun (r116, st_116, sn_116, lf_116) => (if r116 = 0 then mE_obstructionIn N nr n 1 [x4_113, (x3 + 1)] st_116 sn_116 lf_116 else mE_obstructionIn N nr n 1 [x2, (x3 + 1)] st_116 sn_116 lf_116)))
  | _, _, _, _, _, _ => none
theorem mE_obstructionIn_z (N : Nat) (nr : Nat → Int32) (b : Nat) (l : List Int32) (st : Nat → Int32) (sn : Int32) (lf : Int32) : mE_obstructionIn N nr 0 b l st sn lf = none := by first | rfl | (cases b <;> rfl) | simp [mE_obstructionIn]
theorem mE_obstructionIn_e0 (N : Nat) (nr : Nat → Int32) (n : Nat) (x1 : Int32) (st : Nat → Int32) (sn : Int32) (lf : Int32) : mE_obstructionIn N nr (n + 1) 0 [x1] st sn lf = (mE_clears N nr n 0 [x1] st sn lf).bind fun (r11, st_11, sn_11, lf_11) => (if r11 = 0 then mE_obstructionIn N nr n 1 [x1, 0] st_11 sn_11 lf_11 else some ((-1 : Int32), st_11, sn_11, lf_11)) := rfl
theorem mE_obstructionIn_e1 (N : Nat) (nr : Nat → Int32) (n : Nat) (x2 x3 : Int32) (st : Nat → Int32) (sn : Int32) (lf : Int32) : mE_obstructionIn N nr (n + 1) 1 [x2, x3] st sn lf = (mG_size N n 0 []).bind fun r111 => (if r111 ≤ x3 then some (x2, st, sn, lf) else kl (x2 &&& (((1 : Int32) <<< (x3 &&& 31)) ^^^ (-1))) fun x4_113 => (mF_contains n 0 [x2, x3]).bind fun r114 => (if r114 = 0 then mE_obstructionIn N nr n 1 [x2, (x3 + 1)] st sn lf else (mE_clears N nr n 0 [x4_113] st sn lf).bind fun (r116, st_116, sn_116, lf_116) => (if r116 = 0 then mE_obstructionIn N nr n 1 [x4_113, (x3 + 1)] st_116 sn_116 lf_116 else mE_obstructionIn N nr n 1 [x2, (x3 + 1)] st_116 sn_116 lf_116))) := rfl
def mF_obstruction (N : Nat) (nr : Nat → Int32) : Nat → Nat → List Int32 → (Nat → Int32) → Int32 → Int32 → Option (Int32 × (Nat → Int32) × Int32 × Int32)
  | n + 1, 0, [x1], st, sn, lf => (mG_has N n 0 [x1]).bind fun r11 => (if r11 = 0 then some ((-1 : Int32), st, sn, lf) else (mF_componentOf N nr n 0 [x1]).bind fun r13 => (mE_obstructionIn N nr n 0 [r13] st sn lf).bind fun (r14, st_14, sn_14, lf_14) => some (r14, st_14, sn_14, lf_14))
  | _, _, _, _, _, _ => none
theorem mF_obstruction_z (N : Nat) (nr : Nat → Int32) (b : Nat) (l : List Int32) (st : Nat → Int32) (sn : Int32) (lf : Int32) : mF_obstruction N nr 0 b l st sn lf = none := by first | rfl | (cases b <;> rfl) | simp [mF_obstruction]
theorem mF_obstruction_e0 (N : Nat) (nr : Nat → Int32) (n : Nat) (x1 : Int32) (st : Nat → Int32) (sn : Int32) (lf : Int32) : mF_obstruction N nr (n + 1) 0 [x1] st sn lf = (mG_has N n 0 [x1]).bind fun r11 => (if r11 = 0 then some ((-1 : Int32), st, sn, lf) else (mF_componentOf N nr n 0 [x1]).bind fun r13 => (mE_obstructionIn N nr n 0 [r13] st sn lf).bind fun (r14, st_14, sn_14, lf_14) => some (r14, st_14, sn_14, lf_14)) := rfl
def mG_edgesInside (N : Nat) (nr : Nat → Int32) : Nat → Nat → List Int32 → Option Int32
  | n + 1, 0, [x1] => mG_edgesInside N nr n 1 [x1, 0, 0]
  | n + 1, 1, [x1, x2, x3] => (if (nI N) ≤ x3 then some (x2 / 2) else (mF_contains n 0 [x1, x3]).bind fun r112 => (if r112 = 0 then mG_edgesInside N nr n 1 [x1, x2, (x3 + 1)] else kg x3 N ((mJ_bitCount n 0 [((nr x3.toNatClampNeg) &&& x1)]).bind fun r115 => kl (x2 + r115) fun x2_116 => mG_edgesInside N nr n 1 [x1, x2_116, (x3 + 1)])))
  | _, _, _ => none
theorem mG_edgesInside_z (N : Nat) (nr : Nat → Int32) (b : Nat) (l : List Int32) : mG_edgesInside N nr 0 b l = none := by first | rfl | (cases b <;> rfl) | simp [mG_edgesInside]
theorem mG_edgesInside_e0 (N : Nat) (nr : Nat → Int32) (n : Nat) (x1 : Int32) : mG_edgesInside N nr (n + 1) 0 [x1] = mG_edgesInside N nr n 1 [x1, 0, 0] := rfl
theorem mG_edgesInside_e1 (N : Nat) (nr : Nat → Int32) (n : Nat) (x1 x2 x3 : Int32) : mG_edgesInside N nr (n + 1) 1 [x1, x2, x3] = (if (nI N) ≤ x3 then some (x2 / 2) else (mF_contains n 0 [x1, x3]).bind fun r112 => (if r112 = 0 then mG_edgesInside N nr n 1 [x1, x2, (x3 + 1)] else kg x3 N ((mJ_bitCount n 0 [((nr x3.toNatClampNeg) &&& x1)]).bind fun r115 => kl (x2 + r115) fun x2_116 => mG_edgesInside N nr n 1 [x1, x2_116, (x3 + 1)]))) := rfl
def mF_obstacleKind : Nat → Nat → List Int32 → Option Int32
  | n + 1, 0, [x0, x1] => (if x1 = x0 then some (1 : Int32) else (if x0 = 6 then some (4 : Int32) else (if x1 = 6 then some (2 : Int32) else some (3 : Int32))))
  | _, _, _ => none
theorem mF_obstacleKind_z (b : Nat) (l : List Int32) : mF_obstacleKind  0 b l = none := by first | rfl | (cases b <;> rfl) | simp [mF_obstacleKind]
theorem mF_obstacleKind_e0 (n : Nat) (x0 x1 : Int32) : mF_obstacleKind  (n + 1) 0 [x0, x1] = (if x1 = x0 then some (1 : Int32) else (if x0 = 6 then some (4 : Int32) else (if x1 = 6 then some (2 : Int32) else some (3 : Int32)))) := rfl
def mF_obstacle (N : Nat) (nr : Nat → Int32) : Nat → Nat → List Int32 → (Nat → Int32) → Int32 → Int32 → Option (Int32 × (Nat → Int32) × Int32 × Int32)
  | n + 1, 0, [x1], st, sn, lf => (mG_has N n 0 [x1]).bind fun r11 => (if r11 = 0 then mF_obstacle N nr n 1 [(-1)] st sn lf else (mF_componentOf N nr n 0 [x1]).bind fun r13 => (mE_obstructionIn N nr n 0 [r13] st sn lf).bind fun (r14, st_14, sn_14, lf_14) => mF_obstacle N nr n 1 [r14] st_14 sn_14 lf_14)
  | n + 1, 1, [y0], st, sn, lf => (if y0 = (-1) then some ((-1 : Int32), st, sn, lf) else (mJ_bitCount n 0 [y0]).bind fun r112 => (mG_edgesInside N nr n 0 [y0]).bind fun r113 => (mF_obstacleKind n 0 [r112, r113]).bind fun r114 => some (r114, st, sn, lf))
  | _, _, _, _, _, _ => none
theorem mF_obstacle_z (N : Nat) (nr : Nat → Int32) (b : Nat) (l : List Int32) (st : Nat → Int32) (sn : Int32) (lf : Int32) : mF_obstacle N nr 0 b l st sn lf = none := by first | rfl | (cases b <;> rfl) | simp [mF_obstacle]
theorem mF_obstacle_e0 (N : Nat) (nr : Nat → Int32) (n : Nat) (x1 : Int32) (st : Nat → Int32) (sn : Int32) (lf : Int32) : mF_obstacle N nr (n + 1) 0 [x1] st sn lf = (mG_has N n 0 [x1]).bind fun r11 => (if r11 = 0 then mF_obstacle N nr n 1 [(-1)] st sn lf else (mF_componentOf N nr n 0 [x1]).bind fun r13 => (mE_obstructionIn N nr n 0 [r13] st sn lf).bind fun (r14, st_14, sn_14, lf_14) => mF_obstacle N nr n 1 [r14] st_14 sn_14 lf_14) := rfl
theorem mF_obstacle_e1 (N : Nat) (nr : Nat → Int32) (n : Nat) (y0 : Int32) (st : Nat → Int32) (sn : Int32) (lf : Int32) : mF_obstacle N nr (n + 1) 1 [y0] st sn lf = (if y0 = (-1) then some ((-1 : Int32), st, sn, lf) else (mJ_bitCount n 0 [y0]).bind fun r112 => (mG_edgesInside N nr n 0 [y0]).bind fun r113 => (mF_obstacleKind n 0 [r112, r113]).bind fun r114 => some (r114, st, sn, lf)) := rfl
def mC_largestApart (N : Nat) (nr : Nat → Int32) : Nat → Nat → List Int32 → Option Int32
  | n + 1, 0, [x1] => mC_largestApart N nr n 1 [x1, 0, 1]
  | n + 1, 1, [x1, x2, x3] => (if x1 < x3 then some x2 else (if (x3 &&& (x1 ^^^ (-1))) = 0 then (mJ_bitCount n 0 [x3]).bind fun r113 => (mJ_bitCount n 0 [x2]).bind fun r114 => (if r113 ≤ r114 then mC_largestApart N nr n 1 [x1, x2, (x3 + 1)] else (mG_joined N nr n 0 [x3, x3]).bind fun r116 => (if r116 = 0 then mC_largestApart N nr n 1 [x1, x3, (x3 + 1)] else mC_largestApart N nr n 1 [x1, x2, (x3 + 1)])) else mC_largestApart N nr n 1 [x1, x2, (x3 + 1)]))
  | _, _, _ => none
theorem mC_largestApart_z (N : Nat) (nr : Nat → Int32) (b : Nat) (l : List Int32) : mC_largestApart N nr 0 b l = none := by first | rfl | (cases b <;> rfl) | simp [mC_largestApart]
theorem mC_largestApart_e0 (N : Nat) (nr : Nat → Int32) (n : Nat) (x1 : Int32) : mC_largestApart N nr (n + 1) 0 [x1] = mC_largestApart N nr n 1 [x1, 0, 1] := rfl
theorem mC_largestApart_e1 (N : Nat) (nr : Nat → Int32) (n : Nat) (x1 x2 x3 : Int32) : mC_largestApart N nr (n + 1) 1 [x1, x2, x3] = (if x1 < x3 then some x2 else (if (x3 &&& (x1 ^^^ (-1))) = 0 then (mJ_bitCount n 0 [x3]).bind fun r113 => (mJ_bitCount n 0 [x2]).bind fun r114 => (if r113 ≤ r114 then mC_largestApart N nr n 1 [x1, x2, (x3 + 1)] else (mG_joined N nr n 0 [x3, x3]).bind fun r116 => (if r116 = 0 then mC_largestApart N nr n 1 [x1, x3, (x3 + 1)] else mC_largestApart N nr n 1 [x1, x2, (x3 + 1)])) else mC_largestApart N nr n 1 [x1, x2, (x3 + 1)])) := rfl
def mF_apart (N : Nat) (nr : Nat → Int32) : Nat → Nat → List Int32 → (Nat → Int32) → Int32 → Int32 → Option (Int32 × (Nat → Int32) × Int32 × Int32)
  | n + 1, 0, [x1], st, sn, lf => (mF_hereditary N nr n 0 [x1] st sn lf).bind fun (r11, st_11, sn_11, lf_11) => (if r11 = 0 then some ((-1 : Int32), st_11, sn_11, lf_11) else (mF_componentOf N nr n 0 [x1]).bind fun r13 => (mC_largestApart N nr n 0 [r13]).bind fun r14 => (mJ_bitCount n 0 [r14]).bind fun r15 => some (r15, st_11, sn_11, lf_11))
  | _, _, _, _, _, _ => none
theorem mF_apart_z (N : Nat) (nr : Nat → Int32) (b : Nat) (l : List Int32) (st : Nat → Int32) (sn : Int32) (lf : Int32) : mF_apart N nr 0 b l st sn lf = none := by first | rfl | (cases b <;> rfl) | simp [mF_apart]
theorem mF_apart_e0 (N : Nat) (nr : Nat → Int32) (n : Nat) (x1 : Int32) (st : Nat → Int32) (sn : Int32) (lf : Int32) : mF_apart N nr (n + 1) 0 [x1] st sn lf = (mF_hereditary N nr n 0 [x1] st sn lf).bind fun (r11, st_11, sn_11, lf_11) => (if r11 = 0 then some ((-1 : Int32), st_11, sn_11, lf_11) else (mF_componentOf N nr n 0 [x1]).bind fun r13 => (mC_largestApart N nr n 0 [r13]).bind fun r14 => (mJ_bitCount n 0 [r14]).bind fun r15 => some (r15, st_11, sn_11, lf_11)) := rfl
def mF_chosen (N : Nat) (nr : Nat → Int32) : Nat → Nat → List Int32 → (Nat → Int32) → Int32 → Int32 → Option (Int32 × (Nat → Int32) × Int32 × Int32)
  | n + 1, 0, [x1], st, sn, lf => (mF_hereditary N nr n 0 [x1] st sn lf).bind fun (r11, st_11, sn_11, lf_11) => (if r11 = 0 then some ((-1 : Int32), st_11, sn_11, lf_11) else (mF_componentOf N nr n 0 [x1]).bind fun r13 => (mC_largestApart N nr n 0 [r13]).bind fun r14 => some (r14, st_11, sn_11, lf_11))
  | _, _, _, _, _, _ => none
theorem mF_chosen_z (N : Nat) (nr : Nat → Int32) (b : Nat) (l : List Int32) (st : Nat → Int32) (sn : Int32) (lf : Int32) : mF_chosen N nr 0 b l st sn lf = none := by first | rfl | (cases b <;> rfl) | simp [mF_chosen]
theorem mF_chosen_e0 (N : Nat) (nr : Nat → Int32) (n : Nat) (x1 : Int32) (st : Nat → Int32) (sn : Int32) (lf : Int32) : mF_chosen N nr (n + 1) 0 [x1] st sn lf = (mF_hereditary N nr n 0 [x1] st sn lf).bind fun (r11, st_11, sn_11, lf_11) => (if r11 = 0 then some ((-1 : Int32), st_11, sn_11, lf_11) else (mF_componentOf N nr n 0 [x1]).bind fun r13 => (mC_largestApart N nr n 0 [r13]).bind fun r14 => some (r14, st_11, sn_11, lf_11)) := rfl
def mC_fewestWith (N : Nat) (nr : Nat → Int32) (fw : Nat → Int32) : Nat → Nat → List Int32 → Option Int32
  | n + 1, 0, [x1, x2] => (mG_nearInside N nr n 0 [x1, x2]).bind fun r11 => kg x2 (2 ^ N) (kl (1 + (fw x2.toNatClampNeg)) fun x4_13 => mC_fewestWith N nr fw n 1 [x2, r11, x4_13, r11])
  | n + 1, 1, [x2, x3, x4, x5] => (if x5 ≤ 0 then some x4 else kg x5 (2 ^ N) ((if (fw x5.toNatClampNeg) = 1 then kg (x2 &&& (x5 ^^^ (-1))) (2 ^ N) (kl (if (1 + (fw (x2 &&& (x5 ^^^ (-1))).toNatClampNeg)) < x4 then (1 + (fw (x2 &&& (x5 ^^^ (-1))).toNatClampNeg)) else x4) fun x4_115 => mC_fewestWith N nr fw n 2 [x2, x3, x4_115, x5]) else mC_fewestWith N nr fw n 2 [x2, x3, x4, x5])))
  | n + 1, 2, [x2, x3, x4, x5] => kl ((x5 - 1) &&& x3) fun x5_211 => mC_fewestWith N nr fw n 1 [x2, x3, x4, x5_211]
  | _, _, _ => none
theorem mC_fewestWith_z (N : Nat) (nr : Nat → Int32) (fw : Nat → Int32) (b : Nat) (l : List Int32) : mC_fewestWith N nr fw 0 b l = none := by first | rfl | (cases b <;> rfl) | simp [mC_fewestWith]
theorem mC_fewestWith_e0 (N : Nat) (nr : Nat → Int32) (fw : Nat → Int32) (n : Nat) (x1 x2 : Int32) : mC_fewestWith N nr fw (n + 1) 0 [x1, x2] = (mG_nearInside N nr n 0 [x1, x2]).bind fun r11 => kg x2 (2 ^ N) (kl (1 + (fw x2.toNatClampNeg)) fun x4_13 => mC_fewestWith N nr fw n 1 [x2, r11, x4_13, r11]) := rfl
theorem mC_fewestWith_e1 (N : Nat) (nr : Nat → Int32) (fw : Nat → Int32) (n : Nat) (x2 x3 x4 x5 : Int32) : mC_fewestWith N nr fw (n + 1) 1 [x2, x3, x4, x5] = (if x5 ≤ 0 then some x4 else kg x5 (2 ^ N) ((if (fw x5.toNatClampNeg) = 1 then kg (x2 &&& (x5 ^^^ (-1))) (2 ^ N) (kl (if (1 + (fw (x2 &&& (x5 ^^^ (-1))).toNatClampNeg)) < x4 then (1 + (fw (x2 &&& (x5 ^^^ (-1))).toNatClampNeg)) else x4) fun x4_115 => mC_fewestWith N nr fw n 2 [x2, x3, x4_115, x5]) else mC_fewestWith N nr fw n 2 [x2, x3, x4, x5]))) := rfl
theorem mC_fewestWith_e2 (N : Nat) (nr : Nat → Int32) (fw : Nat → Int32) (n : Nat) (x2 x3 x4 x5 : Int32) : mC_fewestWith N nr fw (n + 1) 2 [x2, x3, x4, x5] = kl ((x5 - 1) &&& x3) fun x5_211 => mC_fewestWith N nr fw n 1 [x2, x3, x4, x5_211] := rfl
def mC_coverWith (N : Nat) (nr : Nat → Int32) : Nat → Nat → List Int32 → (Nat → Int32) → Option (Nat → Int32)
  | n + 1, 0, [x1, x2], fw => mC_coverWith N nr n 1 [x1, x2, 0] fw
  | n + 1, 1, [x1, x2, x3], fw => (if x2 < x3 then some fw else (if (x3 &&& (x2 ^^^ (-1))) = 0 then (mC_fewestWith N nr fw n 0 [x1, x3]).bind fun r113 => kg (x3 ||| ((1 : Int32) <<< (x1 &&& 31))) (2 ^ N) (mC_coverWith N nr n 1 [x1, x2, (x3 + 1)] (upd fw (x3 ||| ((1 : Int32) <<< (x1 &&& 31))).toNatClampNeg r113)) else mC_coverWith N nr n 1 [x1, x2, (x3 + 1)] fw))
  | _, _, _, _ => none
theorem mC_coverWith_z (N : Nat) (nr : Nat → Int32) (b : Nat) (l : List Int32) (fw : Nat → Int32) : mC_coverWith N nr 0 b l fw = none := by first | rfl | (cases b <;> rfl) | simp [mC_coverWith]
theorem mC_coverWith_e0 (N : Nat) (nr : Nat → Int32) (n : Nat) (x1 x2 : Int32) (fw : Nat → Int32) : mC_coverWith N nr (n + 1) 0 [x1, x2] fw = mC_coverWith N nr n 1 [x1, x2, 0] fw := rfl
theorem mC_coverWith_e1 (N : Nat) (nr : Nat → Int32) (n : Nat) (x1 x2 x3 : Int32) (fw : Nat → Int32) : mC_coverWith N nr (n + 1) 1 [x1, x2, x3] fw = (if x2 < x3 then some fw else (if (x3 &&& (x2 ^^^ (-1))) = 0 then (mC_fewestWith N nr fw n 0 [x1, x3]).bind fun r113 => kg (x3 ||| ((1 : Int32) <<< (x1 &&& 31))) (2 ^ N) (mC_coverWith N nr n 1 [x1, x2, (x3 + 1)] (upd fw (x3 ||| ((1 : Int32) <<< (x1 &&& 31))).toNatClampNeg r113)) else mC_coverWith N nr n 1 [x1, x2, (x3 + 1)] fw)) := rfl
def mC_fewestCliques (N : Nat) (nr : Nat → Int32) : Nat → Nat → List Int32 → (Nat → Int32) → Option (Int32 × (Nat → Int32))
  | n + 1, 0, [x1], fw => mC_fewestCliques N nr n 1 [x1, 0, 0] fw
  | n + 1, 1, [x1, x2, x3], fw => (mG_size N n 0 []).bind fun r111 => (if r111 ≤ x3 then kg x1 (2 ^ N) (some ((fw x1.toNatClampNeg), fw)) else (mF_contains n 0 [x1, x3]).bind fun r114 => (if r114 = 0 then mC_fewestCliques N nr n 1 [x1, x2, (x3 + 1)] fw else (mC_coverWith N nr n 0 [x3, x2] fw).bind fun fw_116 => kl (x2 ||| ((1 : Int32) <<< (x3 &&& 31))) fun x2_117 => mC_fewestCliques N nr n 1 [x1, x2_117, (x3 + 1)] fw_116))
  | _, _, _, _ => none
theorem mC_fewestCliques_z (N : Nat) (nr : Nat → Int32) (b : Nat) (l : List Int32) (fw : Nat → Int32) : mC_fewestCliques N nr 0 b l fw = none := by first | rfl | (cases b <;> rfl) | simp [mC_fewestCliques]
theorem mC_fewestCliques_e0 (N : Nat) (nr : Nat → Int32) (n : Nat) (x1 : Int32) (fw : Nat → Int32) : mC_fewestCliques N nr (n + 1) 0 [x1] fw = mC_fewestCliques N nr n 1 [x1, 0, 0] fw := rfl
theorem mC_fewestCliques_e1 (N : Nat) (nr : Nat → Int32) (n : Nat) (x1 x2 x3 : Int32) (fw : Nat → Int32) : mC_fewestCliques N nr (n + 1) 1 [x1, x2, x3] fw = (mG_size N n 0 []).bind fun r111 => (if r111 ≤ x3 then kg x1 (2 ^ N) (some ((fw x1.toNatClampNeg), fw)) else (mF_contains n 0 [x1, x3]).bind fun r114 => (if r114 = 0 then mC_fewestCliques N nr n 1 [x1, x2, (x3 + 1)] fw else (mC_coverWith N nr n 0 [x3, x2] fw).bind fun fw_116 => kl (x2 ||| ((1 : Int32) <<< (x3 &&& 31))) fun x2_117 => mC_fewestCliques N nr n 1 [x1, x2_117, (x3 + 1)] fw_116)) := rfl
def mF_cover (N : Nat) (nr : Nat → Int32) : Nat → Nat → List Int32 → (Nat → Int32) → Int32 → Int32 → (Nat → Int32) → Option (Int32 × (Nat → Int32) × Int32 × Int32 × (Nat → Int32))
  | n + 1, 0, [x1], st, sn, lf, fw => (mF_hereditary N nr n 0 [x1] st sn lf).bind fun (r11, st_11, sn_11, lf_11) => (if r11 = 0 then some ((-1 : Int32), st_11, sn_11, lf_11, fw) else (mF_componentOf N nr n 0 [x1]).bind fun r13 => (mC_fewestCliques N nr n 0 [r13] fw).bind fun (r14, fw_14) => some (r14, st_11, sn_11, lf_11, fw_14))
  | _, _, _, _, _, _, _ => none
theorem mF_cover_z (N : Nat) (nr : Nat → Int32) (b : Nat) (l : List Int32) (st : Nat → Int32) (sn : Int32) (lf : Int32) (fw : Nat → Int32) : mF_cover N nr 0 b l st sn lf fw = none := by first | rfl | (cases b <;> rfl) | simp [mF_cover]
theorem mF_cover_e0 (N : Nat) (nr : Nat → Int32) (n : Nat) (x1 : Int32) (st : Nat → Int32) (sn : Int32) (lf : Int32) (fw : Nat → Int32) : mF_cover N nr (n + 1) 0 [x1] st sn lf fw = (mF_hereditary N nr n 0 [x1] st sn lf).bind fun (r11, st_11, sn_11, lf_11) => (if r11 = 0 then some ((-1 : Int32), st_11, sn_11, lf_11, fw) else (mF_componentOf N nr n 0 [x1]).bind fun r13 => (mC_fewestCliques N nr n 0 [r13] fw).bind fun (r14, fw_14) => some (r14, st_11, sn_11, lf_11, fw_14)) := rfl
def mM_vertices (N : Nat) : Nat → Nat → List Int32 → Option Int32
  | n + 1, 0, [] => some (nI N)
  | _, _, _ => none
theorem mM_vertices_z (N : Nat) (b : Nat) (l : List Int32) : mM_vertices N 0 b l = none := by first | rfl | (cases b <;> rfl) | simp [mM_vertices]
theorem mM_vertices_e0 (N : Nat) (n : Nat) : mM_vertices N (n + 1) 0 [] = some (nI N) := rfl
def mM_is (N : Nat) : Nat → Nat → List Int32 → Option Int32
  | n + 1, 0, [x1] => (if x1 < 0 then some (0 : Int32) else (if (nI N) ≤ x1 then some (0 : Int32) else some (1 : Int32)))
  | _, _, _ => none
theorem mM_is_z (N : Nat) (b : Nat) (l : List Int32) : mM_is N 0 b l = none := by first | rfl | (cases b <;> rfl) | simp [mM_is]
theorem mM_is_e0 (N : Nat) (n : Nat) (x1 : Int32) : mM_is N (n + 1) 0 [x1] = (if x1 < 0 then some (0 : Int32) else (if (nI N) ≤ x1 then some (0 : Int32) else some (1 : Int32))) := rfl
def mM_size : Nat → Nat → List Int32 → Option Int32
  | n + 1, 0, [x0] => mM_size n 1 [x0, 0, 0]
  | n + 1, 1, [x0, x1, x2] => (if 9 ≤ x2 then some x1 else kl (x1 + ((x0 >>> (x2 &&& 31)) &&& 1)) fun x1_112 => mM_size n 1 [x0, x1_112, (x2 + 1)])
  | _, _, _ => none
theorem mM_size_z (b : Nat) (l : List Int32) : mM_size  0 b l = none := by first | rfl | (cases b <;> rfl) | simp [mM_size]
theorem mM_size_e0 (n : Nat) (x0 : Int32) : mM_size  (n + 1) 0 [x0] = mM_size n 1 [x0, 0, 0] := rfl
theorem mM_size_e1 (n : Nat) (x0 x1 x2 : Int32) : mM_size  (n + 1) 1 [x0, x1, x2] = (if 9 ≤ x2 then some x1 else kl (x1 + ((x0 >>> (x2 &&& 31)) &&& 1)) fun x1_112 => mM_size n 1 [x0, x1_112, (x2 + 1)]) := rfl
def mM_least : Nat → Nat → List Int32 → Option Int32
  | n + 1, 0, [x0] => mM_least n 1 [x0, 0]
  | n + 1, 1, [x0, x1] => (if 9 ≤ x1 then some x1 else (if ((x0 >>> (x1 &&& 31)) &&& 1) = 0 then mM_least n 1 [x0, (x1 + 1)] else some x1))
  | _, _, _ => none
theorem mM_least_z (b : Nat) (l : List Int32) : mM_least  0 b l = none := by first | rfl | (cases b <;> rfl) | simp [mM_least]
theorem mM_least_e0 (n : Nat) (x0 : Int32) : mM_least  (n + 1) 0 [x0] = mM_least n 1 [x0, 0] := rfl
theorem mM_least_e1 (n : Nat) (x0 x1 : Int32) : mM_least  (n + 1) 1 [x0, x1] = (if 9 ≤ x1 then some x1 else (if ((x0 >>> (x1 &&& 31)) &&& 1) = 0 then mM_least n 1 [x0, (x1 + 1)] else some x1)) := rfl
def mM_flip (N : Nat) : Nat → Nat → List Int32 → (Nat → Int32) → Option (Int32 × (Nat → Int32))
  | n + 1, 0, [x1, x2], mr => (mM_is N n 0 [x1]).bind fun r11 => (if r11 = 0 then some ((0 : Int32), mr) else (mM_is N n 0 [x2]).bind fun r13 => (if r13 = 0 then some ((0 : Int32), mr) else (if x1 = x2 then some ((0 : Int32), mr) else kg x1 9 (kg x1 9 (kg x2 9 (kg x2 9 (kg x1 9 ((if ((((upd (upd mr x1.toNatClampNeg ((mr x1.toNatClampNeg) ^^^ ((1 : Int32) <<< (x2 &&& 31)))) x2.toNatClampNeg (((upd mr x1.toNatClampNeg ((mr x1.toNatClampNeg) ^^^ ((1 : Int32) <<< (x2 &&& 31)))) x2.toNatClampNeg) ^^^ ((1 : Int32) <<< (x1 &&& 31)))) x1.toNatClampNeg) >>> (x2 &&& 31)) &&& 1) = 1 then some ((1 : Int32), (upd (upd mr x1.toNatClampNeg ((mr x1.toNatClampNeg) ^^^ ((1 : Int32) <<< (x2 &&& 31)))) x2.toNatClampNeg (((upd mr x1.toNatClampNeg ((mr x1.toNatClampNeg) ^^^ ((1 : Int32) <<< (x2 &&& 31)))) x2.toNatClampNeg) ^^^ ((1 : Int32) <<< (x1 &&& 31))))) else some ((0 : Int32), (upd (upd mr x1.toNatClampNeg ((mr x1.toNatClampNeg) ^^^ ((1 : Int32) <<< (x2 &&& 31)))) x2.toNatClampNeg (((upd mr x1.toNatClampNeg ((mr x1.toNatClampNeg) ^^^ ((1 : Int32) <<< (x2 &&& 31)))) x2.toNatClampNeg) ^^^ ((1 : Int32) <<< (x1 &&& 31))))))))))))))
  | _, _, _, _ => none
theorem mM_flip_z (N : Nat) (b : Nat) (l : List Int32) (mr : Nat → Int32) : mM_flip N 0 b l mr = none := by first | rfl | (cases b <;> rfl) | simp [mM_flip]
theorem mM_flip_e0 (N : Nat) (n : Nat) (x1 x2 : Int32) (mr : Nat → Int32) : mM_flip N (n + 1) 0 [x1, x2] mr = (mM_is N n 0 [x1]).bind fun r11 => (if r11 = 0 then some ((0 : Int32), mr) else (mM_is N n 0 [x2]).bind fun r13 => (if r13 = 0 then some ((0 : Int32), mr) else (if x1 = x2 then some ((0 : Int32), mr) else kg x1 9 (kg x1 9 (kg x2 9 (kg x2 9 (kg x1 9 ((if ((((upd (upd mr x1.toNatClampNeg ((mr x1.toNatClampNeg) ^^^ ((1 : Int32) <<< (x2 &&& 31)))) x2.toNatClampNeg (((upd mr x1.toNatClampNeg ((mr x1.toNatClampNeg) ^^^ ((1 : Int32) <<< (x2 &&& 31)))) x2.toNatClampNeg) ^^^ ((1 : Int32) <<< (x1 &&& 31)))) x1.toNatClampNeg) >>> (x2 &&& 31)) &&& 1) = 1 then some ((1 : Int32), (upd (upd mr x1.toNatClampNeg ((mr x1.toNatClampNeg) ^^^ ((1 : Int32) <<< (x2 &&& 31)))) x2.toNatClampNeg (((upd mr x1.toNatClampNeg ((mr x1.toNatClampNeg) ^^^ ((1 : Int32) <<< (x2 &&& 31)))) x2.toNatClampNeg) ^^^ ((1 : Int32) <<< (x1 &&& 31))))) else some ((0 : Int32), (upd (upd mr x1.toNatClampNeg ((mr x1.toNatClampNeg) ^^^ ((1 : Int32) <<< (x2 &&& 31)))) x2.toNatClampNeg (((upd mr x1.toNatClampNeg ((mr x1.toNatClampNeg) ^^^ ((1 : Int32) <<< (x2 &&& 31)))) x2.toNatClampNeg) ^^^ ((1 : Int32) <<< (x1 &&& 31)))))))))))))) := rfl
def mM_neighbours (N : Nat) (mr : Nat → Int32) : Nat → Nat → List Int32 → Option Int32
  | n + 1, 0, [x1, x2] => (mM_is N n 0 [x1]).bind fun r11 => (if r11 = 0 then some (0 : Int32) else (mM_is N n 0 [x2]).bind fun r13 => (if r13 = 0 then some (0 : Int32) else kg x1 9 ((if (((mr x1.toNatClampNeg) >>> (x2 &&& 31)) &&& 1) = 1 then some (1 : Int32) else some (0 : Int32)))))
  | _, _, _ => none
theorem mM_neighbours_z (N : Nat) (mr : Nat → Int32) (b : Nat) (l : List Int32) : mM_neighbours N mr 0 b l = none := by first | rfl | (cases b <;> rfl) | simp [mM_neighbours]
theorem mM_neighbours_e0 (N : Nat) (mr : Nat → Int32) (n : Nat) (x1 x2 : Int32) : mM_neighbours N mr (n + 1) 0 [x1, x2] = (mM_is N n 0 [x1]).bind fun r11 => (if r11 = 0 then some (0 : Int32) else (mM_is N n 0 [x2]).bind fun r13 => (if r13 = 0 then some (0 : Int32) else kg x1 9 ((if (((mr x1.toNatClampNeg) >>> (x2 &&& 31)) &&& 1) = 1 then some (1 : Int32) else some (0 : Int32))))) := rfl
def mM_within (N : Nat) (mr : Nat → Int32) : Nat → Nat → List Int32 → Option Int32
  | n + 1, 0, [x1, x2] => kl ((1 : Int32) <<< (x1 &&& 31)) fun x3_11 => mM_within N mr n 1 [x2, x3_11, 0]
  | n + 1, 1, [x2, x3, x4] => (if 9 ≤ x4 then some x3 else mM_within N mr n 2 [x2, x3, x4, 0])
  | n + 1, 2, [x2, x3, x4, x5] => (if (nI N) ≤ x5 then mM_within N mr n 1 [x2, x3, (x4 + 1)] else (if ((x3 >>> (x5 &&& 31)) &&& 1) = 1 then kg x5 9 (kl (x3 ||| ((mr x5.toNatClampNeg) &&& x2)) fun x3_214 => mM_within N mr n 2 [x2, x3_214, x4, (x5 + 1)]) else mM_within N mr n 2 [x2, x3, x4, (x5 + 1)]))
  | _, _, _ => none
theorem mM_within_z (N : Nat) (mr : Nat → Int32) (b : Nat) (l : List Int32) : mM_within N mr 0 b l = none := by first | rfl | (cases b <;> rfl) | simp [mM_within]
theorem mM_within_e0 (N : Nat) (mr : Nat → Int32) (n : Nat) (x1 x2 : Int32) : mM_within N mr (n + 1) 0 [x1, x2] = kl ((1 : Int32) <<< (x1 &&& 31)) fun x3_11 => mM_within N mr n 1 [x2, x3_11, 0] := rfl
theorem mM_within_e1 (N : Nat) (mr : Nat → Int32) (n : Nat) (x2 x3 x4 : Int32) : mM_within N mr (n + 1) 1 [x2, x3, x4] = (if 9 ≤ x4 then some x3 else mM_within N mr n 2 [x2, x3, x4, 0]) := rfl
theorem mM_within_e2 (N : Nat) (mr : Nat → Int32) (n : Nat) (x2 x3 x4 x5 : Int32) : mM_within N mr (n + 1) 2 [x2, x3, x4, x5] = (if (nI N) ≤ x5 then mM_within N mr n 1 [x2, x3, (x4 + 1)] else (if ((x3 >>> (x5 &&& 31)) &&& 1) = 1 then kg x5 9 (kl (x3 ||| ((mr x5.toNatClampNeg) &&& x2)) fun x3_214 => mM_within N mr n 2 [x2, x3_214, x4, (x5 + 1)]) else mM_within N mr n 2 [x2, x3, x4, (x5 + 1)])) := rfl
def mM_component (N : Nat) (mr : Nat → Int32) : Nat → Nat → List Int32 → Option Int32
  | n + 1, 0, [x1] => (mM_is N n 0 [x1]).bind fun r11 => (if r11 = 0 then some (0 : Int32) else (mM_within N mr n 0 [x1, (((1 : Int32) <<< ((nI N) &&& 31)) - 1)]).bind fun r13 => some r13)
  | _, _, _ => none
theorem mM_component_z (N : Nat) (mr : Nat → Int32) (b : Nat) (l : List Int32) : mM_component N mr 0 b l = none := by first | rfl | (cases b <;> rfl) | simp [mM_component]
theorem mM_component_e0 (N : Nat) (mr : Nat → Int32) (n : Nat) (x1 : Int32) : mM_component N mr (n + 1) 0 [x1] = (mM_is N n 0 [x1]).bind fun r11 => (if r11 = 0 then some (0 : Int32) else (mM_within N mr n 0 [x1, (((1 : Int32) <<< ((nI N) &&& 31)) - 1)]).bind fun r13 => some r13) := rfl
def mM_complete (N : Nat) (mr : Nat → Int32) : Nat → Nat → List Int32 → Option Int32
  | n + 1, 0, [x1, x2] => mM_complete N mr n 1 [x1, x2, 0, 1, 0]
  | n + 1, 1, [x1, x2, x3, x4, x5] => (if (nI N) ≤ x5 then kz x4 (some x4) else (if ((x1 >>> (x5 &&& 31)) &&& 1) = 1 then kg x5 9 (mM_complete N mr n 2 [x1, x2, x3, x4, x5, ((mr x5.toNatClampNeg) &&& x2)]) else mM_complete N mr n 2 [x1, x2, x3, x4, x5, 0]))
  | n + 1, 2, [x1, x2, x3, x4, x5, y0] => (if x4 = 0 then mM_complete N mr n 4 [x1, x2, x3, x5, y0] else (if y0 = 0 then mM_complete N mr n 3 [x1, x2, x3, x5, y0] else (if x3 = 0 then mM_complete N mr n 3 [x1, x2, x3, x5, y0] else (if y0 = x3 then mM_complete N mr n 3 [x1, x2, x3, x5, y0] else mM_complete N mr n 4 [x1, x2, x3, x5, y0]))))
  | n + 1, 3, [x1, x2, x3, x5, x6] => mM_complete N mr n 5 [x1, x2, x3, x5, x6, 1]
  | n + 1, 4, [x1, x2, x3, x5, x6] => mM_complete N mr n 5 [x1, x2, x3, x5, x6, 0]
  | n + 1, 5, [x1, x2, x3, x5, x6, y0] => (if x6 = 0 then mM_complete N mr n 1 [x1, x2, x3, y0, (x5 + 1)] else mM_complete N mr n 1 [x1, x2, x6, y0, (x5 + 1)])
  | _, _, _ => none
theorem mM_complete_z (N : Nat) (mr : Nat → Int32) (b : Nat) (l : List Int32) : mM_complete N mr 0 b l = none := by first | rfl | (cases b <;> rfl) | simp [mM_complete]
theorem mM_complete_e0 (N : Nat) (mr : Nat → Int32) (n : Nat) (x1 x2 : Int32) : mM_complete N mr (n + 1) 0 [x1, x2] = mM_complete N mr n 1 [x1, x2, 0, 1, 0] := rfl
theorem mM_complete_e1 (N : Nat) (mr : Nat → Int32) (n : Nat) (x1 x2 x3 x4 x5 : Int32) : mM_complete N mr (n + 1) 1 [x1, x2, x3, x4, x5] = (if (nI N) ≤ x5 then kz x4 (some x4) else (if ((x1 >>> (x5 &&& 31)) &&& 1) = 1 then kg x5 9 (mM_complete N mr n 2 [x1, x2, x3, x4, x5, ((mr x5.toNatClampNeg) &&& x2)]) else mM_complete N mr n 2 [x1, x2, x3, x4, x5, 0])) := rfl
theorem mM_complete_e2 (N : Nat) (mr : Nat → Int32) (n : Nat) (x1 x2 x3 x4 x5 y0 : Int32) : mM_complete N mr (n + 1) 2 [x1, x2, x3, x4, x5, y0] = (if x4 = 0 then mM_complete N mr n 4 [x1, x2, x3, x5, y0] else (if y0 = 0 then mM_complete N mr n 3 [x1, x2, x3, x5, y0] else (if x3 = 0 then mM_complete N mr n 3 [x1, x2, x3, x5, y0] else (if y0 = x3 then mM_complete N mr n 3 [x1, x2, x3, x5, y0] else mM_complete N mr n 4 [x1, x2, x3, x5, y0])))) := rfl
theorem mM_complete_e3 (N : Nat) (mr : Nat → Int32) (n : Nat) (x1 x2 x3 x5 x6 : Int32) : mM_complete N mr (n + 1) 3 [x1, x2, x3, x5, x6] = mM_complete N mr n 5 [x1, x2, x3, x5, x6, 1] := rfl
theorem mM_complete_e4 (N : Nat) (mr : Nat → Int32) (n : Nat) (x1 x2 x3 x5 x6 : Int32) : mM_complete N mr (n + 1) 4 [x1, x2, x3, x5, x6] = mM_complete N mr n 5 [x1, x2, x3, x5, x6, 0] := rfl
theorem mM_complete_e5 (N : Nat) (mr : Nat → Int32) (n : Nat) (x1 x2 x3 x5 x6 y0 : Int32) : mM_complete N mr (n + 1) 5 [x1, x2, x3, x5, x6, y0] = (if x6 = 0 then mM_complete N mr n 1 [x1, x2, x3, y0, (x5 + 1)] else mM_complete N mr n 1 [x1, x2, x6, y0, (x5 + 1)]) := rfl
def mM_cross : Nat → Nat → List Int32 → Option Int32
  | n + 1, 0, [x0, x1] => (if (x0 &&& x1) = 0 then some (0 : Int32) else (if (x0 &&& (x1 ^^^ (-1))) = 0 then some (0 : Int32) else (if (x1 &&& (x0 ^^^ (-1))) = 0 then some (0 : Int32) else some (1 : Int32))))
  | _, _, _ => none
theorem mM_cross_z (b : Nat) (l : List Int32) : mM_cross  0 b l = none := by first | rfl | (cases b <;> rfl) | simp [mM_cross]
theorem mM_cross_e0 (n : Nat) (x0 x1 : Int32) : mM_cross  (n + 1) 0 [x0, x1] = (if (x0 &&& x1) = 0 then some (0 : Int32) else (if (x0 &&& (x1 ^^^ (-1))) = 0 then some (0 : Int32) else (if (x1 &&& (x0 ^^^ (-1))) = 0 then some (0 : Int32) else some (1 : Int32)))) := rfl
def mM_find (N : Nat) (mr : Nat → Int32) : Nat → Nat → List Int32 → Int32 → (Nat → Int32) → Int32 → (Nat → Int32) → Option (Int32 × (Nat → Int32) × Int32 × (Nat → Int32))
  | n + 1, 0, [x1], zn, zs, tn, ts => (mM_least n 0 [x1]).bind fun r11 => kl ((1 : Int32) <<< (r11 &&& 31)) fun x2_12 => mM_find N mr n 1 [x1, x2_12, 0] 0 zs tn ts
  | n + 1, 1, [x1, x2, x3], zn, zs, tn, ts => (if 512 ≤ x3 then mM_find N mr n 4 [0] zn zs 0 ts else (if (x3 &&& (x1 ^^^ (-1))) = 0 then (if (x3 &&& x2) = 0 then (mM_size n 0 [x3]).bind fun r114 => (if r114 < 2 then mM_find N mr n 2 [x1, x2, x3] zn zs tn ts else (mM_size n 0 [(x1 &&& (x3 ^^^ (-1)))]).bind fun r116 => (if r116 < 2 then mM_find N mr n 2 [x1, x2, x3] zn zs tn ts else mM_find N mr n 3 [x1, x2, x3, 1] zn zs tn ts)) else mM_find N mr n 2 [x1, x2, x3] zn zs tn ts) else mM_find N mr n 2 [x1, x2, x3] zn zs tn ts))
  | n + 1, 2, [x1, x2, x3], zn, zs, tn, ts => mM_find N mr n 3 [x1, x2, x3, 0] zn zs tn ts
  | n + 1, 3, [x1, x2, x3, y0], zn, zs, tn, ts => (if y0 = 0 then mM_find N mr n 1 [x1, x2, (x3 + 1)] zn zs tn ts else (mM_complete N mr n 0 [x3, (x1 &&& (x3 ^^^ (-1)))]).bind fun r312 => (if r312 = 0 then mM_find N mr n 1 [x1, x2, (x3 + 1)] zn zs tn ts else kg zn 256 (mM_find N mr n 1 [x1, x2, (x3 + 1)] (zn + 1) (upd zs zn.toNatClampNeg x3) tn ts)))
  | n + 1, 4, [x3], zn, zs, tn, ts => (if zn ≤ x3 then some (zn, zs, tn, ts) else mM_find N mr n 5 [x3, 1, 0] zn zs tn ts)
  | n + 1, 5, [x3, x4, x5], zn, zs, tn, ts => (if zn ≤ x5 then (if x4 = 0 then mM_find N mr n 4 [(x3 + 1)] zn zs tn ts else kg x3 256 (kg tn 256 (mM_find N mr n 4 [(x3 + 1)] zn zs (tn + 1) (upd ts tn.toNatClampNeg (zs x3.toNatClampNeg))))) else (if x4 = 0 then mM_find N mr n 6 [x3, x5] zn zs tn ts else kg x3 256 (kg x5 256 ((mM_cross n 0 [(zs x3.toNatClampNeg), (zs x5.toNatClampNeg)]).bind fun r518 => (if r518 = 0 then mM_find N mr n 5 [x3, 1, (x5 + 1)] zn zs tn ts else mM_find N mr n 6 [x3, x5] zn zs tn ts)))))
  | n + 1, 6, [x3, x5], zn, zs, tn, ts => mM_find N mr n 5 [x3, 0, (x5 + 1)] zn zs tn ts
  | _, _, _, _, _, _, _ => none
theorem mM_find_z (N : Nat) (mr : Nat → Int32) (b : Nat) (l : List Int32) (zn : Int32) (zs : Nat → Int32) (tn : Int32) (ts : Nat → Int32) : mM_find N mr 0 b l zn zs tn ts = none := by first | rfl | (cases b <;> rfl) | simp [mM_find]
theorem mM_find_e0 (N : Nat) (mr : Nat → Int32) (n : Nat) (x1 : Int32) (zn : Int32) (zs : Nat → Int32) (tn : Int32) (ts : Nat → Int32) : mM_find N mr (n + 1) 0 [x1] zn zs tn ts = (mM_least n 0 [x1]).bind fun r11 => kl ((1 : Int32) <<< (r11 &&& 31)) fun x2_12 => mM_find N mr n 1 [x1, x2_12, 0] 0 zs tn ts := rfl
theorem mM_find_e1 (N : Nat) (mr : Nat → Int32) (n : Nat) (x1 x2 x3 : Int32) (zn : Int32) (zs : Nat → Int32) (tn : Int32) (ts : Nat → Int32) : mM_find N mr (n + 1) 1 [x1, x2, x3] zn zs tn ts = (if 512 ≤ x3 then mM_find N mr n 4 [0] zn zs 0 ts else (if (x3 &&& (x1 ^^^ (-1))) = 0 then (if (x3 &&& x2) = 0 then (mM_size n 0 [x3]).bind fun r114 => (if r114 < 2 then mM_find N mr n 2 [x1, x2, x3] zn zs tn ts else (mM_size n 0 [(x1 &&& (x3 ^^^ (-1)))]).bind fun r116 => (if r116 < 2 then mM_find N mr n 2 [x1, x2, x3] zn zs tn ts else mM_find N mr n 3 [x1, x2, x3, 1] zn zs tn ts)) else mM_find N mr n 2 [x1, x2, x3] zn zs tn ts) else mM_find N mr n 2 [x1, x2, x3] zn zs tn ts)) := rfl
theorem mM_find_e2 (N : Nat) (mr : Nat → Int32) (n : Nat) (x1 x2 x3 : Int32) (zn : Int32) (zs : Nat → Int32) (tn : Int32) (ts : Nat → Int32) : mM_find N mr (n + 1) 2 [x1, x2, x3] zn zs tn ts = mM_find N mr n 3 [x1, x2, x3, 0] zn zs tn ts := rfl
theorem mM_find_e3 (N : Nat) (mr : Nat → Int32) (n : Nat) (x1 x2 x3 y0 : Int32) (zn : Int32) (zs : Nat → Int32) (tn : Int32) (ts : Nat → Int32) : mM_find N mr (n + 1) 3 [x1, x2, x3, y0] zn zs tn ts = (if y0 = 0 then mM_find N mr n 1 [x1, x2, (x3 + 1)] zn zs tn ts else (mM_complete N mr n 0 [x3, (x1 &&& (x3 ^^^ (-1)))]).bind fun r312 => (if r312 = 0 then mM_find N mr n 1 [x1, x2, (x3 + 1)] zn zs tn ts else kg zn 256 (mM_find N mr n 1 [x1, x2, (x3 + 1)] (zn + 1) (upd zs zn.toNatClampNeg x3) tn ts))) := rfl
theorem mM_find_e4 (N : Nat) (mr : Nat → Int32) (n : Nat) (x3 : Int32) (zn : Int32) (zs : Nat → Int32) (tn : Int32) (ts : Nat → Int32) : mM_find N mr (n + 1) 4 [x3] zn zs tn ts = (if zn ≤ x3 then some (zn, zs, tn, ts) else mM_find N mr n 5 [x3, 1, 0] zn zs tn ts) := rfl
theorem mM_find_e5 (N : Nat) (mr : Nat → Int32) (n : Nat) (x3 x4 x5 : Int32) (zn : Int32) (zs : Nat → Int32) (tn : Int32) (ts : Nat → Int32) : mM_find N mr (n + 1) 5 [x3, x4, x5] zn zs tn ts = (if zn ≤ x5 then (if x4 = 0 then mM_find N mr n 4 [(x3 + 1)] zn zs tn ts else kg x3 256 (kg tn 256 (mM_find N mr n 4 [(x3 + 1)] zn zs (tn + 1) (upd ts tn.toNatClampNeg (zs x3.toNatClampNeg))))) else (if x4 = 0 then mM_find N mr n 6 [x3, x5] zn zs tn ts else kg x3 256 (kg x5 256 ((mM_cross n 0 [(zs x3.toNatClampNeg), (zs x5.toNatClampNeg)]).bind fun r518 => (if r518 = 0 then mM_find N mr n 5 [x3, 1, (x5 + 1)] zn zs tn ts else mM_find N mr n 6 [x3, x5] zn zs tn ts))))) := rfl
theorem mM_find_e6 (N : Nat) (mr : Nat → Int32) (n : Nat) (x3 x5 : Int32) (zn : Int32) (zs : Nat → Int32) (tn : Int32) (ts : Nat → Int32) : mM_find N mr (n + 1) 6 [x3, x5] zn zs tn ts = mM_find N mr n 5 [x3, 0, (x5 + 1)] zn zs tn ts := rfl
def mM_splits (N : Nat) (mr : Nat → Int32) : Nat → Nat → List Int32 → Int32 → (Nat → Int32) → Int32 → (Nat → Int32) → Option (Int32 × Int32 × (Nat → Int32) × Int32 × (Nat → Int32))
  | n + 1, 0, [x1], zn, zs, tn, ts => (mM_is N n 0 [x1]).bind fun r11 => (if r11 = 0 then some ((-1 : Int32), zn, zs, tn, ts) else (mM_component N mr n 0 [x1]).bind fun r13 => (mM_find N mr n 0 [r13] zn zs tn ts).bind fun (zn_14, zs_14, tn_14, ts_14) => some (zn_14, zn_14, zs_14, tn_14, ts_14))
  | _, _, _, _, _, _, _ => none
theorem mM_splits_z (N : Nat) (mr : Nat → Int32) (b : Nat) (l : List Int32) (zn : Int32) (zs : Nat → Int32) (tn : Int32) (ts : Nat → Int32) : mM_splits N mr 0 b l zn zs tn ts = none := by first | rfl | (cases b <;> rfl) | simp [mM_splits]
theorem mM_splits_e0 (N : Nat) (mr : Nat → Int32) (n : Nat) (x1 : Int32) (zn : Int32) (zs : Nat → Int32) (tn : Int32) (ts : Nat → Int32) : mM_splits N mr (n + 1) 0 [x1] zn zs tn ts = (mM_is N n 0 [x1]).bind fun r11 => (if r11 = 0 then some ((-1 : Int32), zn, zs, tn, ts) else (mM_component N mr n 0 [x1]).bind fun r13 => (mM_find N mr n 0 [r13] zn zs tn ts).bind fun (zn_14, zs_14, tn_14, ts_14) => some (zn_14, zn_14, zs_14, tn_14, ts_14)) := rfl
def mM_strong (N : Nat) (mr : Nat → Int32) : Nat → Nat → List Int32 → Int32 → (Nat → Int32) → Int32 → (Nat → Int32) → Option (Int32 × Int32 × (Nat → Int32) × Int32 × (Nat → Int32))
  | n + 1, 0, [x1], zn, zs, tn, ts => (mM_is N n 0 [x1]).bind fun r11 => (if r11 = 0 then some ((-1 : Int32), zn, zs, tn, ts) else (mM_component N mr n 0 [x1]).bind fun r13 => (mM_find N mr n 0 [r13] zn zs tn ts).bind fun (zn_14, zs_14, tn_14, ts_14) => some (tn_14, zn_14, zs_14, tn_14, ts_14))
  | _, _, _, _, _, _, _ => none
theorem mM_strong_z (N : Nat) (mr : Nat → Int32) (b : Nat) (l : List Int32) (zn : Int32) (zs : Nat → Int32) (tn : Int32) (ts : Nat → Int32) : mM_strong N mr 0 b l zn zs tn ts = none := by first | rfl | (cases b <;> rfl) | simp [mM_strong]
theorem mM_strong_e0 (N : Nat) (mr : Nat → Int32) (n : Nat) (x1 : Int32) (zn : Int32) (zs : Nat → Int32) (tn : Int32) (ts : Nat → Int32) : mM_strong N mr (n + 1) 0 [x1] zn zs tn ts = (mM_is N n 0 [x1]).bind fun r11 => (if r11 = 0 then some ((-1 : Int32), zn, zs, tn, ts) else (mM_component N mr n 0 [x1]).bind fun r13 => (mM_find N mr n 0 [r13] zn zs tn ts).bind fun (zn_14, zs_14, tn_14, ts_14) => some (tn_14, zn_14, zs_14, tn_14, ts_14)) := rfl
def mM_nodeSet (N : Nat) (mr : Nat → Int32) : Nat → Nat → List Int32 → Int32 → (Nat → Int32) → Int32 → (Nat → Int32) → Option (Int32 × Int32 × (Nat → Int32) × Int32 × (Nat → Int32))
  | n + 1, 0, [x1, x2], zn, zs, tn, ts => (mM_is N n 0 [x1]).bind fun r11 => (if r11 = 0 then some ((-1 : Int32), zn, zs, tn, ts) else (if 0 ≤ x2 then (mM_component N mr n 0 [x1]).bind fun r14 => (mM_find N mr n 0 [r14] zn zs tn ts).bind fun (zn_15, zs_15, tn_15, ts_15) => (if x2 = 0 then some (r14, zn_15, zs_15, tn_15, ts_15) else (if tn_15 < x2 then some ((-1 : Int32), zn_15, zs_15, tn_15, ts_15) else kg (x2 - 1) 256 (some ((ts_15 (x2 - 1).toNatClampNeg), zn_15, zs_15, tn_15, ts_15)))) else some ((-1 : Int32), zn, zs, tn, ts)))
  | _, _, _, _, _, _, _ => none
theorem mM_nodeSet_z (N : Nat) (mr : Nat → Int32) (b : Nat) (l : List Int32) (zn : Int32) (zs : Nat → Int32) (tn : Int32) (ts : Nat → Int32) : mM_nodeSet N mr 0 b l zn zs tn ts = none := by first | rfl | (cases b <;> rfl) | simp [mM_nodeSet]
theorem mM_nodeSet_e0 (N : Nat) (mr : Nat → Int32) (n : Nat) (x1 x2 : Int32) (zn : Int32) (zs : Nat → Int32) (tn : Int32) (ts : Nat → Int32) : mM_nodeSet N mr (n + 1) 0 [x1, x2] zn zs tn ts = (mM_is N n 0 [x1]).bind fun r11 => (if r11 = 0 then some ((-1 : Int32), zn, zs, tn, ts) else (if 0 ≤ x2 then (mM_component N mr n 0 [x1]).bind fun r14 => (mM_find N mr n 0 [r14] zn zs tn ts).bind fun (zn_15, zs_15, tn_15, ts_15) => (if x2 = 0 then some (r14, zn_15, zs_15, tn_15, ts_15) else (if tn_15 < x2 then some ((-1 : Int32), zn_15, zs_15, tn_15, ts_15) else kg (x2 - 1) 256 (some ((ts_15 (x2 - 1).toNatClampNeg), zn_15, zs_15, tn_15, ts_15)))) else some ((-1 : Int32), zn, zs, tn, ts))) := rfl
def mM_set (N : Nat) (mr : Nat → Int32) : Nat → Nat → List Int32 → Int32 → (Nat → Int32) → Int32 → (Nat → Int32) → Option (Int32 × Int32 × (Nat → Int32) × Int32 × (Nat → Int32))
  | n + 1, 0, [x1, x2], zn, zs, tn, ts => (mM_nodeSet N mr n 0 [x1, x2] zn zs tn ts).bind fun (r11, zn_11, zs_11, tn_11, ts_11) => some (r11, zn_11, zs_11, tn_11, ts_11)
  | _, _, _, _, _, _, _ => none
theorem mM_set_z (N : Nat) (mr : Nat → Int32) (b : Nat) (l : List Int32) (zn : Int32) (zs : Nat → Int32) (tn : Int32) (ts : Nat → Int32) : mM_set N mr 0 b l zn zs tn ts = none := by first | rfl | (cases b <;> rfl) | simp [mM_set]
theorem mM_set_e0 (N : Nat) (mr : Nat → Int32) (n : Nat) (x1 x2 : Int32) (zn : Int32) (zs : Nat → Int32) (tn : Int32) (ts : Nat → Int32) : mM_set N mr (n + 1) 0 [x1, x2] zn zs tn ts = (mM_nodeSet N mr n 0 [x1, x2] zn zs tn ts).bind fun (r11, zn_11, zs_11, tn_11, ts_11) => some (r11, zn_11, zs_11, tn_11, ts_11) := rfl
def mM_inside : Nat → Nat → List Int32 → Option Int32
  | n + 1, 0, [x0, x1] => (if x0 = x1 then some (0 : Int32) else (if (x0 &&& (x1 ^^^ (-1))) = 0 then some (1 : Int32) else some (0 : Int32)))
  | _, _, _ => none
theorem mM_inside_z (b : Nat) (l : List Int32) : mM_inside  0 b l = none := by first | rfl | (cases b <;> rfl) | simp [mM_inside]
theorem mM_inside_e0 (n : Nat) (x0 x1 : Int32) : mM_inside  (n + 1) 0 [x0, x1] = (if x0 = x1 then some (0 : Int32) else (if (x0 &&& (x1 ^^^ (-1))) = 0 then some (1 : Int32) else some (0 : Int32))) := rfl
def mM_isPart (N : Nat) (tn : Int32) (ts : Nat → Int32) : Nat → Nat → List Int32 → Option Int32
  | n + 1, 0, [x1, x2, x3, x4] => (if x4 = 0 then (if x1 = (x3 &&& (x2 ^^^ (-1))) then some (1 : Int32) else mM_isPart N tn ts n 1 [x1, x2]) else mM_isPart N tn ts n 1 [x1, x2])
  | n + 1, 1, [x1, x2] => (mM_size n 0 [x1]).bind fun r111 => (if r111 = 1 then (if (x1 &&& x2) = 0 then mM_isPart N tn ts n 2 [x1, x2] else mM_isPart N tn ts n 3 [x1, x2, 1]) else mM_isPart N tn ts n 2 [x1, x2])
  | n + 1, 2, [x1, x2] => mM_isPart N tn ts n 3 [x1, x2, 0]
  | n + 1, 3, [x1, x2, y0] => mM_isPart N tn ts n 4 [x1, x2, y0, 0, 0, 0]
  | n + 1, 4, [x1, x2, x5, x6, x7, x8] => (if tn ≤ x8 then (if x5 = 0 then (if x6 = 0 then some (0 : Int32) else mM_isPart N tn ts n 10 [x7]) else mM_isPart N tn ts n 10 [x7]) else kg x8 256 ((mM_inside n 0 [(ts x8.toNatClampNeg), x2]).bind fun r415 => (if x6 = 0 then (if r415 = 0 then mM_isPart N tn ts n 6 [x1, x2, x5, x7, x8, r415] else kg x8 256 ((if (ts x8.toNatClampNeg) = x1 then mM_isPart N tn ts n 5 [x1, x2, x5, x7, x8, r415] else mM_isPart N tn ts n 6 [x1, x2, x5, x7, x8, r415]))) else mM_isPart N tn ts n 5 [x1, x2, x5, x7, x8, r415])))
  | n + 1, 5, [x1, x2, x5, x7, x8, x9] => mM_isPart N tn ts n 7 [x1, x2, x5, x7, x8, x9, 1]
  | n + 1, 6, [x1, x2, x5, x7, x8, x9] => mM_isPart N tn ts n 7 [x1, x2, x5, x7, x8, x9, 0]
  | n + 1, 7, [x1, x2, x5, x7, x8, x9, y0] => (if x7 = 0 then (if x9 = 0 then mM_isPart N tn ts n 9 [x1, x2, x5, y0, x8] else kg x8 256 ((mM_inside n 0 [x1, (ts x8.toNatClampNeg)]).bind fun r714 => (if r714 = 0 then mM_isPart N tn ts n 9 [x1, x2, x5, y0, x8] else mM_isPart N tn ts n 8 [x1, x2, x5, y0, x8]))) else mM_isPart N tn ts n 8 [x1, x2, x5, y0, x8])
  | n + 1, 8, [x1, x2, x5, x6, x8] => mM_isPart N tn ts n 4 [x1, x2, x5, x6, 1, (x8 + 1)]
  | n + 1, 9, [x1, x2, x5, x6, x8] => mM_isPart N tn ts n 4 [x1, x2, x5, x6, 0, (x8 + 1)]
  | n + 1, 10, [x7] => (if x7 = 0 then some (1 : Int32) else some (0 : Int32))
  | _, _, _ => none
theorem mM_isPart_z (N : Nat) (tn : Int32) (ts : Nat → Int32) (b : Nat) (l : List Int32) : mM_isPart N tn ts 0 b l = none := by first | rfl | (cases b <;> rfl) | simp [mM_isPart]
theorem mM_isPart_e0 (N : Nat) (tn : Int32) (ts : Nat → Int32) (n : Nat) (x1 x2 x3 x4 : Int32) : mM_isPart N tn ts (n + 1) 0 [x1, x2, x3, x4] = (if x4 = 0 then (if x1 = (x3 &&& (x2 ^^^ (-1))) then some (1 : Int32) else mM_isPart N tn ts n 1 [x1, x2]) else mM_isPart N tn ts n 1 [x1, x2]) := rfl
theorem mM_isPart_e1 (N : Nat) (tn : Int32) (ts : Nat → Int32) (n : Nat) (x1 x2 : Int32) : mM_isPart N tn ts (n + 1) 1 [x1, x2] = (mM_size n 0 [x1]).bind fun r111 => (if r111 = 1 then (if (x1 &&& x2) = 0 then mM_isPart N tn ts n 2 [x1, x2] else mM_isPart N tn ts n 3 [x1, x2, 1]) else mM_isPart N tn ts n 2 [x1, x2]) := rfl
theorem mM_isPart_e2 (N : Nat) (tn : Int32) (ts : Nat → Int32) (n : Nat) (x1 x2 : Int32) : mM_isPart N tn ts (n + 1) 2 [x1, x2] = mM_isPart N tn ts n 3 [x1, x2, 0] := rfl
theorem mM_isPart_e3 (N : Nat) (tn : Int32) (ts : Nat → Int32) (n : Nat) (x1 x2 y0 : Int32) : mM_isPart N tn ts (n + 1) 3 [x1, x2, y0] = mM_isPart N tn ts n 4 [x1, x2, y0, 0, 0, 0] := rfl
theorem mM_isPart_e4 (N : Nat) (tn : Int32) (ts : Nat → Int32) (n : Nat) (x1 x2 x5 x6 x7 x8 : Int32) : mM_isPart N tn ts (n + 1) 4 [x1, x2, x5, x6, x7, x8] = (if tn ≤ x8 then (if x5 = 0 then (if x6 = 0 then some (0 : Int32) else mM_isPart N tn ts n 10 [x7]) else mM_isPart N tn ts n 10 [x7]) else kg x8 256 ((mM_inside n 0 [(ts x8.toNatClampNeg), x2]).bind fun r415 => (if x6 = 0 then (if r415 = 0 then mM_isPart N tn ts n 6 [x1, x2, x5, x7, x8, r415] else kg x8 256 ((if (ts x8.toNatClampNeg) = x1 then mM_isPart N tn ts n 5 [x1, x2, x5, x7, x8, r415] else mM_isPart N tn ts n 6 [x1, x2, x5, x7, x8, r415]))) else mM_isPart N tn ts n 5 [x1, x2, x5, x7, x8, r415]))) := rfl
theorem mM_isPart_e5 (N : Nat) (tn : Int32) (ts : Nat → Int32) (n : Nat) (x1 x2 x5 x7 x8 x9 : Int32) : mM_isPart N tn ts (n + 1) 5 [x1, x2, x5, x7, x8, x9] = mM_isPart N tn ts n 7 [x1, x2, x5, x7, x8, x9, 1] := rfl
theorem mM_isPart_e6 (N : Nat) (tn : Int32) (ts : Nat → Int32) (n : Nat) (x1 x2 x5 x7 x8 x9 : Int32) : mM_isPart N tn ts (n + 1) 6 [x1, x2, x5, x7, x8, x9] = mM_isPart N tn ts n 7 [x1, x2, x5, x7, x8, x9, 0] := rfl
theorem mM_isPart_e7 (N : Nat) (tn : Int32) (ts : Nat → Int32) (n : Nat) (x1 x2 x5 x7 x8 x9 y0 : Int32) : mM_isPart N tn ts (n + 1) 7 [x1, x2, x5, x7, x8, x9, y0] = (if x7 = 0 then (if x9 = 0 then mM_isPart N tn ts n 9 [x1, x2, x5, y0, x8] else kg x8 256 ((mM_inside n 0 [x1, (ts x8.toNatClampNeg)]).bind fun r714 => (if r714 = 0 then mM_isPart N tn ts n 9 [x1, x2, x5, y0, x8] else mM_isPart N tn ts n 8 [x1, x2, x5, y0, x8]))) else mM_isPart N tn ts n 8 [x1, x2, x5, y0, x8]) := rfl
theorem mM_isPart_e8 (N : Nat) (tn : Int32) (ts : Nat → Int32) (n : Nat) (x1 x2 x5 x6 x8 : Int32) : mM_isPart N tn ts (n + 1) 8 [x1, x2, x5, x6, x8] = mM_isPart N tn ts n 4 [x1, x2, x5, x6, 1, (x8 + 1)] := rfl
theorem mM_isPart_e9 (N : Nat) (tn : Int32) (ts : Nat → Int32) (n : Nat) (x1 x2 x5 x6 x8 : Int32) : mM_isPart N tn ts (n + 1) 9 [x1, x2, x5, x6, x8] = mM_isPart N tn ts n 4 [x1, x2, x5, x6, 0, (x8 + 1)] := rfl
theorem mM_isPart_e10 (N : Nat) (tn : Int32) (ts : Nat → Int32) (n : Nat) (x7 : Int32) : mM_isPart N tn ts (n + 1) 10 [x7] = (if x7 = 0 then some (1 : Int32) else some (0 : Int32)) := rfl
def mM_open (N : Nat) (mr : Nat → Int32) : Nat → Nat → List Int32 → Int32 → (Nat → Int32) → Int32 → (Nat → Int32) → Int32 → (Nat → Int32) → Option (Int32 × Int32 × (Nat → Int32) × Int32 × (Nat → Int32) × Int32 × (Nat → Int32))
  | n + 1, 0, [x1, x2], zn, zs, tn, ts, yn, ys => (mM_nodeSet N mr n 0 [x1, x2] zn zs tn ts).bind fun (r11, zn_11, zs_11, tn_11, ts_11) => (if r11 = (-1) then some ((0 : Int32), zn_11, zs_11, tn_11, ts_11, yn, ys) else (mM_component N mr n 0 [x1]).bind fun r13 => mM_open N mr n 1 [x2, r11, r13, 1] zn_11 zs_11 tn_11 ts_11 0 ys)
  | n + 1, 1, [x2, x3, x4, x5], zn, zs, tn, ts, yn, ys => (if 512 ≤ x5 then some ((1 : Int32), zn, zs, tn, ts, yn, ys) else (if x2 = 0 then mM_open N mr n 2 [x2, x3, x4, x5, 1, x4, x3, x5] zn zs tn ts yn ys else mM_open N mr n 2 [x2, x3, x4, x5, 0, x4, x3, x5] zn zs tn ts yn ys))
  | n + 1, 2, [x2, x3, x4, x5, y0, y1, y2, y3], zn, zs, tn, ts, yn, ys => (mM_isPart N tn ts n 0 [y3, y2, y1, y0]).bind fun r211 => (if r211 = 0 then mM_open N mr n 1 [x2, x3, x4, (x5 + 1)] zn zs tn ts yn ys else kg yn 16 (mM_open N mr n 1 [x2, x3, x4, (x5 + 1)] zn zs tn ts (yn + 1) (upd ys yn.toNatClampNeg x5)))
  | _, _, _, _, _, _, _, _, _ => none
theorem mM_open_z (N : Nat) (mr : Nat → Int32) (b : Nat) (l : List Int32) (zn : Int32) (zs : Nat → Int32) (tn : Int32) (ts : Nat → Int32) (yn : Int32) (ys : Nat → Int32) : mM_open N mr 0 b l zn zs tn ts yn ys = none := by first | rfl | (cases b <;> rfl) | simp [mM_open]
theorem mM_open_e0 (N : Nat) (mr : Nat → Int32) (n : Nat) (x1 x2 : Int32) (zn : Int32) (zs : Nat → Int32) (tn : Int32) (ts : Nat → Int32) (yn : Int32) (ys : Nat → Int32) : mM_open N mr (n + 1) 0 [x1, x2] zn zs tn ts yn ys = (mM_nodeSet N mr n 0 [x1, x2] zn zs tn ts).bind fun (r11, zn_11, zs_11, tn_11, ts_11) => (if r11 = (-1) then some ((0 : Int32), zn_11, zs_11, tn_11, ts_11, yn, ys) else (mM_component N mr n 0 [x1]).bind fun r13 => mM_open N mr n 1 [x2, r11, r13, 1] zn_11 zs_11 tn_11 ts_11 0 ys) := rfl
theorem mM_open_e1 (N : Nat) (mr : Nat → Int32) (n : Nat) (x2 x3 x4 x5 : Int32) (zn : Int32) (zs : Nat → Int32) (tn : Int32) (ts : Nat → Int32) (yn : Int32) (ys : Nat → Int32) : mM_open N mr (n + 1) 1 [x2, x3, x4, x5] zn zs tn ts yn ys = (if 512 ≤ x5 then some ((1 : Int32), zn, zs, tn, ts, yn, ys) else (if x2 = 0 then mM_open N mr n 2 [x2, x3, x4, x5, 1, x4, x3, x5] zn zs tn ts yn ys else mM_open N mr n 2 [x2, x3, x4, x5, 0, x4, x3, x5] zn zs tn ts yn ys)) := rfl
theorem mM_open_e2 (N : Nat) (mr : Nat → Int32) (n : Nat) (x2 x3 x4 x5 y0 y1 y2 y3 : Int32) (zn : Int32) (zs : Nat → Int32) (tn : Int32) (ts : Nat → Int32) (yn : Int32) (ys : Nat → Int32) : mM_open N mr (n + 1) 2 [x2, x3, x4, x5, y0, y1, y2, y3] zn zs tn ts yn ys = (mM_isPart N tn ts n 0 [y3, y2, y1, y0]).bind fun r211 => (if r211 = 0 then mM_open N mr n 1 [x2, x3, x4, (x5 + 1)] zn zs tn ts yn ys else kg yn 16 (mM_open N mr n 1 [x2, x3, x4, (x5 + 1)] zn zs tn ts (yn + 1) (upd ys yn.toNatClampNeg x5))) := rfl
def mM_joined (N : Nat) (mr : Nat → Int32) : Nat → Nat → List Int32 → Option Int32
  | n + 1, 0, [x1, x2] => mM_joined N mr n 1 [x1, x2, 0, 0]
  | n + 1, 1, [x1, x2, x3, x4] => (if (nI N) ≤ x4 then kz x3 (some x3) else (if x3 = 0 then (if ((x1 >>> (x4 &&& 31)) &&& 1) = 1 then kg x4 9 ((if ((mr x4.toNatClampNeg) &&& x2) = 0 then mM_joined N mr n 3 [x1, x2, x4] else mM_joined N mr n 2 [x1, x2, x4])) else mM_joined N mr n 3 [x1, x2, x4]) else mM_joined N mr n 2 [x1, x2, x4]))
  | n + 1, 2, [x1, x2, x4] => mM_joined N mr n 1 [x1, x2, 1, (x4 + 1)]
  | n + 1, 3, [x1, x2, x4] => mM_joined N mr n 1 [x1, x2, 0, (x4 + 1)]
  | _, _, _ => none
theorem mM_joined_z (N : Nat) (mr : Nat → Int32) (b : Nat) (l : List Int32) : mM_joined N mr 0 b l = none := by first | rfl | (cases b <;> rfl) | simp [mM_joined]
theorem mM_joined_e0 (N : Nat) (mr : Nat → Int32) (n : Nat) (x1 x2 : Int32) : mM_joined N mr (n + 1) 0 [x1, x2] = mM_joined N mr n 1 [x1, x2, 0, 0] := rfl
theorem mM_joined_e1 (N : Nat) (mr : Nat → Int32) (n : Nat) (x1 x2 x3 x4 : Int32) : mM_joined N mr (n + 1) 1 [x1, x2, x3, x4] = (if (nI N) ≤ x4 then kz x3 (some x3) else (if x3 = 0 then (if ((x1 >>> (x4 &&& 31)) &&& 1) = 1 then kg x4 9 ((if ((mr x4.toNatClampNeg) &&& x2) = 0 then mM_joined N mr n 3 [x1, x2, x4] else mM_joined N mr n 2 [x1, x2, x4])) else mM_joined N mr n 3 [x1, x2, x4]) else mM_joined N mr n 2 [x1, x2, x4])) := rfl
theorem mM_joined_e2 (N : Nat) (mr : Nat → Int32) (n : Nat) (x1 x2 x4 : Int32) : mM_joined N mr (n + 1) 2 [x1, x2, x4] = mM_joined N mr n 1 [x1, x2, 1, (x4 + 1)] := rfl
theorem mM_joined_e3 (N : Nat) (mr : Nat → Int32) (n : Nat) (x1 x2 x4 : Int32) : mM_joined N mr (n + 1) 3 [x1, x2, x4] = mM_joined N mr n 1 [x1, x2, 0, (x4 + 1)] := rfl
def mM_links (N : Nat) (mr : Nat → Int32) (yn : Int32) (ys : Nat → Int32) : Nat → Nat → List Int32 → Option Int32
  | n + 1, 0, [x1] => mM_links N mr yn ys n 1 [x1, 0, 0]
  | n + 1, 1, [x1, x2, x3] => (if yn ≤ x3 then some x2 else (if x3 = x1 then mM_links N mr yn ys n 2 [x1, x3, x2] else kg x1 16 (kg x3 16 ((mM_joined N mr n 0 [(ys x1.toNatClampNeg), (ys x3.toNatClampNeg)]).bind fun r115 => (if r115 = 0 then mM_links N mr yn ys n 2 [x1, x3, x2] else mM_links N mr yn ys n 3 [x1, x3, 1, x2])))))
  | n + 1, 2, [x1, x3, y0] => mM_links N mr yn ys n 3 [x1, x3, 0, y0]
  | n + 1, 3, [x1, x3, y0, y1] => kl (y1 + y0) fun x2_311 => mM_links N mr yn ys n 1 [x1, x2_311, (x3 + 1)]
  | _, _, _ => none
theorem mM_links_z (N : Nat) (mr : Nat → Int32) (yn : Int32) (ys : Nat → Int32) (b : Nat) (l : List Int32) : mM_links N mr yn ys 0 b l = none := by first | rfl | (cases b <;> rfl) | simp [mM_links]
theorem mM_links_e0 (N : Nat) (mr : Nat → Int32) (yn : Int32) (ys : Nat → Int32) (n : Nat) (x1 : Int32) : mM_links N mr yn ys (n + 1) 0 [x1] = mM_links N mr yn ys n 1 [x1, 0, 0] := rfl
theorem mM_links_e1 (N : Nat) (mr : Nat → Int32) (yn : Int32) (ys : Nat → Int32) (n : Nat) (x1 x2 x3 : Int32) : mM_links N mr yn ys (n + 1) 1 [x1, x2, x3] = (if yn ≤ x3 then some x2 else (if x3 = x1 then mM_links N mr yn ys n 2 [x1, x3, x2] else kg x1 16 (kg x3 16 ((mM_joined N mr n 0 [(ys x1.toNatClampNeg), (ys x3.toNatClampNeg)]).bind fun r115 => (if r115 = 0 then mM_links N mr yn ys n 2 [x1, x3, x2] else mM_links N mr yn ys n 3 [x1, x3, 1, x2]))))) := rfl
theorem mM_links_e2 (N : Nat) (mr : Nat → Int32) (yn : Int32) (ys : Nat → Int32) (n : Nat) (x1 x3 y0 : Int32) : mM_links N mr yn ys (n + 1) 2 [x1, x3, y0] = mM_links N mr yn ys n 3 [x1, x3, 0, y0] := rfl
theorem mM_links_e3 (N : Nat) (mr : Nat → Int32) (yn : Int32) (ys : Nat → Int32) (n : Nat) (x1 x3 y0 y1 : Int32) : mM_links N mr yn ys (n + 1) 3 [x1, x3, y0, y1] = kl (y1 + y0) fun x2_311 => mM_links N mr yn ys n 1 [x1, x2_311, (x3 + 1)] := rfl
def mM_middle (N : Nat) (mr : Nat → Int32) (yn : Int32) (ys : Nat → Int32) : Nat → Nat → List Int32 → Option Int32
  | n + 1, 0, [] => mM_middle N mr yn ys n 1 [0, (-1), 0]
  | n + 1, 1, [x1, x2, x3] => (if yn ≤ x3 then (if x1 = (yn * (yn - 1)) then some (-2 : Int32) else (if x2 = (-1) then some (-1 : Int32) else (if x1 = (2 * (yn - 1)) then some x2 else some (-1 : Int32)))) else (mM_links N mr yn ys n 0 [x3]).bind fun r115 => kl (x1 + r115) fun x1_116 => (mM_links N mr yn ys n 0 [x3]).bind fun r117 => (if r117 = (yn - 1) then (if x2 = (-1) then mM_middle N mr yn ys n 1 [x1_116, x3, (x3 + 1)] else mM_middle N mr yn ys n 2 [x1_116, x2, x3]) else mM_middle N mr yn ys n 2 [x1_116, x2, x3]))
  | n + 1, 2, [x1, x2, x3] => mM_middle N mr yn ys n 1 [x1, x2, (x3 + 1)]
  | _, _, _ => none
theorem mM_middle_z (N : Nat) (mr : Nat → Int32) (yn : Int32) (ys : Nat → Int32) (b : Nat) (l : List Int32) : mM_middle N mr yn ys 0 b l = none := by first | rfl | (cases b <;> rfl) | simp [mM_middle]
theorem mM_middle_e0 (N : Nat) (mr : Nat → Int32) (yn : Int32) (ys : Nat → Int32) (n : Nat) : mM_middle N mr yn ys (n + 1) 0 [] = mM_middle N mr yn ys n 1 [0, (-1), 0] := rfl
theorem mM_middle_e1 (N : Nat) (mr : Nat → Int32) (yn : Int32) (ys : Nat → Int32) (n : Nat) (x1 x2 x3 : Int32) : mM_middle N mr yn ys (n + 1) 1 [x1, x2, x3] = (if yn ≤ x3 then (if x1 = (yn * (yn - 1)) then some (-2 : Int32) else (if x2 = (-1) then some (-1 : Int32) else (if x1 = (2 * (yn - 1)) then some x2 else some (-1 : Int32)))) else (mM_links N mr yn ys n 0 [x3]).bind fun r115 => kl (x1 + r115) fun x1_116 => (mM_links N mr yn ys n 0 [x3]).bind fun r117 => (if r117 = (yn - 1) then (if x2 = (-1) then mM_middle N mr yn ys n 1 [x1_116, x3, (x3 + 1)] else mM_middle N mr yn ys n 2 [x1_116, x2, x3]) else mM_middle N mr yn ys n 2 [x1_116, x2, x3])) := rfl
theorem mM_middle_e2 (N : Nat) (mr : Nat → Int32) (yn : Int32) (ys : Nat → Int32) (n : Nat) (x1 x2 x3 : Int32) : mM_middle N mr yn ys (n + 1) 2 [x1, x2, x3] = mM_middle N mr yn ys n 1 [x1, x2, (x3 + 1)] := rfl
def mM_kind (N : Nat) (mr : Nat → Int32) : Nat → Nat → List Int32 → Int32 → (Nat → Int32) → Int32 → (Nat → Int32) → Int32 → (Nat → Int32) → Option (Int32 × Int32 × (Nat → Int32) × Int32 × (Nat → Int32) × Int32 × (Nat → Int32))
  | n + 1, 0, [x1, x2], zn, zs, tn, ts, yn, ys => (mM_open N mr n 0 [x1, x2] zn zs tn ts yn ys).bind fun (r11, zn_11, zs_11, tn_11, ts_11, yn_11, ys_11) => (if r11 = 0 then some ((-1 : Int32), zn_11, zs_11, tn_11, ts_11, yn_11, ys_11) else (mM_middle N mr yn_11 ys_11 n 0 []).bind fun r13 => (if r13 = (-2) then some ((1 : Int32), zn_11, zs_11, tn_11, ts_11, yn_11, ys_11) else (if r13 = (-1) then some ((3 : Int32), zn_11, zs_11, tn_11, ts_11, yn_11, ys_11) else some ((2 : Int32), zn_11, zs_11, tn_11, ts_11, yn_11, ys_11))))
  | _, _, _, _, _, _, _, _, _ => none
theorem mM_kind_z (N : Nat) (mr : Nat → Int32) (b : Nat) (l : List Int32) (zn : Int32) (zs : Nat → Int32) (tn : Int32) (ts : Nat → Int32) (yn : Int32) (ys : Nat → Int32) : mM_kind N mr 0 b l zn zs tn ts yn ys = none := by first | rfl | (cases b <;> rfl) | simp [mM_kind]
theorem mM_kind_e0 (N : Nat) (mr : Nat → Int32) (n : Nat) (x1 x2 : Int32) (zn : Int32) (zs : Nat → Int32) (tn : Int32) (ts : Nat → Int32) (yn : Int32) (ys : Nat → Int32) : mM_kind N mr (n + 1) 0 [x1, x2] zn zs tn ts yn ys = (mM_open N mr n 0 [x1, x2] zn zs tn ts yn ys).bind fun (r11, zn_11, zs_11, tn_11, ts_11, yn_11, ys_11) => (if r11 = 0 then some ((-1 : Int32), zn_11, zs_11, tn_11, ts_11, yn_11, ys_11) else (mM_middle N mr yn_11 ys_11 n 0 []).bind fun r13 => (if r13 = (-2) then some ((1 : Int32), zn_11, zs_11, tn_11, ts_11, yn_11, ys_11) else (if r13 = (-1) then some ((3 : Int32), zn_11, zs_11, tn_11, ts_11, yn_11, ys_11) else some ((2 : Int32), zn_11, zs_11, tn_11, ts_11, yn_11, ys_11)))) := rfl
def mM_parts (N : Nat) (mr : Nat → Int32) : Nat → Nat → List Int32 → Int32 → (Nat → Int32) → Int32 → (Nat → Int32) → Int32 → (Nat → Int32) → Option (Int32 × Int32 × (Nat → Int32) × Int32 × (Nat → Int32) × Int32 × (Nat → Int32))
  | n + 1, 0, [x1, x2], zn, zs, tn, ts, yn, ys => (mM_open N mr n 0 [x1, x2] zn zs tn ts yn ys).bind fun (r11, zn_11, zs_11, tn_11, ts_11, yn_11, ys_11) => (if r11 = 0 then some ((-1 : Int32), zn_11, zs_11, tn_11, ts_11, yn_11, ys_11) else some (yn_11, zn_11, zs_11, tn_11, ts_11, yn_11, ys_11))
  | _, _, _, _, _, _, _, _, _ => none
theorem mM_parts_z (N : Nat) (mr : Nat → Int32) (b : Nat) (l : List Int32) (zn : Int32) (zs : Nat → Int32) (tn : Int32) (ts : Nat → Int32) (yn : Int32) (ys : Nat → Int32) : mM_parts N mr 0 b l zn zs tn ts yn ys = none := by first | rfl | (cases b <;> rfl) | simp [mM_parts]
theorem mM_parts_e0 (N : Nat) (mr : Nat → Int32) (n : Nat) (x1 x2 : Int32) (zn : Int32) (zs : Nat → Int32) (tn : Int32) (ts : Nat → Int32) (yn : Int32) (ys : Nat → Int32) : mM_parts N mr (n + 1) 0 [x1, x2] zn zs tn ts yn ys = (mM_open N mr n 0 [x1, x2] zn zs tn ts yn ys).bind fun (r11, zn_11, zs_11, tn_11, ts_11, yn_11, ys_11) => (if r11 = 0 then some ((-1 : Int32), zn_11, zs_11, tn_11, ts_11, yn_11, ys_11) else some (yn_11, zn_11, zs_11, tn_11, ts_11, yn_11, ys_11)) := rfl
def mM_part (N : Nat) (mr : Nat → Int32) : Nat → Nat → List Int32 → Int32 → (Nat → Int32) → Int32 → (Nat → Int32) → Int32 → (Nat → Int32) → Option (Int32 × Int32 × (Nat → Int32) × Int32 × (Nat → Int32) × Int32 × (Nat → Int32))
  | n + 1, 0, [x1, x2, x3], zn, zs, tn, ts, yn, ys => (mM_open N mr n 0 [x1, x2] zn zs tn ts yn ys).bind fun (r11, zn_11, zs_11, tn_11, ts_11, yn_11, ys_11) => (if r11 = 0 then some ((-1 : Int32), zn_11, zs_11, tn_11, ts_11, yn_11, ys_11) else (if x3 < 0 then some ((-1 : Int32), zn_11, zs_11, tn_11, ts_11, yn_11, ys_11) else (if yn_11 ≤ x3 then some ((-1 : Int32), zn_11, zs_11, tn_11, ts_11, yn_11, ys_11) else kg x3 16 (some ((ys_11 x3.toNatClampNeg), zn_11, zs_11, tn_11, ts_11, yn_11, ys_11)))))
  | _, _, _, _, _, _, _, _, _ => none
theorem mM_part_z (N : Nat) (mr : Nat → Int32) (b : Nat) (l : List Int32) (zn : Int32) (zs : Nat → Int32) (tn : Int32) (ts : Nat → Int32) (yn : Int32) (ys : Nat → Int32) : mM_part N mr 0 b l zn zs tn ts yn ys = none := by first | rfl | (cases b <;> rfl) | simp [mM_part]
theorem mM_part_e0 (N : Nat) (mr : Nat → Int32) (n : Nat) (x1 x2 x3 : Int32) (zn : Int32) (zs : Nat → Int32) (tn : Int32) (ts : Nat → Int32) (yn : Int32) (ys : Nat → Int32) : mM_part N mr (n + 1) 0 [x1, x2, x3] zn zs tn ts yn ys = (mM_open N mr n 0 [x1, x2] zn zs tn ts yn ys).bind fun (r11, zn_11, zs_11, tn_11, ts_11, yn_11, ys_11) => (if r11 = 0 then some ((-1 : Int32), zn_11, zs_11, tn_11, ts_11, yn_11, ys_11) else (if x3 < 0 then some ((-1 : Int32), zn_11, zs_11, tn_11, ts_11, yn_11, ys_11) else (if yn_11 ≤ x3 then some ((-1 : Int32), zn_11, zs_11, tn_11, ts_11, yn_11, ys_11) else kg x3 16 (some ((ys_11 x3.toNatClampNeg), zn_11, zs_11, tn_11, ts_11, yn_11, ys_11))))) := rfl
def mM_centre (N : Nat) (mr : Nat → Int32) : Nat → Nat → List Int32 → Int32 → (Nat → Int32) → Int32 → (Nat → Int32) → Int32 → (Nat → Int32) → Option (Int32 × Int32 × (Nat → Int32) × Int32 × (Nat → Int32) × Int32 × (Nat → Int32))
  | n + 1, 0, [x1, x2], zn, zs, tn, ts, yn, ys => (mM_open N mr n 0 [x1, x2] zn zs tn ts yn ys).bind fun (r11, zn_11, zs_11, tn_11, ts_11, yn_11, ys_11) => (if r11 = 0 then some ((-1 : Int32), zn_11, zs_11, tn_11, ts_11, yn_11, ys_11) else (mM_middle N mr yn_11 ys_11 n 0 []).bind fun r13 => (if r13 < 0 then some ((-1 : Int32), zn_11, zs_11, tn_11, ts_11, yn_11, ys_11) else kg r13 16 (some ((ys_11 r13.toNatClampNeg), zn_11, zs_11, tn_11, ts_11, yn_11, ys_11))))
  | _, _, _, _, _, _, _, _, _ => none
theorem mM_centre_z (N : Nat) (mr : Nat → Int32) (b : Nat) (l : List Int32) (zn : Int32) (zs : Nat → Int32) (tn : Int32) (ts : Nat → Int32) (yn : Int32) (ys : Nat → Int32) : mM_centre N mr 0 b l zn zs tn ts yn ys = none := by first | rfl | (cases b <;> rfl) | simp [mM_centre]
theorem mM_centre_e0 (N : Nat) (mr : Nat → Int32) (n : Nat) (x1 x2 : Int32) (zn : Int32) (zs : Nat → Int32) (tn : Int32) (ts : Nat → Int32) (yn : Int32) (ys : Nat → Int32) : mM_centre N mr (n + 1) 0 [x1, x2] zn zs tn ts yn ys = (mM_open N mr n 0 [x1, x2] zn zs tn ts yn ys).bind fun (r11, zn_11, zs_11, tn_11, ts_11, yn_11, ys_11) => (if r11 = 0 then some ((-1 : Int32), zn_11, zs_11, tn_11, ts_11, yn_11, ys_11) else (mM_middle N mr yn_11 ys_11 n 0 []).bind fun r13 => (if r13 < 0 then some ((-1 : Int32), zn_11, zs_11, tn_11, ts_11, yn_11, ys_11) else kg r13 16 (some ((ys_11 r13.toNatClampNeg), zn_11, zs_11, tn_11, ts_11, yn_11, ys_11)))) := rfl
def mM_partOf (N : Nat) (yn : Int32) (ys : Nat → Int32) : Nat → Nat → List Int32 → Option Int32
  | n + 1, 0, [x1] => mM_partOf N yn ys n 1 [x1, 0, 0]
  | n + 1, 1, [x1, x2, x3] => (if yn ≤ x3 then some x2 else kg x3 16 ((if (((ys x3.toNatClampNeg) >>> (x1 &&& 31)) &&& 1) = 1 then mM_partOf N yn ys n 1 [x1, x3, (x3 + 1)] else mM_partOf N yn ys n 1 [x1, x2, (x3 + 1)])))
  | _, _, _ => none
theorem mM_partOf_z (N : Nat) (yn : Int32) (ys : Nat → Int32) (b : Nat) (l : List Int32) : mM_partOf N yn ys 0 b l = none := by first | rfl | (cases b <;> rfl) | simp [mM_partOf]
theorem mM_partOf_e0 (N : Nat) (yn : Int32) (ys : Nat → Int32) (n : Nat) (x1 : Int32) : mM_partOf N yn ys (n + 1) 0 [x1] = mM_partOf N yn ys n 1 [x1, 0, 0] := rfl
theorem mM_partOf_e1 (N : Nat) (yn : Int32) (ys : Nat → Int32) (n : Nat) (x1 x2 x3 : Int32) : mM_partOf N yn ys (n + 1) 1 [x1, x2, x3] = (if yn ≤ x3 then some x2 else kg x3 16 ((if (((ys x3.toNatClampNeg) >>> (x1 &&& 31)) &&& 1) = 1 then mM_partOf N yn ys n 1 [x1, x3, (x3 + 1)] else mM_partOf N yn ys n 1 [x1, x2, (x3 + 1)]))) := rfl
def mM_linked (N : Nat) (mr : Nat → Int32) : Nat → Nat → List Int32 → Int32 → (Nat → Int32) → Int32 → (Nat → Int32) → Int32 → (Nat → Int32) → Option (Int32 × Int32 × (Nat → Int32) × Int32 × (Nat → Int32) × Int32 × (Nat → Int32))
  | n + 1, 0, [x1, x2], zn, zs, tn, ts, yn, ys => (mM_is N n 0 [x1]).bind fun r11 => (if r11 = 0 then some ((0 : Int32), zn, zs, tn, ts, yn, ys) else (mM_is N n 0 [x2]).bind fun r13 => (if r13 = 0 then some ((0 : Int32), zn, zs, tn, ts, yn, ys) else (if x1 = x2 then some ((0 : Int32), zn, zs, tn, ts, yn, ys) else (mM_component N mr n 0 [x1]).bind fun r16 => (if ((r16 >>> (x2 &&& 31)) &&& 1) = 0 then some ((0 : Int32), zn, zs, tn, ts, yn, ys) else (mM_component N mr n 0 [x1]).bind fun r18 => (mM_find N mr n 0 [r18] zn zs tn ts).bind fun (zn_19, zs_19, tn_19, ts_19) => kl (tn_19 + 1) fun x3_20 => mM_linked N mr n 1 [x1, x2, x3_20, 1, 0] zn_19 zs_19 tn_19 ts_19 yn ys))))
  | n + 1, 1, [x1, x2, x3, x4, x5], zn, zs, tn, ts, yn, ys => (if x3 ≤ x5 then kz x4 (some (x4, zn, zs, tn, ts, yn, ys)) else (if x4 = 0 then kz x4 (some (x4, zn, zs, tn, ts, yn, ys)) else (mM_open N mr n 0 [x1, x5] zn zs tn ts yn ys).bind fun (r113, zn_113, zs_113, tn_113, ts_113, yn_113, ys_113) => (mM_partOf N yn_113 ys_113 n 0 [x1]).bind fun r114 => (mM_partOf N yn_113 ys_113 n 0 [x2]).bind fun r115 => (if r113 = 0 then mM_linked N mr n 3 [x1, x2, x3, x5] zn_113 zs_113 tn_113 ts_113 yn_113 ys_113 else (if r114 = r115 then mM_linked N mr n 2 [x1, x2, x3, x5] zn_113 zs_113 tn_113 ts_113 yn_113 ys_113 else kg r114 16 (kg r115 16 ((mM_joined N mr n 0 [(ys_113 r114.toNatClampNeg), (ys_113 r115.toNatClampNeg)]).bind fun r120 => (if r120 = 0 then mM_linked N mr n 3 [x1, x2, x3, x5] zn_113 zs_113 tn_113 ts_113 yn_113 ys_113 else mM_linked N mr n 2 [x1, x2, x3, x5] zn_113 zs_113 tn_113 ts_113 yn_113 ys_113)))))))
  | n + 1, 2, [x1, x2, x3, x5], zn, zs, tn, ts, yn, ys => mM_linked N mr n 1 [x1, x2, x3, 1, (x5 + 1)] zn zs tn ts yn ys
  | n + 1, 3, [x1, x2, x3, x5], zn, zs, tn, ts, yn, ys => mM_linked N mr n 1 [x1, x2, x3, 0, (x5 + 1)] zn zs tn ts yn ys
  | _, _, _, _, _, _, _, _, _ => none
theorem mM_linked_z (N : Nat) (mr : Nat → Int32) (b : Nat) (l : List Int32) (zn : Int32) (zs : Nat → Int32) (tn : Int32) (ts : Nat → Int32) (yn : Int32) (ys : Nat → Int32) : mM_linked N mr 0 b l zn zs tn ts yn ys = none := by first | rfl | (cases b <;> rfl) | simp [mM_linked]
theorem mM_linked_e0 (N : Nat) (mr : Nat → Int32) (n : Nat) (x1 x2 : Int32) (zn : Int32) (zs : Nat → Int32) (tn : Int32) (ts : Nat → Int32) (yn : Int32) (ys : Nat → Int32) : mM_linked N mr (n + 1) 0 [x1, x2] zn zs tn ts yn ys = (mM_is N n 0 [x1]).bind fun r11 => (if r11 = 0 then some ((0 : Int32), zn, zs, tn, ts, yn, ys) else (mM_is N n 0 [x2]).bind fun r13 => (if r13 = 0 then some ((0 : Int32), zn, zs, tn, ts, yn, ys) else (if x1 = x2 then some ((0 : Int32), zn, zs, tn, ts, yn, ys) else (mM_component N mr n 0 [x1]).bind fun r16 => (if ((r16 >>> (x2 &&& 31)) &&& 1) = 0 then some ((0 : Int32), zn, zs, tn, ts, yn, ys) else (mM_component N mr n 0 [x1]).bind fun r18 => (mM_find N mr n 0 [r18] zn zs tn ts).bind fun (zn_19, zs_19, tn_19, ts_19) => kl (tn_19 + 1) fun x3_20 => mM_linked N mr n 1 [x1, x2, x3_20, 1, 0] zn_19 zs_19 tn_19 ts_19 yn ys)))) := rfl
theorem mM_linked_e1 (N : Nat) (mr : Nat → Int32) (n : Nat) (x1 x2 x3 x4 x5 : Int32) (zn : Int32) (zs : Nat → Int32) (tn : Int32) (ts : Nat → Int32) (yn : Int32) (ys : Nat → Int32) : mM_linked N mr (n + 1) 1 [x1, x2, x3, x4, x5] zn zs tn ts yn ys = (if x3 ≤ x5 then kz x4 (some (x4, zn, zs, tn, ts, yn, ys)) else (if x4 = 0 then kz x4 (some (x4, zn, zs, tn, ts, yn, ys)) else (mM_open N mr n 0 [x1, x5] zn zs tn ts yn ys).bind fun (r113, zn_113, zs_113, tn_113, ts_113, yn_113, ys_113) => (mM_partOf N yn_113 ys_113 n 0 [x1]).bind fun r114 => (mM_partOf N yn_113 ys_113 n 0 [x2]).bind fun r115 => (if r113 = 0 then mM_linked N mr n 3 [x1, x2, x3, x5] zn_113 zs_113 tn_113 ts_113 yn_113 ys_113 else (if r114 = r115 then mM_linked N mr n 2 [x1, x2, x3, x5] zn_113 zs_113 tn_113 ts_113 yn_113 ys_113 else kg r114 16 (kg r115 16 ((mM_joined N mr n 0 [(ys_113 r114.toNatClampNeg), (ys_113 r115.toNatClampNeg)]).bind fun r120 => (if r120 = 0 then mM_linked N mr n 3 [x1, x2, x3, x5] zn_113 zs_113 tn_113 ts_113 yn_113 ys_113 else mM_linked N mr n 2 [x1, x2, x3, x5] zn_113 zs_113 tn_113 ts_113 yn_113 ys_113))))))) := rfl
theorem mM_linked_e2 (N : Nat) (mr : Nat → Int32) (n : Nat) (x1 x2 x3 x5 : Int32) (zn : Int32) (zs : Nat → Int32) (tn : Int32) (ts : Nat → Int32) (yn : Int32) (ys : Nat → Int32) : mM_linked N mr (n + 1) 2 [x1, x2, x3, x5] zn zs tn ts yn ys = mM_linked N mr n 1 [x1, x2, x3, 1, (x5 + 1)] zn zs tn ts yn ys := rfl
theorem mM_linked_e3 (N : Nat) (mr : Nat → Int32) (n : Nat) (x1 x2 x3 x5 : Int32) (zn : Int32) (zs : Nat → Int32) (tn : Int32) (ts : Nat → Int32) (yn : Int32) (ys : Nat → Int32) : mM_linked N mr (n + 1) 3 [x1, x2, x3, x5] zn zs tn ts yn ys = mM_linked N mr n 1 [x1, x2, x3, 0, (x5 + 1)] zn zs tn ts yn ys := rfl
def mM_way (N : Nat) (mr : Nat → Int32) : Nat → Nat → List Int32 → Option Int32
  | n + 1, 0, [x1, x2] => kg x1 9 (kl ((mr x1.toNatClampNeg) &&& x2) fun x3_12 => (mM_size n 0 [x3_12]).bind fun r13 => (if r13 = 1 then (mM_least n 0 [x3_12]).bind fun r15 => some r15 else mM_way N mr n 1 [x1, x2, x3_12, 0]))
  | n + 1, 1, [x1, x2, x3, x4] => (if (nI N) ≤ x4 then some (-1 : Int32) else kl (((1 : Int32) <<< (x1 &&& 31)) ||| ((1 : Int32) <<< (x4 &&& 31))) fun x5_112 => (if x4 = x1 then mM_way N mr n 2 [x1, x2, x3, x4] else (if ((x2 >>> (x4 &&& 31)) &&& 1) = 1 then kg x4 9 ((if (x3 &&& (x5_112 ^^^ (-1))) = (((mr x4.toNatClampNeg) &&& x2) &&& (x5_112 ^^^ (-1))) then mM_way N mr n 3 [x1, x2, x3, x4, 1] else mM_way N mr n 2 [x1, x2, x3, x4])) else mM_way N mr n 2 [x1, x2, x3, x4])))
  | n + 1, 2, [x1, x2, x3, x4] => mM_way N mr n 3 [x1, x2, x3, x4, 0]
  | n + 1, 3, [x1, x2, x3, x4, y0] => (if y0 = 0 then mM_way N mr n 1 [x1, x2, x3, (x4 + 1)] else (if ((x3 >>> (x4 &&& 31)) &&& 1) = 1 then some (x4 + 32) else some (x4 + 16)))
  | _, _, _ => none
theorem mM_way_z (N : Nat) (mr : Nat → Int32) (b : Nat) (l : List Int32) : mM_way N mr 0 b l = none := by first | rfl | (cases b <;> rfl) | simp [mM_way]
theorem mM_way_e0 (N : Nat) (mr : Nat → Int32) (n : Nat) (x1 x2 : Int32) : mM_way N mr (n + 1) 0 [x1, x2] = kg x1 9 (kl ((mr x1.toNatClampNeg) &&& x2) fun x3_12 => (mM_size n 0 [x3_12]).bind fun r13 => (if r13 = 1 then (mM_least n 0 [x3_12]).bind fun r15 => some r15 else mM_way N mr n 1 [x1, x2, x3_12, 0])) := rfl
theorem mM_way_e1 (N : Nat) (mr : Nat → Int32) (n : Nat) (x1 x2 x3 x4 : Int32) : mM_way N mr (n + 1) 1 [x1, x2, x3, x4] = (if (nI N) ≤ x4 then some (-1 : Int32) else kl (((1 : Int32) <<< (x1 &&& 31)) ||| ((1 : Int32) <<< (x4 &&& 31))) fun x5_112 => (if x4 = x1 then mM_way N mr n 2 [x1, x2, x3, x4] else (if ((x2 >>> (x4 &&& 31)) &&& 1) = 1 then kg x4 9 ((if (x3 &&& (x5_112 ^^^ (-1))) = (((mr x4.toNatClampNeg) &&& x2) &&& (x5_112 ^^^ (-1))) then mM_way N mr n 3 [x1, x2, x3, x4, 1] else mM_way N mr n 2 [x1, x2, x3, x4])) else mM_way N mr n 2 [x1, x2, x3, x4]))) := rfl
theorem mM_way_e2 (N : Nat) (mr : Nat → Int32) (n : Nat) (x1 x2 x3 x4 : Int32) : mM_way N mr (n + 1) 2 [x1, x2, x3, x4] = mM_way N mr n 3 [x1, x2, x3, x4, 0] := rfl
theorem mM_way_e3 (N : Nat) (mr : Nat → Int32) (n : Nat) (x1 x2 x3 x4 y0 : Int32) : mM_way N mr (n + 1) 3 [x1, x2, x3, x4, y0] = (if y0 = 0 then mM_way N mr n 1 [x1, x2, x3, (x4 + 1)] else (if ((x3 >>> (x4 &&& 31)) &&& 1) = 1 then some (x4 + 32) else some (x4 + 16))) := rfl
def mM_eliminate (N : Nat) (mr : Nat → Int32) : Nat → Nat → List Int32 → Int32 → (Nat → Int32) → Int32 → Option (Int32 × (Nat → Int32) × Int32)
  | n + 1, 0, [x1], en, es, ew => (mM_size n 0 [x1]).bind fun r11 => (if r11 ≤ 1 then mM_eliminate N mr n 1 [x1, 0] 0 es ew else mM_eliminate N mr n 1 [x1, 1] 0 es ew)
  | n + 1, 1, [x2, y0], en, es, ew => mM_eliminate N mr n 2 [x2, y0] en es ew
  | n + 1, 2, [x2, x3], en, es, ew => (if x3 = 0 then (mM_size n 0 [x2]).bind fun r212 => (if 1 < r212 then some (en, es, (0 : Int32)) else some (en, es, (1 : Int32))) else mM_eliminate N mr n 3 [x2, 8] en es ew)
  | n + 1, 3, [x2, x4], en, es, ew => (if x4 < 0 then mM_eliminate N mr n 4 [x2, x4] en es ew else (if ((x2 >>> (x4 &&& 31)) &&& 1) = 0 then mM_eliminate N mr n 3 [x2, (x4 + (-1))] en es ew else (mM_way N mr n 0 [x4, x2]).bind fun r313 => (if r313 = (-1) then mM_eliminate N mr n 3 [x2, (x4 + (-1))] en es ew else mM_eliminate N mr n 4 [x2, x4] en es ew)))
  | n + 1, 4, [x2, x4], en, es, ew => (if x4 < 0 then mM_eliminate N mr n 5 [x2, x4] en es ew else (mM_way N mr n 0 [x4, x2]).bind fun r412 => kg en 9 (kl (x2 &&& (((1 : Int32) <<< (x4 &&& 31)) ^^^ (-1))) fun x2_414 => mM_eliminate N mr n 5 [x2_414, x4] (en + 1) (upd es en.toNatClampNeg (x4 + (16 * r412))) ew))
  | n + 1, 5, [x2, x4], en, es, ew => (if x4 < 0 then mM_eliminate N mr n 2 [x2, 0] en es ew else (mM_size n 0 [x2]).bind fun r512 => (if r512 ≤ 1 then mM_eliminate N mr n 2 [x2, 0] en es ew else mM_eliminate N mr n 2 [x2, 1] en es ew))
  | _, _, _, _, _, _ => none
theorem mM_eliminate_z (N : Nat) (mr : Nat → Int32) (b : Nat) (l : List Int32) (en : Int32) (es : Nat → Int32) (ew : Int32) : mM_eliminate N mr 0 b l en es ew = none := by first | rfl | (cases b <;> rfl) | simp [mM_eliminate]
theorem mM_eliminate_e0 (N : Nat) (mr : Nat → Int32) (n : Nat) (x1 : Int32) (en : Int32) (es : Nat → Int32) (ew : Int32) : mM_eliminate N mr (n + 1) 0 [x1] en es ew = (mM_size n 0 [x1]).bind fun r11 => (if r11 ≤ 1 then mM_eliminate N mr n 1 [x1, 0] 0 es ew else mM_eliminate N mr n 1 [x1, 1] 0 es ew) := rfl
theorem mM_eliminate_e1 (N : Nat) (mr : Nat → Int32) (n : Nat) (x2 y0 : Int32) (en : Int32) (es : Nat → Int32) (ew : Int32) : mM_eliminate N mr (n + 1) 1 [x2, y0] en es ew = mM_eliminate N mr n 2 [x2, y0] en es ew := rfl
theorem mM_eliminate_e2 (N : Nat) (mr : Nat → Int32) (n : Nat) (x2 x3 : Int32) (en : Int32) (es : Nat → Int32) (ew : Int32) : mM_eliminate N mr (n + 1) 2 [x2, x3] en es ew = (if x3 = 0 then (mM_size n 0 [x2]).bind fun r212 => (if 1 < r212 then some (en, es, (0 : Int32)) else some (en, es, (1 : Int32))) else mM_eliminate N mr n 3 [x2, 8] en es ew) := rfl
theorem mM_eliminate_e3 (N : Nat) (mr : Nat → Int32) (n : Nat) (x2 x4 : Int32) (en : Int32) (es : Nat → Int32) (ew : Int32) : mM_eliminate N mr (n + 1) 3 [x2, x4] en es ew = (if x4 < 0 then mM_eliminate N mr n 4 [x2, x4] en es ew else (if ((x2 >>> (x4 &&& 31)) &&& 1) = 0 then mM_eliminate N mr n 3 [x2, (x4 + (-1))] en es ew else (mM_way N mr n 0 [x4, x2]).bind fun r313 => (if r313 = (-1) then mM_eliminate N mr n 3 [x2, (x4 + (-1))] en es ew else mM_eliminate N mr n 4 [x2, x4] en es ew))) := rfl
theorem mM_eliminate_e4 (N : Nat) (mr : Nat → Int32) (n : Nat) (x2 x4 : Int32) (en : Int32) (es : Nat → Int32) (ew : Int32) : mM_eliminate N mr (n + 1) 4 [x2, x4] en es ew = (if x4 < 0 then mM_eliminate N mr n 5 [x2, x4] en es ew else (mM_way N mr n 0 [x4, x2]).bind fun r412 => kg en 9 (kl (x2 &&& (((1 : Int32) <<< (x4 &&& 31)) ^^^ (-1))) fun x2_414 => mM_eliminate N mr n 5 [x2_414, x4] (en + 1) (upd es en.toNatClampNeg (x4 + (16 * r412))) ew)) := rfl
theorem mM_eliminate_e5 (N : Nat) (mr : Nat → Int32) (n : Nat) (x2 x4 : Int32) (en : Int32) (es : Nat → Int32) (ew : Int32) : mM_eliminate N mr (n + 1) 5 [x2, x4] en es ew = (if x4 < 0 then mM_eliminate N mr n 2 [x2, 0] en es ew else (mM_size n 0 [x2]).bind fun r512 => (if r512 ≤ 1 then mM_eliminate N mr n 2 [x2, 0] en es ew else mM_eliminate N mr n 2 [x2, 1] en es ew)) := rfl
def mM_fine (N : Nat) (mr : Nat → Int32) : Nat → Nat → List Int32 → Int32 → (Nat → Int32) → Int32 → Option (Int32 × Int32 × (Nat → Int32) × Int32)
  | n + 1, 0, [x1], en, es, ew => mM_fine N mr n 1 [x1, 1, 0] en es ew
  | n + 1, 1, [x1, x2, x3], en, es, ew => (if (nI N) ≤ x3 then kz x2 (some (x2, en, es, ew)) else (if x2 = 0 then kz x2 (some (x2, en, es, ew)) else (if ((x1 >>> (x3 &&& 31)) &&& 1) = 1 then (mM_within N mr n 0 [x3, x1]).bind fun r114 => (mM_eliminate N mr n 0 [r114] en es ew).bind fun (en_115, es_115, ew_115) => mM_fine N mr n 1 [x1, ew_115, (x3 + 1)] en_115 es_115 ew_115 else mM_fine N mr n 1 [x1, x2, (x3 + 1)] en es ew)))
  | _, _, _, _, _, _ => none
theorem mM_fine_z (N : Nat) (mr : Nat → Int32) (b : Nat) (l : List Int32) (en : Int32) (es : Nat → Int32) (ew : Int32) : mM_fine N mr 0 b l en es ew = none := by first | rfl | (cases b <;> rfl) | simp [mM_fine]
theorem mM_fine_e0 (N : Nat) (mr : Nat → Int32) (n : Nat) (x1 : Int32) (en : Int32) (es : Nat → Int32) (ew : Int32) : mM_fine N mr (n + 1) 0 [x1] en es ew = mM_fine N mr n 1 [x1, 1, 0] en es ew := rfl
theorem mM_fine_e1 (N : Nat) (mr : Nat → Int32) (n : Nat) (x1 x2 x3 : Int32) (en : Int32) (es : Nat → Int32) (ew : Int32) : mM_fine N mr (n + 1) 1 [x1, x2, x3] en es ew = (if (nI N) ≤ x3 then kz x2 (some (x2, en, es, ew)) else (if x2 = 0 then kz x2 (some (x2, en, es, ew)) else (if ((x1 >>> (x3 &&& 31)) &&& 1) = 1 then (mM_within N mr n 0 [x3, x1]).bind fun r114 => (mM_eliminate N mr n 0 [r114] en es ew).bind fun (en_115, es_115, ew_115) => mM_fine N mr n 1 [x1, ew_115, (x3 + 1)] en_115 es_115 ew_115 else mM_fine N mr n 1 [x1, x2, (x3 + 1)] en es ew))) := rfl
def mM_hereditary (N : Nat) (mr : Nat → Int32) : Nat → Nat → List Int32 → Int32 → (Nat → Int32) → Int32 → Option (Int32 × Int32 × (Nat → Int32) × Int32)
  | n + 1, 0, [x1], en, es, ew => (mM_is N n 0 [x1]).bind fun r11 => (if r11 = 0 then some ((0 : Int32), en, es, ew) else (mM_component N mr n 0 [x1]).bind fun r13 => (mM_fine N mr n 0 [r13] en es ew).bind fun (r14, en_14, es_14, ew_14) => (if r14 = 0 then some ((0 : Int32), en_14, es_14, ew_14) else some ((1 : Int32), en_14, es_14, ew_14)))
  | _, _, _, _, _, _ => none
theorem mM_hereditary_z (N : Nat) (mr : Nat → Int32) (b : Nat) (l : List Int32) (en : Int32) (es : Nat → Int32) (ew : Int32) : mM_hereditary N mr 0 b l en es ew = none := by first | rfl | (cases b <;> rfl) | simp [mM_hereditary]
theorem mM_hereditary_e0 (N : Nat) (mr : Nat → Int32) (n : Nat) (x1 : Int32) (en : Int32) (es : Nat → Int32) (ew : Int32) : mM_hereditary N mr (n + 1) 0 [x1] en es ew = (mM_is N n 0 [x1]).bind fun r11 => (if r11 = 0 then some ((0 : Int32), en, es, ew) else (mM_component N mr n 0 [x1]).bind fun r13 => (mM_fine N mr n 0 [r13] en es ew).bind fun (r14, en_14, es_14, ew_14) => (if r14 = 0 then some ((0 : Int32), en_14, es_14, ew_14) else some ((1 : Int32), en_14, es_14, ew_14))) := rfl
def mM_step (N : Nat) (mr : Nat → Int32) : Nat → Nat → List Int32 → Int32 → (Nat → Int32) → Int32 → Option (Int32 × Int32 × (Nat → Int32) × Int32)
  | n + 1, 0, [x1, x2], en, es, ew => (mM_is N n 0 [x1]).bind fun r11 => (if r11 = 0 then some ((-1 : Int32), en, es, ew) else (mM_component N mr n 0 [x1]).bind fun r13 => (mM_eliminate N mr n 0 [r13] en es ew).bind fun (en_14, es_14, ew_14) => (if x2 < 0 then some ((-1 : Int32), en_14, es_14, ew_14) else (if en_14 ≤ x2 then some ((-1 : Int32), en_14, es_14, ew_14) else kg x2 9 (some ((es_14 x2.toNatClampNeg), en_14, es_14, ew_14)))))
  | _, _, _, _, _, _ => none
theorem mM_step_z (N : Nat) (mr : Nat → Int32) (b : Nat) (l : List Int32) (en : Int32) (es : Nat → Int32) (ew : Int32) : mM_step N mr 0 b l en es ew = none := by first | rfl | (cases b <;> rfl) | simp [mM_step]
theorem mM_step_e0 (N : Nat) (mr : Nat → Int32) (n : Nat) (x1 x2 : Int32) (en : Int32) (es : Nat → Int32) (ew : Int32) : mM_step N mr (n + 1) 0 [x1, x2] en es ew = (mM_is N n 0 [x1]).bind fun r11 => (if r11 = 0 then some ((-1 : Int32), en, es, ew) else (mM_component N mr n 0 [x1]).bind fun r13 => (mM_eliminate N mr n 0 [r13] en es ew).bind fun (en_14, es_14, ew_14) => (if x2 < 0 then some ((-1 : Int32), en_14, es_14, ew_14) else (if en_14 ≤ x2 then some ((-1 : Int32), en_14, es_14, ew_14) else kg x2 9 (some ((es_14 x2.toNatClampNeg), en_14, es_14, ew_14))))) := rfl
def mM_obstruction (N : Nat) (mr : Nat → Int32) : Nat → Nat → List Int32 → Int32 → (Nat → Int32) → Int32 → Option (Int32 × Int32 × (Nat → Int32) × Int32)
  | n + 1, 0, [x1], en, es, ew => (mM_is N n 0 [x1]).bind fun r11 => (if r11 = 0 then some ((-1 : Int32), en, es, ew) else (mM_component N mr n 0 [x1]).bind fun r13 => (mM_fine N mr n 0 [r13] en es ew).bind fun (r14, en_14, es_14, ew_14) => (if r14 = 0 then (mM_component N mr n 0 [x1]).bind fun r16 => mM_obstruction N mr n 1 [r16, 0] en_14 es_14 ew_14 else some ((-1 : Int32), en_14, es_14, ew_14)))
  | n + 1, 1, [x2, x3], en, es, ew => (if (nI N) ≤ x3 then some (x2, en, es, ew) else kl (x2 &&& (((1 : Int32) <<< (x3 &&& 31)) ^^^ (-1))) fun x4_112 => (mM_fine N mr n 0 [x4_112] en es ew).bind fun (r113, en_113, es_113, ew_113) => (if r113 = 0 then mM_obstruction N mr n 1 [x4_112, (x3 + 1)] en_113 es_113 ew_113 else mM_obstruction N mr n 1 [x2, (x3 + 1)] en_113 es_113 ew_113))
  | _, _, _, _, _, _ => none
theorem mM_obstruction_z (N : Nat) (mr : Nat → Int32) (b : Nat) (l : List Int32) (en : Int32) (es : Nat → Int32) (ew : Int32) : mM_obstruction N mr 0 b l en es ew = none := by first | rfl | (cases b <;> rfl) | simp [mM_obstruction]
theorem mM_obstruction_e0 (N : Nat) (mr : Nat → Int32) (n : Nat) (x1 : Int32) (en : Int32) (es : Nat → Int32) (ew : Int32) : mM_obstruction N mr (n + 1) 0 [x1] en es ew = (mM_is N n 0 [x1]).bind fun r11 => (if r11 = 0 then some ((-1 : Int32), en, es, ew) else (mM_component N mr n 0 [x1]).bind fun r13 => (mM_fine N mr n 0 [r13] en es ew).bind fun (r14, en_14, es_14, ew_14) => (if r14 = 0 then (mM_component N mr n 0 [x1]).bind fun r16 => mM_obstruction N mr n 1 [r16, 0] en_14 es_14 ew_14 else some ((-1 : Int32), en_14, es_14, ew_14))) := rfl
theorem mM_obstruction_e1 (N : Nat) (mr : Nat → Int32) (n : Nat) (x2 x3 : Int32) (en : Int32) (es : Nat → Int32) (ew : Int32) : mM_obstruction N mr (n + 1) 1 [x2, x3] en es ew = (if (nI N) ≤ x3 then some (x2, en, es, ew) else kl (x2 &&& (((1 : Int32) <<< (x3 &&& 31)) ^^^ (-1))) fun x4_112 => (mM_fine N mr n 0 [x4_112] en es ew).bind fun (r113, en_113, es_113, ew_113) => (if r113 = 0 then mM_obstruction N mr n 1 [x4_112, (x3 + 1)] en_113 es_113 ew_113 else mM_obstruction N mr n 1 [x2, (x3 + 1)] en_113 es_113 ew_113)) := rfl
def mM_edges (N : Nat) (mr : Nat → Int32) : Nat → Nat → List Int32 → Option Int32
  | n + 1, 0, [x1] => mM_edges N mr n 1 [x1, 0, 0]
  | n + 1, 1, [x1, x2, x3] => (if (nI N) ≤ x3 then some (x2 / 2) else (if ((x1 >>> (x3 &&& 31)) &&& 1) = 1 then kg x3 9 ((mM_size n 0 [((mr x3.toNatClampNeg) &&& x1)]).bind fun r114 => mM_edges N mr n 2 [x1, x3, r114, x2]) else mM_edges N mr n 2 [x1, x3, 0, x2]))
  | n + 1, 2, [x1, x3, y0, y1] => kl (y1 + y0) fun x2_211 => mM_edges N mr n 1 [x1, x2_211, (x3 + 1)]
  | _, _, _ => none
theorem mM_edges_z (N : Nat) (mr : Nat → Int32) (b : Nat) (l : List Int32) : mM_edges N mr 0 b l = none := by first | rfl | (cases b <;> rfl) | simp [mM_edges]
theorem mM_edges_e0 (N : Nat) (mr : Nat → Int32) (n : Nat) (x1 : Int32) : mM_edges N mr (n + 1) 0 [x1] = mM_edges N mr n 1 [x1, 0, 0] := rfl
theorem mM_edges_e1 (N : Nat) (mr : Nat → Int32) (n : Nat) (x1 x2 x3 : Int32) : mM_edges N mr (n + 1) 1 [x1, x2, x3] = (if (nI N) ≤ x3 then some (x2 / 2) else (if ((x1 >>> (x3 &&& 31)) &&& 1) = 1 then kg x3 9 ((mM_size n 0 [((mr x3.toNatClampNeg) &&& x1)]).bind fun r114 => mM_edges N mr n 2 [x1, x3, r114, x2]) else mM_edges N mr n 2 [x1, x3, 0, x2])) := rfl
theorem mM_edges_e2 (N : Nat) (mr : Nat → Int32) (n : Nat) (x1 x3 y0 y1 : Int32) : mM_edges N mr (n + 1) 2 [x1, x3, y0, y1] = kl (y1 + y0) fun x2_211 => mM_edges N mr n 1 [x1, x2_211, (x3 + 1)] := rfl
def mM_obstacle (N : Nat) (mr : Nat → Int32) : Nat → Nat → List Int32 → Int32 → (Nat → Int32) → Int32 → Option (Int32 × Int32 × (Nat → Int32) × Int32)
  | n + 1, 0, [x1], en, es, ew => (mM_obstruction N mr n 0 [x1] en es ew).bind fun (r11, en_11, es_11, ew_11) => (if r11 = (-1) then some ((-1 : Int32), en_11, es_11, ew_11) else (mM_size n 0 [r11]).bind fun r13 => (mM_edges N mr n 0 [r11]).bind fun r14 => (if r14 = r13 then some ((1 : Int32), en_11, es_11, ew_11) else (if r13 = 5 then (if r14 = 6 then some ((2 : Int32), en_11, es_11, ew_11) else mM_obstacle N mr n 1 [r13] en_11 es_11 ew_11) else mM_obstacle N mr n 1 [r13] en_11 es_11 ew_11)))
  | n + 1, 1, [x3], en, es, ew => (if x3 = 5 then some ((3 : Int32), en, es, ew) else some ((4 : Int32), en, es, ew))
  | _, _, _, _, _, _ => none
theorem mM_obstacle_z (N : Nat) (mr : Nat → Int32) (b : Nat) (l : List Int32) (en : Int32) (es : Nat → Int32) (ew : Int32) : mM_obstacle N mr 0 b l en es ew = none := by first | rfl | (cases b <;> rfl) | simp [mM_obstacle]
theorem mM_obstacle_e0 (N : Nat) (mr : Nat → Int32) (n : Nat) (x1 : Int32) (en : Int32) (es : Nat → Int32) (ew : Int32) : mM_obstacle N mr (n + 1) 0 [x1] en es ew = (mM_obstruction N mr n 0 [x1] en es ew).bind fun (r11, en_11, es_11, ew_11) => (if r11 = (-1) then some ((-1 : Int32), en_11, es_11, ew_11) else (mM_size n 0 [r11]).bind fun r13 => (mM_edges N mr n 0 [r11]).bind fun r14 => (if r14 = r13 then some ((1 : Int32), en_11, es_11, ew_11) else (if r13 = 5 then (if r14 = 6 then some ((2 : Int32), en_11, es_11, ew_11) else mM_obstacle N mr n 1 [r13] en_11 es_11 ew_11) else mM_obstacle N mr n 1 [r13] en_11 es_11 ew_11))) := rfl
theorem mM_obstacle_e1 (N : Nat) (mr : Nat → Int32) (n : Nat) (x3 : Int32) (en : Int32) (es : Nat → Int32) (ew : Int32) : mM_obstacle N mr (n + 1) 1 [x3] en es ew = (if x3 = 5 then some ((3 : Int32), en, es, ew) else some ((4 : Int32), en, es, ew)) := rfl
def mM_best (N : Nat) (mr : Nat → Int32) : Nat → Nat → List Int32 → Option Int32
  | n + 1, 0, [x1, x2] => mM_best N mr n 1 [x1, x2, 0, 0, 1]
  | n + 1, 1, [x1, x2, x3, x4, x5] => (if 512 ≤ x5 then (if x2 = 0 then some x3 else some x4) else (if (x5 &&& (x1 ^^^ (-1))) = 0 then (mM_edges N mr n 0 [x5]).bind fun r114 => (if r114 = 0 then (mM_size n 0 [x5]).bind fun r116 => (if r116 ≤ x3 then mM_best N mr n 1 [x1, x2, x3, x4, (x5 + 1)] else (mM_size n 0 [x5]).bind fun r118 => mM_best N mr n 1 [x1, x2, r118, x5, (x5 + 1)]) else mM_best N mr n 1 [x1, x2, x3, x4, (x5 + 1)]) else mM_best N mr n 1 [x1, x2, x3, x4, (x5 + 1)]))
  | _, _, _ => none
theorem mM_best_z (N : Nat) (mr : Nat → Int32) (b : Nat) (l : List Int32) : mM_best N mr 0 b l = none := by first | rfl | (cases b <;> rfl) | simp [mM_best]
theorem mM_best_e0 (N : Nat) (mr : Nat → Int32) (n : Nat) (x1 x2 : Int32) : mM_best N mr (n + 1) 0 [x1, x2] = mM_best N mr n 1 [x1, x2, 0, 0, 1] := rfl
theorem mM_best_e1 (N : Nat) (mr : Nat → Int32) (n : Nat) (x1 x2 x3 x4 x5 : Int32) : mM_best N mr (n + 1) 1 [x1, x2, x3, x4, x5] = (if 512 ≤ x5 then (if x2 = 0 then some x3 else some x4) else (if (x5 &&& (x1 ^^^ (-1))) = 0 then (mM_edges N mr n 0 [x5]).bind fun r114 => (if r114 = 0 then (mM_size n 0 [x5]).bind fun r116 => (if r116 ≤ x3 then mM_best N mr n 1 [x1, x2, x3, x4, (x5 + 1)] else (mM_size n 0 [x5]).bind fun r118 => mM_best N mr n 1 [x1, x2, r118, x5, (x5 + 1)]) else mM_best N mr n 1 [x1, x2, x3, x4, (x5 + 1)]) else mM_best N mr n 1 [x1, x2, x3, x4, (x5 + 1)])) := rfl
def mM_apart (N : Nat) (mr : Nat → Int32) : Nat → Nat → List Int32 → Int32 → (Nat → Int32) → Int32 → Option (Int32 × Int32 × (Nat → Int32) × Int32)
  | n + 1, 0, [x1], en, es, ew => (mM_hereditary N mr n 0 [x1] en es ew).bind fun (r11, en_11, es_11, ew_11) => (if r11 = 0 then some ((-1 : Int32), en_11, es_11, ew_11) else (mM_component N mr n 0 [x1]).bind fun r13 => (mM_best N mr n 0 [r13, 0]).bind fun r14 => some (r14, en_11, es_11, ew_11))
  | _, _, _, _, _, _ => none
theorem mM_apart_z (N : Nat) (mr : Nat → Int32) (b : Nat) (l : List Int32) (en : Int32) (es : Nat → Int32) (ew : Int32) : mM_apart N mr 0 b l en es ew = none := by first | rfl | (cases b <;> rfl) | simp [mM_apart]
theorem mM_apart_e0 (N : Nat) (mr : Nat → Int32) (n : Nat) (x1 : Int32) (en : Int32) (es : Nat → Int32) (ew : Int32) : mM_apart N mr (n + 1) 0 [x1] en es ew = (mM_hereditary N mr n 0 [x1] en es ew).bind fun (r11, en_11, es_11, ew_11) => (if r11 = 0 then some ((-1 : Int32), en_11, es_11, ew_11) else (mM_component N mr n 0 [x1]).bind fun r13 => (mM_best N mr n 0 [r13, 0]).bind fun r14 => some (r14, en_11, es_11, ew_11)) := rfl
def mM_chosen (N : Nat) (mr : Nat → Int32) : Nat → Nat → List Int32 → Int32 → (Nat → Int32) → Int32 → Option (Int32 × Int32 × (Nat → Int32) × Int32)
  | n + 1, 0, [x1], en, es, ew => (mM_hereditary N mr n 0 [x1] en es ew).bind fun (r11, en_11, es_11, ew_11) => (if r11 = 0 then some ((-1 : Int32), en_11, es_11, ew_11) else (mM_component N mr n 0 [x1]).bind fun r13 => (mM_best N mr n 0 [r13, 1]).bind fun r14 => some (r14, en_11, es_11, ew_11))
  | _, _, _, _, _, _ => none
theorem mM_chosen_z (N : Nat) (mr : Nat → Int32) (b : Nat) (l : List Int32) (en : Int32) (es : Nat → Int32) (ew : Int32) : mM_chosen N mr 0 b l en es ew = none := by first | rfl | (cases b <;> rfl) | simp [mM_chosen]
theorem mM_chosen_e0 (N : Nat) (mr : Nat → Int32) (n : Nat) (x1 : Int32) (en : Int32) (es : Nat → Int32) (ew : Int32) : mM_chosen N mr (n + 1) 0 [x1] en es ew = (mM_hereditary N mr n 0 [x1] en es ew).bind fun (r11, en_11, es_11, ew_11) => (if r11 = 0 then some ((-1 : Int32), en_11, es_11, ew_11) else (mM_component N mr n 0 [x1]).bind fun r13 => (mM_best N mr n 0 [r13, 1]).bind fun r14 => some (r14, en_11, es_11, ew_11)) := rfl
def mM_clique (N : Nat) (mr : Nat → Int32) : Nat → Nat → List Int32 → Option Int32
  | n + 1, 0, [x1] => (mM_size n 0 [x1]).bind fun r11 => (mM_edges N mr n 0 [x1]).bind fun r12 => (if r12 = ((r11 * (r11 - 1)) / 2) then some (1 : Int32) else some (0 : Int32))
  | _, _, _ => none
theorem mM_clique_z (N : Nat) (mr : Nat → Int32) (b : Nat) (l : List Int32) : mM_clique N mr 0 b l = none := by first | rfl | (cases b <;> rfl) | simp [mM_clique]
theorem mM_clique_e0 (N : Nat) (mr : Nat → Int32) (n : Nat) (x1 : Int32) : mM_clique N mr (n + 1) 0 [x1] = (mM_size n 0 [x1]).bind fun r11 => (mM_edges N mr n 0 [x1]).bind fun r12 => (if r12 = ((r11 * (r11 - 1)) / 2) then some (1 : Int32) else some (0 : Int32)) := rfl
def mM_cover (N : Nat) (mr : Nat → Int32) : Nat → Nat → List Int32 → Int32 → (Nat → Int32) → Int32 → (Nat → Int32) → Option (Int32 × Int32 × (Nat → Int32) × Int32 × (Nat → Int32))
  | n + 1, 0, [x1], en, es, ew, cv => (mM_hereditary N mr n 0 [x1] en es ew).bind fun (r11, en_11, es_11, ew_11) => (if r11 = 0 then some ((-1 : Int32), en_11, es_11, ew_11, cv) else (mM_component N mr n 0 [x1]).bind fun r13 => kg 0 512 (mM_cover N mr n 1 [r13, 1] en_11 es_11 ew_11 (upd cv (0 : Int32).toNatClampNeg 0)))
  | n + 1, 1, [x2, x3], en, es, ew, cv => (if 512 ≤ x3 then kg x2 512 (some ((cv x2.toNatClampNeg), en, es, ew, cv)) else kg x3 512 ((if (x3 &&& (x2 ^^^ (-1))) = 0 then mM_cover N mr n 2 [x2, x3, x3] en es ew (upd cv x3.toNatClampNeg 9) else mM_cover N mr n 1 [x2, (x3 + 1)] en es ew (upd cv x3.toNatClampNeg 9))))
  | n + 1, 2, [x2, x3, x4], en, es, ew, cv => (if x4 ≤ 0 then mM_cover N mr n 1 [x2, (x3 + 1)] en es ew cv else (mM_least n 0 [x3]).bind fun r212 => (if ((x4 >>> (r212 &&& 31)) &&& 1) = 1 then kg (x3 &&& (x4 ^^^ (-1))) 512 (kg x3 512 ((if ((cv x3.toNatClampNeg) - 1) ≤ (cv (x3 &&& (x4 ^^^ (-1))).toNatClampNeg) then mM_cover N mr n 3 [x2, x3, x4] en es ew cv else (mM_clique N mr n 0 [x4]).bind fun r217 => (if r217 = 0 then mM_cover N mr n 3 [x2, x3, x4] en es ew cv else mM_cover N mr n 4 [x2, x3, x4, 1] en es ew cv)))) else mM_cover N mr n 3 [x2, x3, x4] en es ew cv))
  | n + 1, 3, [x2, x3, x4], en, es, ew, cv => mM_cover N mr n 4 [x2, x3, x4, 0] en es ew cv
  | n + 1, 4, [x2, x3, x4, y0], en, es, ew, cv => (if y0 = 0 then kg x3 512 (mM_cover N mr n 5 [x2, x3, x4, (cv x3.toNatClampNeg), x3] en es ew cv) else kg (x3 &&& (x4 ^^^ (-1))) 512 (mM_cover N mr n 5 [x2, x3, x4, ((cv (x3 &&& (x4 ^^^ (-1))).toNatClampNeg) + 1), x3] en es ew cv))
  | n + 1, 5, [x2, x3, x4, y0, y1], en, es, ew, cv => kg y1 512 (kl ((x4 - 1) &&& x3) fun x4_512 => mM_cover N mr n 2 [x2, x3, x4_512] en es ew (upd cv y1.toNatClampNeg y0))
  | _, _, _, _, _, _, _ => none
theorem mM_cover_z (N : Nat) (mr : Nat → Int32) (b : Nat) (l : List Int32) (en : Int32) (es : Nat → Int32) (ew : Int32) (cv : Nat → Int32) : mM_cover N mr 0 b l en es ew cv = none := by first | rfl | (cases b <;> rfl) | simp [mM_cover]
theorem mM_cover_e0 (N : Nat) (mr : Nat → Int32) (n : Nat) (x1 : Int32) (en : Int32) (es : Nat → Int32) (ew : Int32) (cv : Nat → Int32) : mM_cover N mr (n + 1) 0 [x1] en es ew cv = (mM_hereditary N mr n 0 [x1] en es ew).bind fun (r11, en_11, es_11, ew_11) => (if r11 = 0 then some ((-1 : Int32), en_11, es_11, ew_11, cv) else (mM_component N mr n 0 [x1]).bind fun r13 => kg 0 512 (mM_cover N mr n 1 [r13, 1] en_11 es_11 ew_11 (upd cv (0 : Int32).toNatClampNeg 0))) := rfl
theorem mM_cover_e1 (N : Nat) (mr : Nat → Int32) (n : Nat) (x2 x3 : Int32) (en : Int32) (es : Nat → Int32) (ew : Int32) (cv : Nat → Int32) : mM_cover N mr (n + 1) 1 [x2, x3] en es ew cv = (if 512 ≤ x3 then kg x2 512 (some ((cv x2.toNatClampNeg), en, es, ew, cv)) else kg x3 512 ((if (x3 &&& (x2 ^^^ (-1))) = 0 then mM_cover N mr n 2 [x2, x3, x3] en es ew (upd cv x3.toNatClampNeg 9) else mM_cover N mr n 1 [x2, (x3 + 1)] en es ew (upd cv x3.toNatClampNeg 9)))) := rfl
theorem mM_cover_e2 (N : Nat) (mr : Nat → Int32) (n : Nat) (x2 x3 x4 : Int32) (en : Int32) (es : Nat → Int32) (ew : Int32) (cv : Nat → Int32) : mM_cover N mr (n + 1) 2 [x2, x3, x4] en es ew cv = (if x4 ≤ 0 then mM_cover N mr n 1 [x2, (x3 + 1)] en es ew cv else (mM_least n 0 [x3]).bind fun r212 => (if ((x4 >>> (r212 &&& 31)) &&& 1) = 1 then kg (x3 &&& (x4 ^^^ (-1))) 512 (kg x3 512 ((if ((cv x3.toNatClampNeg) - 1) ≤ (cv (x3 &&& (x4 ^^^ (-1))).toNatClampNeg) then mM_cover N mr n 3 [x2, x3, x4] en es ew cv else (mM_clique N mr n 0 [x4]).bind fun r217 => (if r217 = 0 then mM_cover N mr n 3 [x2, x3, x4] en es ew cv else mM_cover N mr n 4 [x2, x3, x4, 1] en es ew cv)))) else mM_cover N mr n 3 [x2, x3, x4] en es ew cv)) := rfl
theorem mM_cover_e3 (N : Nat) (mr : Nat → Int32) (n : Nat) (x2 x3 x4 : Int32) (en : Int32) (es : Nat → Int32) (ew : Int32) (cv : Nat → Int32) : mM_cover N mr (n + 1) 3 [x2, x3, x4] en es ew cv = mM_cover N mr n 4 [x2, x3, x4, 0] en es ew cv := rfl
theorem mM_cover_e4 (N : Nat) (mr : Nat → Int32) (n : Nat) (x2 x3 x4 y0 : Int32) (en : Int32) (es : Nat → Int32) (ew : Int32) (cv : Nat → Int32) : mM_cover N mr (n + 1) 4 [x2, x3, x4, y0] en es ew cv = (if y0 = 0 then kg x3 512 (mM_cover N mr n 5 [x2, x3, x4, (cv x3.toNatClampNeg), x3] en es ew cv) else kg (x3 &&& (x4 ^^^ (-1))) 512 (mM_cover N mr n 5 [x2, x3, x4, ((cv (x3 &&& (x4 ^^^ (-1))).toNatClampNeg) + 1), x3] en es ew cv)) := rfl
theorem mM_cover_e5 (N : Nat) (mr : Nat → Int32) (n : Nat) (x2 x3 x4 y0 y1 : Int32) (en : Int32) (es : Nat → Int32) (ew : Int32) (cv : Nat → Int32) : mM_cover N mr (n + 1) 5 [x2, x3, x4, y0, y1] en es ew cv = kg y1 512 (kl ((x4 - 1) &&& x3) fun x4_512 => mM_cover N mr n 2 [x2, x3, x4_512] en es ew (upd cv y1.toNatClampNeg y0)) := rfl
end
section
set_option maxHeartbeats 4000000 in
set_option maxRecDepth 100000 in
theorem cG_size (l : Launch) (D : va_G) (q : Nat → Nat) (cA : ClassId) (N : Nat) (sz : Nat) (nr : Nat → Int32) (n : Nat) (r : Int32) (hm : mG_size N n 0 [] = some r) : Met l yXG_size wsXG_size ({ frames := 0, cells := 0, slots := 0, locals := 0 }) (kPc D cA [.ref (q 10)] (wG q cA N nr) sz) (kQi D cA kT (va_A (wG q cA N nr) sz) (wG q cA N nr) r) 0 0 (va_A (wG q cA N nr) sz) := by
  refine k_met (D := D) (cA := cA) (w := (wG q cA N nr)) (sz := sz) (av := [.ref (q 10)]) (cc := cXG_size) (maxL := 1) (ret := (some .int)) (Qc := fun A => kQi D cA kT A (wG q cA N nr) r) (by decide) rfl (Nat.le_of_ble_eq_true rfl) ?_
  intro p e s m below meth c A ls hX hK hN hA hP hD hl
  obtain ⟨hx, hb, hr, hml, hown, hts, hlocks, -⟩ := hX
  have hown : s.vm.findClass RXG = some m.cls := hown
  have hl : lv_has ls 1 [(0, .ref (q 10))] := hl
  have hts : ∀ w ∈ W0, w.before _ s = true := fun w h => hts w (List.mem_cons_of_mem _ h)
  have key : ∀ n : Nat, (∀ (r : Int32) (H : Heap) (locs : List Loc) (ls : Array Slot), mG_size N n 0 [] = some r → va_P D vwCl (wG q cA N nr) H → va_D A (wG q cA N nr) → va_S A s.heap H locs → lv_has ls 1 [(0, .ref (q 10))] → W p l e ({ frames := 0, cells := 0, slots := 0, locals := 0 }) s m ([.ref (q 10)] : List Value).toArray below meth c H locs 0 0 (MQ below (kQi D cA kT A (wG q cA N nr) r) ([.ref (q 10)] : List Value).toArray s 0 0 A) (F0 m 0 ls [])) := by
    intro n
    induction n with
    | zero => exact (by intros; rename_i h _ _ _ _; rw [mG_size_z] at h; cases h)
    | succ n ih =>
      have ih0 := ih
      intro r H locs ls hm hP hD hS hl
      rw [mG_size_e0] at hm
      refine lv_aload_n hx hb dXG_size_0 rfl (lv_at hl 0 rfl) ?_
      refine va_get (D := D) (ci := 2) (v := .int (nI N)) (C := RXG) (T := TXG) (N := 2) hx hb hts hinXG hown hK hP 0 rfl rfl 0 (by decide) (hts _ wd_58) (fun _ h9 => h9) rfl dXG_size_1 ?_
      cases hm
      exact k_iret hx hb hr hlocks hK hP hD hS trivial dXG_size_4
  exact key n r s.heap [] ls hm hP hD va_S.rf hl
set_option maxHeartbeats 4000000 in
set_option maxRecDepth 100000 in
theorem cG_has (l : Launch) (D : va_G) (q : Nat → Nat) (cA : ClassId) (N : Nat) (sz : Nat) (nr : Nat → Int32) (a1 : Int32) (n : Nat) (r : Int32) (hm : mG_has N n 0 [a1] = some r) : Met l yXG_has wsXG_has ({ frames := 0, cells := 0, slots := 0, locals := 0 }) (kPc D cA [.ref (q 10), .int a1] (wG q cA N nr) sz) (kQi D cA kB (va_A (wG q cA N nr) sz) (wG q cA N nr) r) 0 0 (va_A (wG q cA N nr) sz) := by
  refine k_met (D := D) (cA := cA) (w := (wG q cA N nr)) (sz := sz) (av := [.ref (q 10), .int a1]) (cc := cXG_has) (maxL := 2) (ret := (some .boolean)) (Qc := fun A => kQi D cA kB A (wG q cA N nr) r) (by decide) rfl (Nat.le_of_ble_eq_true rfl) ?_
  intro p e s m below meth c A ls hX hK hN hA hP hD hl
  obtain ⟨hx, hb, hr, hml, hown, hts, hlocks, -⟩ := hX
  have hown : s.vm.findClass RXG = some m.cls := hown
  have hl : lv_has ls 2 [(0, .ref (q 10)), (1, .int a1)] := hl
  have hts : ∀ w ∈ W0, w.before _ s = true := fun w h => hts w (List.mem_cons_of_mem _ h)
  have key : ∀ n : Nat, (∀ (x1 : Int32) (r : Int32) (H : Heap) (locs : List Loc) (ls : Array Slot), mG_has N n 0 [x1] = some r → va_P D vwCl (wG q cA N nr) H → va_D A (wG q cA N nr) → va_S A s.heap H locs → lv_has ls 2 [(0, .ref (q 10)), (1, .int x1)] → W p l e ({ frames := 0, cells := 0, slots := 0, locals := 0 }) s m ([.ref (q 10), .int a1] : List Value).toArray below meth c H locs 0 0 (MQ below (kQi D cA kB A (wG q cA N nr) r) ([.ref (q 10), .int a1] : List Value).toArray s 0 0 A) (F0 m 0 ls [])) := by
    intro n
    induction n with
    | zero => exact (by intros; rename_i h _ _ _ _; rw [mG_has_z] at h; cases h)
    | succ n ih =>
      have ih0 := ih
      intro x1 r H locs ls hm hP hD hS hl
      rw [mG_has_e0] at hm
      refine lv_iload_n hx hb dXG_has_0 rfl (lv_at hl 1 rfl) ?_
      refine lv_if_lt (tgt := 16) hx hb dXG_has_1 (by decide) (fun c11 => ?_) (fun c11 => ?_)
      · rw [if_pos c11] at hm
        refine lv_iconst (v := 0) hx hb dXG_has_16 (by decide) ?_
        cases hm
        exact k_zret hx hb hr hlocks hK hP hD hS (Or.inl rfl) dXG_has_17
      · rw [if_neg c11] at hm
        refine lv_iload_n hx hb dXG_has_4 rfl (lv_at hl 1 rfl) ?_
        refine lv_aload_n hx hb dXG_has_5 rfl (lv_at hl 0 rfl) ?_
        refine va_get (D := D) (ci := 2) (v := .int (nI N)) (C := RXG) (T := TXG) (N := 2) hx hb hts hinXG hown hK hP 0 rfl rfl 0 (by decide) (hts _ wd_58) (fun _ h9 => h9) rfl dXG_has_6 ?_
        refine lv_icmp_ge (tgt := 16) hx hb dXG_has_9 (by decide) (fun c12 => ?_) (fun c12 => ?_)
        · rw [if_pos c12] at hm
          refine lv_iconst (v := 0) hx hb dXG_has_16 (by decide) ?_
          cases hm
          exact k_zret hx hb hr hlocks hK hP hD hS (Or.inl rfl) dXG_has_17
        · rw [if_neg c12] at hm
          refine lv_iconst (v := 1) hx hb dXG_has_12 (by decide) ?_
          refine lv_goto (tgt := 17) hx hb dXG_has_13 (by decide) ?_
          cases hm
          exact k_zret hx hb hr hlocks hK hP hD hS (Or.inr rfl) dXG_has_17
  exact key n a1 r s.heap [] ls hm hP hD va_S.rf hl
set_option maxHeartbeats 4000000 in
set_option maxRecDepth 100000 in
theorem cG_toggle (l : Launch) (D : va_G) (q : Nat → Nat) (cA : ClassId) (N : Nat) (sz : Nat) (nr : Nat → Int32) (a1 a2 : Int32) (n : Nat) (nr_1 : Nat → Int32) (hm : mG_toggle N n 0 [a1, a2] nr = some nr_1) : Met l yXG_toggle wsXG_toggle ({ frames := 0, cells := 0, slots := 0, locals := 0 }) (kPc D cA [.ref (q 10), .int a1, .int a2] (wG q cA N nr) sz) (kQv D cA (va_A (wG q cA N nr) sz) (wG q cA N nr_1)) 0 0 (va_A (wG q cA N nr) sz) := by
  refine k_met (D := D) (cA := cA) (w := (wG q cA N nr)) (sz := sz) (av := [.ref (q 10), .int a1, .int a2]) (cc := cXG_toggle) (maxL := 3) (ret := none) (Qc := fun A => kQv D cA A (wG q cA N nr_1)) (by decide) rfl (Nat.le_of_ble_eq_true rfl) ?_
  intro p e s m below meth c A ls hX hK hN hA hP hD hl
  obtain ⟨hx, hb, hr, hml, hown, hts, hlocks, -⟩ := hX
  have hown : s.vm.findClass RXG = some m.cls := hown
  have hl : lv_has ls 3 [(0, .ref (q 10)), (1, .int a1), (2, .int a2)] := hl
  have hts : ∀ w ∈ W0, w.before _ s = true := fun w h => hts w (List.mem_cons_of_mem _ h)
  have key : ∀ n : Nat, (∀ (x1 x2 : Int32) (nr : Nat → Int32) (nr_1 : Nat → Int32) (H : Heap) (locs : List Loc) (ls : Array Slot), mG_toggle N n 0 [x1, x2] nr = some nr_1 → va_P D vwCl (wG q cA N nr) H → va_D A (wG q cA N nr) → va_S A s.heap H locs → lv_has ls 3 [(0, .ref (q 10)), (1, .int x1), (2, .int x2)] → W p l e ({ frames := 0, cells := 0, slots := 0, locals := 0 }) s m ([.ref (q 10), .int a1, .int a2] : List Value).toArray below meth c H locs 0 0 (MQ below (kQv D cA A (wG q cA N nr_1)) ([.ref (q 10), .int a1, .int a2] : List Value).toArray s 0 0 A) (F0 m 0 ls [])) := by
    intro n
    induction n with
    | zero => exact (by intros; rename_i h _ _ _ _; rw [mG_toggle_z] at h; cases h)
    | succ n ih =>
      have ih0 := ih
      intro x1 x2 nr nr_1 H locs ls hm hP hD hS hl
      rw [mG_toggle_e0] at hm
      refine lv_aload_n hx hb dXG_toggle_0 rfl (lv_at hl 0 rfl) ?_
      refine va_get (D := D) (ci := 2) (v := .ref (q 11)) (C := RXG) (T := TXG) (N := 2) hx hb hts hinXG hown hK hP 0 rfl rfl 1 (by decide) (hts _ wd_59) (fun _ h9 => h9) rfl dXG_toggle_1 ?_
      refine lv_iload_n hx hb dXG_toggle_4 rfl (lv_at hl 1 rfl) ?_
      refine lv_dup2_11 hx hb dXG_toggle_5 rfl rfl ?_
      obtain ⟨hg11, hm⟩ := kg_s hm
      refine va_iald hx hb hK hP 1 0 rfl rfl hg11 dXG_toggle_6 ?_
      refine lv_iconst (v := 1) hx hb dXG_toggle_7 (by decide) ?_
      refine lv_iload_n hx hb dXG_toggle_8 rfl (lv_at hl 2 rfl) ?_
      refine lv_ishl hx hb dXG_toggle_9 ?_
      refine lv_ixor hx hb dXG_toggle_10 ?_
      obtain ⟨hg12, hm⟩ := kg_s hm
      refine va_iast hx hb hK hP hD hS 1 0 rfl rfl hg12 dXG_toggle_11 (fun H locs hP hD hS => ?_)
      have hP : va_P D vwCl (wG q cA N (upd nr x1.toNatClampNeg ((nr x1.toNatClampNeg) ^^^ ((1 : Int32) <<< (x2 &&& 31))))) H := hP
      have hD : va_D A (wG q cA N (upd nr x1.toNatClampNeg ((nr x1.toNatClampNeg) ^^^ ((1 : Int32) <<< (x2 &&& 31))))) := hD
      refine lv_aload_n hx hb dXG_toggle_12 rfl (lv_at hl 0 rfl) ?_
      refine va_get (D := D) (ci := 2) (v := .ref (q 11)) (C := RXG) (T := TXG) (N := 2) hx hb hts hinXG hown hK hP 0 rfl rfl 1 (by decide) (hts _ wd_59) (fun _ h9 => h9) rfl dXG_toggle_13 ?_
      refine lv_iload_n hx hb dXG_toggle_16 rfl (lv_at hl 2 rfl) ?_
      refine lv_dup2_11 hx hb dXG_toggle_17 rfl rfl ?_
      obtain ⟨hg13, hm⟩ := kg_s hm
      refine va_iald hx hb hK hP 1 0 rfl rfl hg13 dXG_toggle_18 ?_
      refine lv_iconst (v := 1) hx hb dXG_toggle_19 (by decide) ?_
      refine lv_iload_n hx hb dXG_toggle_20 rfl (lv_at hl 1 rfl) ?_
      refine lv_ishl hx hb dXG_toggle_21 ?_
      refine lv_ixor hx hb dXG_toggle_22 ?_
      obtain ⟨hg14, hm⟩ := kg_s hm
      refine va_iast hx hb hK hP hD hS 1 0 rfl rfl hg14 dXG_toggle_23 (fun H locs hP hD hS => ?_)
      have hP : va_P D vwCl (wG q cA N (upd (upd nr x1.toNatClampNeg ((nr x1.toNatClampNeg) ^^^ ((1 : Int32) <<< (x2 &&& 31)))) x2.toNatClampNeg (((upd nr x1.toNatClampNeg ((nr x1.toNatClampNeg) ^^^ ((1 : Int32) <<< (x2 &&& 31)))) x2.toNatClampNeg) ^^^ ((1 : Int32) <<< (x1 &&& 31))))) H := hP
      have hD : va_D A (wG q cA N (upd (upd nr x1.toNatClampNeg ((nr x1.toNatClampNeg) ^^^ ((1 : Int32) <<< (x2 &&& 31)))) x2.toNatClampNeg (((upd nr x1.toNatClampNeg ((nr x1.toNatClampNeg) ^^^ ((1 : Int32) <<< (x2 &&& 31)))) x2.toNatClampNeg) ^^^ ((1 : Int32) <<< (x1 &&& 31))))) := hD
      cases hm
      exact k_vret hx hb hr hlocks hK hP hD hS dXG_toggle_24
  exact key n a1 a2 nr nr_1 s.heap [] ls hm hP hD va_S.rf hl
set_option maxHeartbeats 4000000 in
set_option maxRecDepth 100000 in
theorem cF_contains (l : Launch) (D : va_G) (cA : ClassId) (sz : Nat) (a0 a1 : Int32) (n : Nat) (r : Int32) (hm : mF_contains n 0 [a0, a1] = some r) : Met l yXF_contains wsXF_contains ({ frames := 0, cells := 0, slots := 0, locals := 0 }) (kPc D cA [.int a0, .int a1] [] sz) (kQi D cA kB (va_A [] sz) [] r) 0 0 (va_A [] sz) := by
  refine k_met (D := D) (cA := cA) (w := []) (sz := sz) (av := [.int a0, .int a1]) (cc := cXF_contains) (maxL := 2) (ret := (some .boolean)) (Qc := fun A => kQi D cA kB A [] r) (by decide) rfl (Nat.le_of_ble_eq_true rfl) ?_
  intro p e s m below meth c A ls hX hK hN hA hP hD hl
  obtain ⟨hx, hb, hr, hml, hown, hts, hlocks, -⟩ := hX
  have hown : s.vm.findClass RXF = some m.cls := hown
  have hl : lv_has ls 2 [(0, .int a0), (1, .int a1)] := hl
  have hts : ∀ w ∈ W0, w.before _ s = true := fun w h => hts w (List.mem_cons_of_mem _ h)
  have key : ∀ n : Nat, (∀ (x0 x1 : Int32) (r : Int32) (H : Heap) (locs : List Loc) (ls : Array Slot), mF_contains n 0 [x0, x1] = some r → va_P D vwCl [] H → va_D A [] → va_S A s.heap H locs → lv_has ls 2 [(0, .int x0), (1, .int x1)] → W p l e ({ frames := 0, cells := 0, slots := 0, locals := 0 }) s m ([.int a0, .int a1] : List Value).toArray below meth c H locs 0 0 (MQ below (kQi D cA kB A [] r) ([.int a0, .int a1] : List Value).toArray s 0 0 A) (F0 m 0 ls [])) := by
    intro n
    induction n with
    | zero => exact (by intros; rename_i h _ _ _ _; rw [mF_contains_z] at h; cases h)
    | succ n ih =>
      have ih0 := ih
      intro x0 x1 r H locs ls hm hP hD hS hl
      rw [mF_contains_e0] at hm
      refine lv_iload_n hx hb dXF_contains_0 rfl (lv_at hl 0 rfl) ?_
      refine lv_iload_n hx hb dXF_contains_1 rfl (lv_at hl 1 rfl) ?_
      refine lv_ishr hx hb dXF_contains_2 ?_
      refine lv_iconst (v := 1) hx hb dXF_contains_3 (by decide) ?_
      refine lv_iand hx hb dXF_contains_4 ?_
      refine lv_if_eq (tgt := 12) hx hb dXF_contains_5 (by decide) (fun c11 => ?_) (fun c11 => ?_)
      · rw [if_pos c11] at hm
        refine lv_iconst (v := 0) hx hb dXF_contains_12 (by decide) ?_
        cases hm
        exact k_zret hx hb hr hlocks hK hP hD hS (Or.inl rfl) dXF_contains_13
      · rw [if_neg c11] at hm
        refine lv_iconst (v := 1) hx hb dXF_contains_8 (by decide) ?_
        refine lv_goto (tgt := 13) hx hb dXF_contains_9 (by decide) ?_
        cases hm
        exact k_zret hx hb hr hlocks hK hP hD hS (Or.inr rfl) dXF_contains_13
  exact key n a0 a1 r s.heap [] ls hm hP hD va_S.rf hl
set_option maxHeartbeats 4000000 in
set_option maxRecDepth 100000 in
theorem cG_edge (l : Launch) (D : va_G) (q : Nat → Nat) (cA : ClassId) (N : Nat) (sz : Nat) (nr : Nat → Int32) (a1 a2 : Int32) (n : Nat) (r : Int32) (hm : mG_edge N nr n 0 [a1, a2] = some r) : Met l yXG_edge wsXG_edge ({ frames := 1, cells := 0, slots := 0, locals := 21 }) (kPc D cA [.ref (q 10), .int a1, .int a2] (wG q cA N nr) sz) (kQi D cA kB (va_A (wG q cA N nr) sz) (wG q cA N nr) r) 0 0 (va_A (wG q cA N nr) sz) := by
  refine k_met (D := D) (cA := cA) (w := (wG q cA N nr)) (sz := sz) (av := [.ref (q 10), .int a1, .int a2]) (cc := cXG_edge) (maxL := 3) (ret := (some .boolean)) (Qc := fun A => kQi D cA kB A (wG q cA N nr) r) (by decide) rfl (Nat.le_of_ble_eq_true rfl) ?_
  intro p e s m below meth c A ls hX hK hN hA hP hD hl
  obtain ⟨hx, hb, hr, hml, hown, hts, hlocks, -⟩ := hX
  have hown : s.vm.findClass RXG = some m.cls := hown
  have hl : lv_has ls 3 [(0, .ref (q 10)), (1, .int a1), (2, .int a2)] := hl
  have hts : ∀ w ∈ W0, w.before _ s = true := fun w h => hts w (List.mem_cons_of_mem _ h)
  have key : ∀ n : Nat, (∀ (x1 x2 : Int32) (r : Int32) (H : Heap) (locs : List Loc) (ls : Array Slot), mG_edge N nr n 0 [x1, x2] = some r → va_P D vwCl (wG q cA N nr) H → va_D A (wG q cA N nr) → va_S A s.heap H locs → lv_has ls 3 [(0, .ref (q 10)), (1, .int x1), (2, .int x2)] → W p l e ({ frames := 1, cells := 0, slots := 0, locals := 21 }) s m ([.ref (q 10), .int a1, .int a2] : List Value).toArray below meth c H locs 0 0 (MQ below (kQi D cA kB A (wG q cA N nr) r) ([.ref (q 10), .int a1, .int a2] : List Value).toArray s 0 0 A) (F0 m 0 ls [])) := by
    intro n
    induction n with
    | zero => exact (by intros; rename_i h _ _ _ _; rw [mG_edge_z] at h; cases h)
    | succ n ih =>
      have ih0 := ih
      intro x1 x2 r H locs ls hm hP hD hS hl
      rw [mG_edge_e0] at hm
      refine lv_aload_n hx hb dXG_edge_0 rfl (lv_at hl 0 rfl) ?_
      refine va_get (D := D) (ci := 2) (v := .ref (q 11)) (C := RXG) (T := TXG) (N := 2) hx hb hts hinXG hown hK hP 0 rfl rfl 1 (by decide) (hts _ wd_59) (fun _ h9 => h9) rfl dXG_edge_1 ?_
      refine lv_iload_n hx hb dXG_edge_4 rfl (lv_at hl 1 rfl) ?_
      obtain ⟨hg11, hm⟩ := kg_s hm
      refine va_iald hx hb hK hP 1 0 rfl rfl hg11 dXG_edge_5 ?_
      refine lv_iload_n hx hb dXG_edge_6 rfl (lv_at hl 2 rfl) ?_
      obtain ⟨r12, hm12, hm⟩ := kb_s hm
      refine k_n0 (As := [.int (nr x1.toNatClampNeg), .int x2]) (rest := []) ⟨hx, hb, hml, hown, hts⟩ (cF_contains l D cA H.size (nr x1.toNatClampNeg) x2 n r12 hm12) ⟨va_cnB 2 hts (gC wd_153) rfl rfl rfl hN.1 (hts _ wd_36) (by decide +kernel) ⟨Nat.le_of_ble_eq_true rfl, Nat.le_of_ble_eq_true rfl⟩, hts _ wd_152, trivial⟩ hK hN hP hD hS hA rfl hl.1 rfl (Nat.le_of_ble_eq_true rfl) dXG_edge_7 ⟨Nat.le_of_ble_eq_true rfl, Nat.le_of_ble_eq_true rfl⟩ (fun hz12 H locs hP hD hS => ?_)
      cases hm
      exact k_zret hx hb hr hlocks hK hP hD hS hz12 dXG_edge_10
  exact key n a1 a2 r s.heap [] ls hm hP hD va_S.rf hl
set_option maxHeartbeats 4000000 in
set_option maxRecDepth 100000 in
theorem cG_all (l : Launch) (D : va_G) (q : Nat → Nat) (cA : ClassId) (N : Nat) (sz : Nat) (nr : Nat → Int32) (n : Nat) (r : Int32) (hm : mG_all N n 0 [] = some r) : Met l yXG_all wsXG_all ({ frames := 0, cells := 0, slots := 0, locals := 0 }) (kPc D cA [.ref (q 10)] (wG q cA N nr) sz) (kQi D cA kT (va_A (wG q cA N nr) sz) (wG q cA N nr) r) 0 0 (va_A (wG q cA N nr) sz) := by
  refine k_met (D := D) (cA := cA) (w := (wG q cA N nr)) (sz := sz) (av := [.ref (q 10)]) (cc := cXG_all) (maxL := 1) (ret := (some .int)) (Qc := fun A => kQi D cA kT A (wG q cA N nr) r) (by decide) rfl (Nat.le_of_ble_eq_true rfl) ?_
  intro p e s m below meth c A ls hX hK hN hA hP hD hl
  obtain ⟨hx, hb, hr, hml, hown, hts, hlocks, -⟩ := hX
  have hown : s.vm.findClass RXG = some m.cls := hown
  have hl : lv_has ls 1 [(0, .ref (q 10))] := hl
  have hts : ∀ w ∈ W0, w.before _ s = true := fun w h => hts w (List.mem_cons_of_mem _ h)
  have key : ∀ n : Nat, (∀ (r : Int32) (H : Heap) (locs : List Loc) (ls : Array Slot), mG_all N n 0 [] = some r → va_P D vwCl (wG q cA N nr) H → va_D A (wG q cA N nr) → va_S A s.heap H locs → lv_has ls 1 [(0, .ref (q 10))] → W p l e ({ frames := 0, cells := 0, slots := 0, locals := 0 }) s m ([.ref (q 10)] : List Value).toArray below meth c H locs 0 0 (MQ below (kQi D cA kT A (wG q cA N nr) r) ([.ref (q 10)] : List Value).toArray s 0 0 A) (F0 m 0 ls [])) := by
    intro n
    induction n with
    | zero => exact (by intros; rename_i h _ _ _ _; rw [mG_all_z] at h; cases h)
    | succ n ih =>
      have ih0 := ih
      intro r H locs ls hm hP hD hS hl
      rw [mG_all_e0] at hm
      refine lv_iconst (v := 1) hx hb dXG_all_0 (by decide) ?_
      refine lv_aload_n hx hb dXG_all_1 rfl (lv_at hl 0 rfl) ?_
      refine va_get (D := D) (ci := 2) (v := .int (nI N)) (C := RXG) (T := TXG) (N := 2) hx hb hts hinXG hown hK hP 0 rfl rfl 0 (by decide) (hts _ wd_58) (fun _ h9 => h9) rfl dXG_all_2 ?_
      refine lv_ishl hx hb dXG_all_5 ?_
      refine lv_iconst (v := 1) hx hb dXG_all_6 (by decide) ?_
      refine lv_isub hx hb dXG_all_7 ?_
      cases hm
      exact k_iret hx hb hr hlocks hK hP hD hS trivial dXG_all_8
  exact key n r s.heap [] ls hm hP hD va_S.rf hl
set_option maxHeartbeats 4000000 in
set_option maxRecDepth 100000 in
theorem cG_nearToAny (l : Launch) (D : va_G) (q : Nat → Nat) (cA : ClassId) (N : Nat) (sz : Nat) (nr : Nat → Int32) (a1 a2 : Int32) (n : Nat) (r : Int32) (hm : mG_nearToAny N nr n 0 [a1, a2] = some r) : Met l yXG_nearToAny wsXG_nearToAny ({ frames := 1, cells := 0, slots := 0, locals := 21 }) (kPc D cA [.ref (q 10), .int a1, .int a2] (wG q cA N nr) sz) (kQi D cA kT (va_A (wG q cA N nr) sz) (wG q cA N nr) r) 0 0 (va_A (wG q cA N nr) sz) := by
  refine k_met (D := D) (cA := cA) (w := (wG q cA N nr)) (sz := sz) (av := [.ref (q 10), .int a1, .int a2]) (cc := cXG_nearToAny) (maxL := 5) (ret := (some .int)) (Qc := fun A => kQi D cA kT A (wG q cA N nr) r) (by decide) rfl (Nat.le_of_ble_eq_true rfl) ?_
  intro p e s m below meth c A ls hX hK hN hA hP hD hl
  obtain ⟨hx, hb, hr, hml, hown, hts, hlocks, -⟩ := hX
  have hown : s.vm.findClass RXG = some m.cls := hown
  have hl : lv_has ls 5 [(0, .ref (q 10)), (1, .int a1), (2, .int a2)] := hl
  have hts : ∀ w ∈ W0, w.before _ s = true := fun w h => hts w (List.mem_cons_of_mem _ h)
  have key : ∀ n : Nat, (∀ (x1 x2 : Int32) (r : Int32) (H : Heap) (locs : List Loc) (ls : Array Slot), mG_nearToAny N nr n 0 [x1, x2] = some r → va_P D vwCl (wG q cA N nr) H → va_D A (wG q cA N nr) → va_S A s.heap H locs → lv_has ls 5 [(0, .ref (q 10)), (1, .int x1), (2, .int x2)] → W p l e ({ frames := 1, cells := 0, slots := 0, locals := 21 }) s m ([.ref (q 10), .int a1, .int a2] : List Value).toArray below meth c H locs 0 0 (MQ below (kQi D cA kT A (wG q cA N nr) r) ([.ref (q 10), .int a1, .int a2] : List Value).toArray s 0 0 A) (F0 m 0 ls [])) ∧
    (∀ (x1 x2 x3 x4 : Int32) (r : Int32) (H : Heap) (locs : List Loc) (ls : Array Slot), mG_nearToAny N nr n 1 [x1, x2, x3, x4] = some r → va_P D vwCl (wG q cA N nr) H → va_D A (wG q cA N nr) → va_S A s.heap H locs → lv_has ls 5 [(0, .ref (q 10)), (1, .int x1), (2, .int x2), (3, .int x3), (4, .int x4)] → W p l e ({ frames := 1, cells := 0, slots := 0, locals := 21 }) s m ([.ref (q 10), .int a1, .int a2] : List Value).toArray below meth c H locs 0 0 (MQ below (kQi D cA kT A (wG q cA N nr) r) ([.ref (q 10), .int a1, .int a2] : List Value).toArray s 0 0 A) (F0 m 5 ls [])) := by
    intro n
    induction n with
    | zero => exact ⟨(by intros; rename_i h _ _ _ _; rw [mG_nearToAny_z] at h; cases h), (by intros; rename_i h _ _ _ _; rw [mG_nearToAny_z] at h; cases h)⟩
    | succ n ih =>
      obtain ⟨ih0, ih1⟩ := ih
      refine ⟨?_, ?_⟩
      · intro x1 x2 r H locs ls hm hP hD hS hl
        rw [mG_nearToAny_e0] at hm
        refine lv_iconst (v := 0) hx hb dXG_nearToAny_0 (by decide) ?_
        refine lv_istore_n (lv' := [(3, .int 0), (0, .ref (q 10)), (1, .int x1), (2, .int x2)]) hx hb dXG_nearToAny_1 rfl hl (by decide) rfl (fun ls hl => ?_)
        refine lv_iconst (v := 0) hx hb dXG_nearToAny_2 (by decide) ?_
        refine lv_istore (lv' := [(4, .int 0), (3, .int 0), (0, .ref (q 10)), (1, .int x1), (2, .int x2)]) hx hb dXG_nearToAny_3 hl (by decide) rfl (fun ls hl => ?_)
        exact ih1 x1 x2 0 0 _ H locs ls hm hP hD hS (lv_sub hl [2, 3, 4, 1, 0] rfl)
      · intro x1 x2 x3 x4 r H locs ls hm hP hD hS hl
        rw [mG_nearToAny_e1] at hm
        refine lv_iload hx hb dXG_nearToAny_5 (lv_at hl 4 rfl) ?_
        refine lv_aload_n hx hb dXG_nearToAny_7 rfl (lv_at hl 0 rfl) ?_
        refine va_get (D := D) (ci := 2) (v := .int (nI N)) (C := RXG) (T := TXG) (N := 2) hx hb hts hinXG hown hK hP 0 rfl rfl 0 (by decide) (hts _ wd_58) (fun _ h9 => h9) rfl dXG_nearToAny_8 ?_
        refine lv_icmp_ge (tgt := 41) hx hb dXG_nearToAny_11 (by decide) (fun c111 => ?_) (fun c111 => ?_)
        · rw [if_pos c111] at hm
          refine lv_iload_n hx hb dXG_nearToAny_41 rfl (lv_at hl 3 rfl) ?_
          cases hm
          exact k_iret hx hb hr hlocks hK hP hD hS trivial dXG_nearToAny_42
        · rw [if_neg c111] at hm
          refine lv_iload_n hx hb dXG_nearToAny_14 rfl (lv_at hl 1 rfl) ?_
          refine lv_iload hx hb dXG_nearToAny_15 (lv_at hl 4 rfl) ?_
          obtain ⟨r112, hm112, hm⟩ := kb_s hm
          refine k_n0 (As := [.int x1, .int x4]) (rest := []) ⟨hx, hb, hml, hown, hts⟩ (cF_contains l D cA H.size x1 x4 n r112 hm112) ⟨va_cnB 2 hts (gC wd_153) rfl rfl rfl hN.1 (hts _ wd_36) (by decide +kernel) ⟨Nat.le_of_ble_eq_true rfl, Nat.le_of_ble_eq_true rfl⟩, hts _ wd_152, trivial⟩ hK hN hP hD hS hA rfl hl.1 rfl (Nat.le_of_ble_eq_true rfl) dXG_nearToAny_17 ⟨Nat.le_of_ble_eq_true rfl, Nat.le_of_ble_eq_true rfl⟩ (fun hz112 H locs hP hD hS => ?_)
          refine lv_if_eq (tgt := 35) hx hb dXG_nearToAny_20 (by decide) (fun c113 => ?_) (fun c113 => ?_)
          · rw [if_pos c113] at hm
            refine lv_iinc (v := (x4 + 1)) (lv' := [(4, .int (x4 + 1)), (0, .ref (q 10)), (1, .int x1), (2, .int x2), (3, .int x3)]) hx hb dXG_nearToAny_35 hl (k := 4) rfl rfl (by decide) rfl (fun ls hl => ?_)
            refine lv_goto (tgt := 5) hx hb dXG_nearToAny_38 (by decide) ?_
            exact ih1 x1 x2 x3 (x4 + 1) _ H locs ls hm hP hD hS (lv_sub hl [1, 2, 3, 4, 0] rfl)
          · rw [if_neg c113] at hm
            refine lv_iload_n hx hb dXG_nearToAny_23 rfl (lv_at hl 3 rfl) ?_
            refine lv_aload_n hx hb dXG_nearToAny_24 rfl (lv_at hl 0 rfl) ?_
            refine va_get (D := D) (ci := 2) (v := .ref (q 11)) (C := RXG) (T := TXG) (N := 2) hx hb hts hinXG hown hK hP 0 rfl rfl 1 (by decide) (hts _ wd_59) (fun _ h9 => h9) rfl dXG_nearToAny_25 ?_
            refine lv_iload hx hb dXG_nearToAny_28 (lv_at hl 4 rfl) ?_
            obtain ⟨hg114, hm⟩ := kg_s hm
            refine va_iald hx hb hK hP 1 0 rfl rfl hg114 dXG_nearToAny_30 ?_
            refine lv_iload_n hx hb dXG_nearToAny_31 rfl (lv_at hl 2 rfl) ?_
            refine lv_iand hx hb dXG_nearToAny_32 ?_
            refine lv_ior hx hb dXG_nearToAny_33 ?_
            refine lv_topi (fun x3_115 ex3_115 => ?_)
            have hm := kl_s ex3_115 hm
            refine lv_istore_n (lv' := [(3, .int x3_115), (0, .ref (q 10)), (1, .int x1), (2, .int x2), (4, .int x4)]) hx hb dXG_nearToAny_34 rfl hl (by decide) rfl (fun ls hl => ?_)
            refine lv_iinc (v := (x4 + 1)) (lv' := [(4, .int (x4 + 1)), (3, .int x3_115), (0, .ref (q 10)), (1, .int x1), (2, .int x2)]) hx hb dXG_nearToAny_35 hl (k := 4) rfl rfl (by decide) rfl (fun ls hl => ?_)
            refine lv_goto (tgt := 5) hx hb dXG_nearToAny_38 (by decide) ?_
            exact ih1 x1 x2 x3_115 (x4 + 1) _ H locs ls hm hP hD hS (lv_sub hl [2, 3, 4, 1, 0] rfl)
  exact (key n).1 a1 a2 r s.heap [] ls hm hP hD va_S.rf hl
set_option maxHeartbeats 4000000 in
set_option maxRecDepth 100000 in
theorem cG_reached (l : Launch) (D : va_G) (q : Nat → Nat) (cA : ClassId) (N : Nat) (sz : Nat) (nr : Nat → Int32) (a1 a2 : Int32) (n : Nat) (r : Int32) (hm : mG_reached N nr n 0 [a1, a2] = some r) : Met l yXG_reached wsXG_reached ({ frames := 2, cells := 0, slots := 0, locals := 45 }) (kPc D cA [.ref (q 10), .int a1, .int a2] (wG q cA N nr) sz) (kQi D cA kT (va_A (wG q cA N nr) sz) (wG q cA N nr) r) 0 0 (va_A (wG q cA N nr) sz) := by
  refine k_met (D := D) (cA := cA) (w := (wG q cA N nr)) (sz := sz) (av := [.ref (q 10), .int a1, .int a2]) (cc := cXG_reached) (maxL := 6) (ret := (some .int)) (Qc := fun A => kQi D cA kT A (wG q cA N nr) r) (by decide) rfl (Nat.le_of_ble_eq_true rfl) ?_
  intro p e s m below meth c A ls hX hK hN hA hP hD hl
  obtain ⟨hx, hb, hr, hml, hown, hts, hlocks, -⟩ := hX
  have hown : s.vm.findClass RXG = some m.cls := hown
  have hl : lv_has ls 6 [(0, .ref (q 10)), (1, .int a1), (2, .int a2)] := hl
  have hts : ∀ w ∈ W0, w.before _ s = true := fun w h => hts w (List.mem_cons_of_mem _ h)
  have key : ∀ n : Nat, (∀ (x1 x2 : Int32) (r : Int32) (H : Heap) (locs : List Loc) (ls : Array Slot), mG_reached N nr n 0 [x1, x2] = some r → va_P D vwCl (wG q cA N nr) H → va_D A (wG q cA N nr) → va_S A s.heap H locs → lv_has ls 6 [(0, .ref (q 10)), (1, .int x1), (2, .int x2)] → W p l e ({ frames := 2, cells := 0, slots := 0, locals := 45 }) s m ([.ref (q 10), .int a1, .int a2] : List Value).toArray below meth c H locs 0 0 (MQ below (kQi D cA kT A (wG q cA N nr) r) ([.ref (q 10), .int a1, .int a2] : List Value).toArray s 0 0 A) (F0 m 0 ls [])) ∧
    (∀ (x2 x3 x4 : Int32) (r : Int32) (H : Heap) (locs : List Loc) (ls : Array Slot), mG_reached N nr n 1 [x2, x3, x4] = some r → va_P D vwCl (wG q cA N nr) H → va_D A (wG q cA N nr) → va_S A s.heap H locs → lv_has ls 6 [(0, .ref (q 10)), (2, .int x2), (3, .int x3), (4, .int x4)] → W p l e ({ frames := 2, cells := 0, slots := 0, locals := 45 }) s m ([.ref (q 10), .int a1, .int a2] : List Value).toArray below meth c H locs 0 0 (MQ below (kQi D cA kT A (wG q cA N nr) r) ([.ref (q 10), .int a1, .int a2] : List Value).toArray s 0 0 A) (F0 m 7 ls [])) := by
    intro n
    induction n with
    | zero => exact ⟨(by intros; rename_i h _ _ _ _; rw [mG_reached_z] at h; cases h), (by intros; rename_i h _ _ _ _; rw [mG_reached_z] at h; cases h)⟩
    | succ n ih =>
      obtain ⟨ih0, ih1⟩ := ih
      refine ⟨?_, ?_⟩
      · intro x1 x2 r H locs ls hm hP hD hS hl
        rw [mG_reached_e0] at hm
        refine lv_iconst (v := 1) hx hb dXG_reached_0 (by decide) ?_
        refine lv_iload_n hx hb dXG_reached_1 rfl (lv_at hl 1 rfl) ?_
        refine lv_ishl hx hb dXG_reached_2 ?_
        refine lv_topi (fun x3_11 ex3_11 => ?_)
        have hm := kl_s ex3_11 hm
        refine lv_istore_n (lv' := [(3, .int x3_11), (0, .ref (q 10)), (1, .int x1), (2, .int x2)]) hx hb dXG_reached_3 rfl hl (by decide) rfl (fun ls hl => ?_)
        refine lv_iconst (v := 0) hx hb dXG_reached_4 (by decide) ?_
        refine lv_istore (lv' := [(4, .int 0), (3, .int x3_11), (0, .ref (q 10)), (1, .int x1), (2, .int x2)]) hx hb dXG_reached_5 hl (by decide) rfl (fun ls hl => ?_)
        exact ih1 x2 x3_11 0 _ H locs ls hm hP hD hS (lv_sub hl [2, 4, 1, 0] rfl)
      · intro x2 x3 x4 r H locs ls hm hP hD hS hl
        rw [mG_reached_e1] at hm
        refine lv_iload hx hb dXG_reached_7 (lv_at hl 3 rfl) ?_
        refine lv_aload_n hx hb dXG_reached_9 rfl (lv_at hl 0 rfl) ?_
        refine va_get (D := D) (ci := 2) (v := .int (nI N)) (C := RXG) (T := TXG) (N := 2) hx hb hts hinXG hown hK hP 0 rfl rfl 0 (by decide) (hts _ wd_58) (fun _ h9 => h9) rfl dXG_reached_10 ?_
        refine lv_icmp_ge (tgt := 44) hx hb dXG_reached_13 (by decide) (fun c111 => ?_) (fun c111 => ?_)
        · rw [if_pos c111] at hm
          refine lv_iload_n hx hb dXG_reached_44 rfl (lv_at hl 2 rfl) ?_
          cases hm
          exact k_iret hx hb hr hlocks hK hP hD hS trivial dXG_reached_45
        · rw [if_neg c111] at hm
          refine lv_iload_n hx hb dXG_reached_16 rfl (lv_at hl 2 rfl) ?_
          refine lv_aload_n hx hb dXG_reached_17 rfl (lv_at hl 0 rfl) ?_
          refine lv_iload_n hx hb dXG_reached_18 rfl (lv_at hl 2 rfl) ?_
          refine lv_iload_n hx hb dXG_reached_19 rfl (lv_at hl 1 rfl) ?_
          obtain ⟨r112, hm112, hm⟩ := kb_s hm
          refine k_vi (As := [.int x3, .int x2]) (rest := [.int x3]) (w2 := (wG q cA N nr)) ⟨hx, hb, hml, hown, hts⟩ (cG_nearToAny l D q cA N H.size nr x3 x2 n r112 hm112) (cwV 2 hts (gV wd_173 wd_174 wd_1 wd_37 wd_175) rfl rfl rfl (by decide +kernel) ⟨Nat.le_of_ble_eq_true rfl, Nat.le_of_ble_eq_true rfl⟩) hK hN hP hD hS hA [0, 1] [] [0, 1] ⟨rfl, rfl, by decide, rfl, by decide, by decide, rfl, rfl, by decide⟩ (va_recv hK hP (ci := 2) (q0 := 0) rfl rfl) rfl hl.1 rfl (Nat.le_of_ble_eq_true rfl) dXG_reached_20 ⟨Nat.le_of_ble_eq_true rfl, Nat.le_of_ble_eq_true rfl⟩ (fun hz112 H locs hP hD hS => ?_)
          refine lv_ior hx hb dXG_reached_23 ?_
          refine lv_topi (fun x5_113 ex5_113 => ?_)
          have hm := kl_s ex5_113 hm
          refine lv_istore (lv' := [(5, .int x5_113), (0, .ref (q 10)), (2, .int x2), (3, .int x3), (4, .int x4)]) hx hb dXG_reached_24 hl (by decide) rfl (fun ls hl => ?_)
          refine lv_iload hx hb dXG_reached_26 (lv_at hl 0 rfl) ?_
          refine lv_iload_n hx hb dXG_reached_28 rfl (lv_at hl 3 rfl) ?_
          refine lv_icmp_ne (tgt := 35) hx hb dXG_reached_29 (by decide) (fun c114 => ?_) (fun c114 => ?_)
          · rw [if_neg c114] at hm
            refine lv_iload hx hb dXG_reached_35 (lv_at hl 0 rfl) ?_
            refine lv_istore_n (lv' := [(3, .int x5_113), (5, .int x5_113), (0, .ref (q 10)), (2, .int x2), (4, .int x4)]) hx hb dXG_reached_37 rfl hl (by decide) rfl (fun ls hl => ?_)
            refine lv_iinc (v := (x4 + 1)) (lv' := [(4, .int (x4 + 1)), (3, .int x5_113), (5, .int x5_113), (0, .ref (q 10)), (2, .int x2)]) hx hb dXG_reached_38 hl (k := 4) rfl rfl (by decide) rfl (fun ls hl => ?_)
            refine lv_goto (tgt := 7) hx hb dXG_reached_41 (by decide) ?_
            exact ih1 x2 x5_113 (x4 + 1) _ H locs ls hm hP hD hS (lv_sub hl [3, 4, 1, 0] rfl)
          · rw [if_pos c114] at hm
            refine lv_goto (tgt := 44) hx hb dXG_reached_32 (by decide) ?_
            refine lv_iload_n hx hb dXG_reached_44 rfl (lv_at hl 3 rfl) ?_
            cases hm
            exact k_iret hx hb hr hlocks hK hP hD hS trivial dXG_reached_45
  exact (key n).1 a1 a2 r s.heap [] ls hm hP hD va_S.rf hl
set_option maxHeartbeats 4000000 in
set_option maxRecDepth 100000 in
theorem cJ_bitCount (l : Launch) (D : va_G) (cA : ClassId) (sz : Nat) (a0 : Int32) (n : Nat) (r : Int32) (hm : mJ_bitCount n 0 [a0] = some r) : Met l yXJ_bitCount wsXJ_bitCount ({ frames := 0, cells := 0, slots := 0, locals := 0 }) (kPc D cA [.int a0] [] sz) (kQi D cA kT (va_A [] sz) [] r) 0 0 (va_A [] sz) := by
  refine k_met (D := D) (cA := cA) (w := []) (sz := sz) (av := [.int a0]) (cc := cXJ_bitCount) (maxL := 1) (ret := (some .int)) (Qc := fun A => kQi D cA kT A [] r) (by decide) rfl (Nat.le_of_ble_eq_true rfl) ?_
  intro p e s m below meth c A ls hX hK hN hA hP hD hl
  obtain ⟨hx, hb, hr, hml, hown, hts, hlocks, -⟩ := hX
  have hown : s.vm.findClass RXJ = some m.cls := hown
  have hl : lv_has ls 1 [(0, .int a0)] := hl
  have hts : ∀ w ∈ W0, w.before _ s = true := fun w h => hts w (List.mem_cons_of_mem _ h)
  have key : ∀ n : Nat, (∀ (x0 : Int32) (r : Int32) (H : Heap) (locs : List Loc) (ls : Array Slot), mJ_bitCount n 0 [x0] = some r → va_P D vwCl [] H → va_D A [] → va_S A s.heap H locs → lv_has ls 1 [(0, .int x0)] → W p l e ({ frames := 0, cells := 0, slots := 0, locals := 0 }) s m ([.int a0] : List Value).toArray below meth c H locs 0 0 (MQ below (kQi D cA kT A [] r) ([.int a0] : List Value).toArray s 0 0 A) (F0 m 0 ls [])) := by
    intro n
    induction n with
    | zero => exact (by intros; rename_i h _ _ _ _; rw [mJ_bitCount_z] at h; cases h)
    | succ n ih =>
      have ih0 := ih
      intro x0 r H locs ls hm hP hD hS hl
      rw [mJ_bitCount_e0] at hm
      refine lv_iload_n hx hb dXJ_bitCount_0 rfl (lv_at hl 0 rfl) ?_
      refine lv_iload_n hx hb dXJ_bitCount_1 rfl (lv_at hl 0 rfl) ?_
      refine lv_iconst (v := 1) hx hb dXJ_bitCount_2 (by decide) ?_
      refine lv_iushr (v := (x0.toUInt32 >>> ((1 : Int32).toUInt32 &&& Int32.toUInt32 31)).toInt32) hx hb dXJ_bitCount_3 rfl ?_
      refine lv_ldcw (v := 1431655765) hx hb hown (hts _ wd_196) dXJ_bitCount_4 ?_
      refine lv_iand hx hb dXJ_bitCount_7 ?_
      refine lv_isub hx hb dXJ_bitCount_8 ?_
      refine lv_topi (fun x0_11 ex0_11 => ?_)
      have hm := kl_s ex0_11 hm
      refine lv_istore_n (lv' := [(0, .int x0_11)]) hx hb dXJ_bitCount_9 rfl hl (by decide) rfl (fun ls hl => ?_)
      refine lv_iload_n hx hb dXJ_bitCount_10 rfl (lv_at hl 0 rfl) ?_
      refine lv_ldcw (v := 858993459) hx hb hown (hts _ wd_197) dXJ_bitCount_11 ?_
      refine lv_iand hx hb dXJ_bitCount_14 ?_
      refine lv_iload_n hx hb dXJ_bitCount_15 rfl (lv_at hl 0 rfl) ?_
      refine lv_iconst (v := 2) hx hb dXJ_bitCount_16 (by decide) ?_
      refine lv_iushr (v := (x0_11.toUInt32 >>> ((2 : Int32).toUInt32 &&& Int32.toUInt32 31)).toInt32) hx hb dXJ_bitCount_17 rfl ?_
      refine lv_ldcw (v := 858993459) hx hb hown (hts _ wd_197) dXJ_bitCount_18 ?_
      refine lv_iand hx hb dXJ_bitCount_21 ?_
      refine lv_iadd hx hb dXJ_bitCount_22 ?_
      refine lv_topi (fun x0_12 ex0_12 => ?_)
      have hm := kl_s ex0_12 hm
      refine lv_istore_n (lv' := [(0, .int x0_12)]) hx hb dXJ_bitCount_23 rfl hl (by decide) rfl (fun ls hl => ?_)
      refine lv_iload_n hx hb dXJ_bitCount_24 rfl (lv_at hl 0 rfl) ?_
      refine lv_iload_n hx hb dXJ_bitCount_25 rfl (lv_at hl 0 rfl) ?_
      refine lv_iconst (v := 4) hx hb dXJ_bitCount_26 (by decide) ?_
      refine lv_iushr (v := (x0_12.toUInt32 >>> ((4 : Int32).toUInt32 &&& Int32.toUInt32 31)).toInt32) hx hb dXJ_bitCount_27 rfl ?_
      refine lv_iadd hx hb dXJ_bitCount_28 ?_
      refine lv_ldcw (v := 252645135) hx hb hown (hts _ wd_198) dXJ_bitCount_29 ?_
      refine lv_iand hx hb dXJ_bitCount_32 ?_
      refine lv_topi (fun x0_13 ex0_13 => ?_)
      have hm := kl_s ex0_13 hm
      refine lv_istore_n (lv' := [(0, .int x0_13)]) hx hb dXJ_bitCount_33 rfl hl (by decide) rfl (fun ls hl => ?_)
      refine lv_iload_n hx hb dXJ_bitCount_34 rfl (lv_at hl 0 rfl) ?_
      refine lv_iload_n hx hb dXJ_bitCount_35 rfl (lv_at hl 0 rfl) ?_
      refine lv_bipush (v := 8) hx hb dXJ_bitCount_36 (by decide) ?_
      refine lv_iushr (v := (x0_13.toUInt32 >>> ((8 : Int32).toUInt32 &&& Int32.toUInt32 31)).toInt32) hx hb dXJ_bitCount_38 rfl ?_
      refine lv_iadd hx hb dXJ_bitCount_39 ?_
      refine lv_topi (fun x0_14 ex0_14 => ?_)
      have hm := kl_s ex0_14 hm
      refine lv_istore_n (lv' := [(0, .int x0_14)]) hx hb dXJ_bitCount_40 rfl hl (by decide) rfl (fun ls hl => ?_)
      refine lv_iload_n hx hb dXJ_bitCount_41 rfl (lv_at hl 0 rfl) ?_
      refine lv_iload_n hx hb dXJ_bitCount_42 rfl (lv_at hl 0 rfl) ?_
      refine lv_bipush (v := 16) hx hb dXJ_bitCount_43 (by decide) ?_
      refine lv_iushr (v := (x0_14.toUInt32 >>> ((16 : Int32).toUInt32 &&& Int32.toUInt32 31)).toInt32) hx hb dXJ_bitCount_45 rfl ?_
      refine lv_iadd hx hb dXJ_bitCount_46 ?_
      refine lv_topi (fun x0_15 ex0_15 => ?_)
      have hm := kl_s ex0_15 hm
      refine lv_istore_n (lv' := [(0, .int x0_15)]) hx hb dXJ_bitCount_47 rfl hl (by decide) rfl (fun ls hl => ?_)
      refine lv_iload_n hx hb dXJ_bitCount_48 rfl (lv_at hl 0 rfl) ?_
      refine lv_bipush (v := 63) hx hb dXJ_bitCount_49 (by decide) ?_
      refine lv_iand hx hb dXJ_bitCount_51 ?_
      cases hm
      exact k_iret hx hb hr hlocks hK hP hD hS trivial dXJ_bitCount_52
  exact key n a0 r s.heap [] ls hm hP hD va_S.rf hl
set_option maxHeartbeats 4000000 in
set_option maxRecDepth 100000 in
theorem cG_nearInside (l : Launch) (D : va_G) (q : Nat → Nat) (cA : ClassId) (N : Nat) (sz : Nat) (nr : Nat → Int32) (a1 a2 : Int32) (n : Nat) (r : Int32) (hm : mG_nearInside N nr n 0 [a1, a2] = some r) : Met l yXG_nearInside wsXG_nearInside ({ frames := 0, cells := 0, slots := 0, locals := 0 }) (kPc D cA [.ref (q 10), .int a1, .int a2] (wG q cA N nr) sz) (kQi D cA kT (va_A (wG q cA N nr) sz) (wG q cA N nr) r) 0 0 (va_A (wG q cA N nr) sz) := by
  refine k_met (D := D) (cA := cA) (w := (wG q cA N nr)) (sz := sz) (av := [.ref (q 10), .int a1, .int a2]) (cc := cXG_nearInside) (maxL := 3) (ret := (some .int)) (Qc := fun A => kQi D cA kT A (wG q cA N nr) r) (by decide) rfl (Nat.le_of_ble_eq_true rfl) ?_
  intro p e s m below meth c A ls hX hK hN hA hP hD hl
  obtain ⟨hx, hb, hr, hml, hown, hts, hlocks, -⟩ := hX
  have hown : s.vm.findClass RXG = some m.cls := hown
  have hl : lv_has ls 3 [(0, .ref (q 10)), (1, .int a1), (2, .int a2)] := hl
  have hts : ∀ w ∈ W0, w.before _ s = true := fun w h => hts w (List.mem_cons_of_mem _ h)
  have key : ∀ n : Nat, (∀ (x1 x2 : Int32) (r : Int32) (H : Heap) (locs : List Loc) (ls : Array Slot), mG_nearInside N nr n 0 [x1, x2] = some r → va_P D vwCl (wG q cA N nr) H → va_D A (wG q cA N nr) → va_S A s.heap H locs → lv_has ls 3 [(0, .ref (q 10)), (1, .int x1), (2, .int x2)] → W p l e ({ frames := 0, cells := 0, slots := 0, locals := 0 }) s m ([.ref (q 10), .int a1, .int a2] : List Value).toArray below meth c H locs 0 0 (MQ below (kQi D cA kT A (wG q cA N nr) r) ([.ref (q 10), .int a1, .int a2] : List Value).toArray s 0 0 A) (F0 m 0 ls [])) := by
    intro n
    induction n with
    | zero => exact (by intros; rename_i h _ _ _ _; rw [mG_nearInside_z] at h; cases h)
    | succ n ih =>
      have ih0 := ih
      intro x1 x2 r H locs ls hm hP hD hS hl
      rw [mG_nearInside_e0] at hm
      refine lv_aload_n hx hb dXG_nearInside_0 rfl (lv_at hl 0 rfl) ?_
      refine va_get (D := D) (ci := 2) (v := .ref (q 11)) (C := RXG) (T := TXG) (N := 2) hx hb hts hinXG hown hK hP 0 rfl rfl 1 (by decide) (hts _ wd_59) (fun _ h9 => h9) rfl dXG_nearInside_1 ?_
      refine lv_iload_n hx hb dXG_nearInside_4 rfl (lv_at hl 1 rfl) ?_
      obtain ⟨hg11, hm⟩ := kg_s hm
      refine va_iald hx hb hK hP 1 0 rfl rfl hg11 dXG_nearInside_5 ?_
      refine lv_iload_n hx hb dXG_nearInside_6 rfl (lv_at hl 2 rfl) ?_
      refine lv_iand hx hb dXG_nearInside_7 ?_
      cases hm
      exact k_iret hx hb hr hlocks hK hP hD hS trivial dXG_nearInside_8
  exact key n a1 a2 r s.heap [] ls hm hP hD va_S.rf hl
set_option maxHeartbeats 4000000 in
set_option maxRecDepth 100000 in
theorem cG_joined (l : Launch) (D : va_G) (q : Nat → Nat) (cA : ClassId) (N : Nat) (sz : Nat) (nr : Nat → Int32) (a1 a2 : Int32) (n : Nat) (r : Int32) (hm : mG_joined N nr n 0 [a1, a2] = some r) : Met l yXG_joined wsXG_joined ({ frames := 2, cells := 0, slots := 0, locals := 45 }) (kPc D cA [.ref (q 10), .int a1, .int a2] (wG q cA N nr) sz) (kQi D cA kB (va_A (wG q cA N nr) sz) (wG q cA N nr) r) 0 0 (va_A (wG q cA N nr) sz) := by
  refine k_met (D := D) (cA := cA) (w := (wG q cA N nr)) (sz := sz) (av := [.ref (q 10), .int a1, .int a2]) (cc := cXG_joined) (maxL := 3) (ret := (some .boolean)) (Qc := fun A => kQi D cA kB A (wG q cA N nr) r) (by decide) rfl (Nat.le_of_ble_eq_true rfl) ?_
  intro p e s m below meth c A ls hX hK hN hA hP hD hl
  obtain ⟨hx, hb, hr, hml, hown, hts, hlocks, -⟩ := hX
  have hown : s.vm.findClass RXG = some m.cls := hown
  have hl : lv_has ls 3 [(0, .ref (q 10)), (1, .int a1), (2, .int a2)] := hl
  have hts : ∀ w ∈ W0, w.before _ s = true := fun w h => hts w (List.mem_cons_of_mem _ h)
  have key : ∀ n : Nat, (∀ (x1 x2 : Int32) (r : Int32) (H : Heap) (locs : List Loc) (ls : Array Slot), mG_joined N nr n 0 [x1, x2] = some r → va_P D vwCl (wG q cA N nr) H → va_D A (wG q cA N nr) → va_S A s.heap H locs → lv_has ls 3 [(0, .ref (q 10)), (1, .int x1), (2, .int x2)] → W p l e ({ frames := 2, cells := 0, slots := 0, locals := 45 }) s m ([.ref (q 10), .int a1, .int a2] : List Value).toArray below meth c H locs 0 0 (MQ below (kQi D cA kB A (wG q cA N nr) r) ([.ref (q 10), .int a1, .int a2] : List Value).toArray s 0 0 A) (F0 m 0 ls [])) := by
    intro n
    induction n with
    | zero => exact (by intros; rename_i h _ _ _ _; rw [mG_joined_z] at h; cases h)
    | succ n ih =>
      have ih0 := ih
      intro x1 x2 r H locs ls hm hP hD hS hl
      rw [mG_joined_e0] at hm
      refine lv_aload_n hx hb dXG_joined_0 rfl (lv_at hl 0 rfl) ?_
      refine lv_iload_n hx hb dXG_joined_1 rfl (lv_at hl 1 rfl) ?_
      refine lv_iload_n hx hb dXG_joined_2 rfl (lv_at hl 2 rfl) ?_
      obtain ⟨r11, hm11, hm⟩ := kb_s hm
      refine k_vi (As := [.int x1, .int x2]) (rest := []) (w2 := (wG q cA N nr)) ⟨hx, hb, hml, hown, hts⟩ (cG_nearToAny l D q cA N H.size nr x1 x2 n r11 hm11) (cwV 2 hts (gV wd_173 wd_174 wd_1 wd_37 wd_175) rfl rfl rfl (by decide +kernel) ⟨Nat.le_of_ble_eq_true rfl, Nat.le_of_ble_eq_true rfl⟩) hK hN hP hD hS hA [0, 1] [] [0, 1] ⟨rfl, rfl, by decide, rfl, by decide, by decide, rfl, rfl, by decide⟩ (va_recv hK hP (ci := 2) (q0 := 0) rfl rfl) rfl hl.1 rfl (Nat.le_of_ble_eq_true rfl) dXG_joined_3 ⟨Nat.le_of_ble_eq_true rfl, Nat.le_of_ble_eq_true rfl⟩ (fun hz11 H locs hP hD hS => ?_)
      refine lv_if_eq (tgt := 13) hx hb dXG_joined_6 (by decide) (fun c12 => ?_) (fun c12 => ?_)
      · rw [if_pos c12] at hm
        refine lv_iconst (v := 0) hx hb dXG_joined_13 (by decide) ?_
        cases hm
        exact k_zret hx hb hr hlocks hK hP hD hS (Or.inl rfl) dXG_joined_14
      · rw [if_neg c12] at hm
        refine lv_iconst (v := 1) hx hb dXG_joined_9 (by decide) ?_
        refine lv_goto (tgt := 14) hx hb dXG_joined_10 (by decide) ?_
        cases hm
        exact k_zret hx hb hr hlocks hK hP hD hS (Or.inr rfl) dXG_joined_14
  exact key n a1 a2 r s.heap [] ls hm hP hD va_S.rf hl
end
