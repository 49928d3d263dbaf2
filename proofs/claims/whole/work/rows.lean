section
-- ===== PART A: goes FIRST, ahead of the names: the tables' words, and 'selects' of the private methods out of them =====
/-- a private method of a class that the tables say can be made, by its rows of tables_1 -/
def lw_okq (q : MethodName × Nat) : Prop := (q.1.cls ≠ "java/lang/invoke/MethodHandle" ∧ q.1.cls ≠ "java/lang/invoke/VarHandle") ∧ Cond.instantiable q.1.cls q.2 ∈ tables_1 ∧ Cond.privateMethod q.1 ∈ tables_1 ∧ Cond.instanceMethod q.1 ∈ tables_1
theorem lw_p0 : lw_okq (⟨"TurningPlans", "endIfNothingIsLeft", "()V"⟩, 14) := ⟨⟨by decide +kernel, by decide +kernel⟩, List.mem_of_getElem? (i := 10) (by decide +kernel), List.mem_of_getElem? (i := 241) (by decide +kernel), List.mem_of_getElem? (i := 242) (by decide +kernel)⟩
theorem lw_p1 : lw_okq (⟨"TurningPlans", "bothAreReadOut", "()Z"⟩, 14) := ⟨⟨by decide +kernel, by decide +kernel⟩, List.mem_of_getElem? (i := 10) (by decide +kernel), List.mem_of_getElem? (i := 245) (by decide +kernel), List.mem_of_getElem? (i := 246) (by decide +kernel)⟩
theorem lw_p2 : lw_okq (⟨"TurningPlans", "findLatePair", "()Z"⟩, 14) := ⟨⟨by decide +kernel, by decide +kernel⟩, List.mem_of_getElem? (i := 10) (by decide +kernel), List.mem_of_getElem? (i := 253) (by decide +kernel), List.mem_of_getElem? (i := 254) (by decide +kernel)⟩
theorem lw_p3 : lw_okq (⟨"TurningPlans", "findLateRow1", "()Z"⟩, 14) := ⟨⟨by decide +kernel, by decide +kernel⟩, List.mem_of_getElem? (i := 10) (by decide +kernel), List.mem_of_getElem? (i := 261) (by decide +kernel), List.mem_of_getElem? (i := 262) (by decide +kernel)⟩
theorem lw_p4 : lw_okq (⟨"TurningPlans", "joinValue", "(II)I"⟩, 14) := ⟨⟨by decide +kernel, by decide +kernel⟩, List.mem_of_getElem? (i := 10) (by decide +kernel), List.mem_of_getElem? (i := 265) (by decide +kernel), List.mem_of_getElem? (i := 266) (by decide +kernel)⟩
theorem lw_p5 : lw_okq (⟨"TurningPlans", "makeStep", "()V"⟩, 14) := ⟨⟨by decide +kernel, by decide +kernel⟩, List.mem_of_getElem? (i := 10) (by decide +kernel), List.mem_of_getElem? (i := 285) (by decide +kernel), List.mem_of_getElem? (i := 286) (by decide +kernel)⟩
theorem lw_p6 : lw_okq (⟨"TurningPlans", "giveLatePair", "()V"⟩, 14) := ⟨⟨by decide +kernel, by decide +kernel⟩, List.mem_of_getElem? (i := 10) (by decide +kernel), List.mem_of_getElem? (i := 289) (by decide +kernel), List.mem_of_getElem? (i := 290) (by decide +kernel)⟩
theorem lw_p7 : lw_okq (⟨"TurningPlans", "tableToRead", "()I"⟩, 14) := ⟨⟨by decide +kernel, by decide +kernel⟩, List.mem_of_getElem? (i := 10) (by decide +kernel), List.mem_of_getElem? (i := 297) (by decide +kernel), List.mem_of_getElem? (i := 298) (by decide +kernel)⟩
theorem lw_p8 : lw_okq (⟨"TurningPlans", "readFrom", "(I)V"⟩, 14) := ⟨⟨by decide +kernel, by decide +kernel⟩, List.mem_of_getElem? (i := 10) (by decide +kernel), List.mem_of_getElem? (i := 309) (by decide +kernel), List.mem_of_getElem? (i := 310) (by decide +kernel)⟩
theorem lw_p9 : lw_okq (⟨"TurningPlans", "givePairsOf", "(II)V"⟩, 14) := ⟨⟨by decide +kernel, by decide +kernel⟩, List.mem_of_getElem? (i := 10) (by decide +kernel), List.mem_of_getElem? (i := 322) (by decide +kernel), List.mem_of_getElem? (i := 323) (by decide +kernel)⟩
theorem lw_p10 : lw_okq (⟨"TurningPlans", "spillExcess", "()V"⟩, 14) := ⟨⟨by decide +kernel, by decide +kernel⟩, List.mem_of_getElem? (i := 10) (by decide +kernel), List.mem_of_getElem? (i := 338) (by decide +kernel), List.mem_of_getElem? (i := 339) (by decide +kernel)⟩
theorem lw_p11 : lw_okq (⟨"TurningPlans$Scan", "sortIntoNewOrder", "()V"⟩, 13) := ⟨⟨by decide +kernel, by decide +kernel⟩, List.mem_of_getElem? (i := 55) (by decide +kernel), List.mem_of_getElem? (i := 354) (by decide +kernel), List.mem_of_getElem? (i := 355) (by decide +kernel)⟩
theorem lw_p12 : lw_okq (⟨"TurningPlans$Scan", "isCheaperToFail", "(II)Z"⟩, 13) := ⟨⟨by decide +kernel, by decide +kernel⟩, List.mem_of_getElem? (i := 55) (by decide +kernel), List.mem_of_getElem? (i := 358) (by decide +kernel), List.mem_of_getElem? (i := 359) (by decide +kernel)⟩
theorem lw_p13 : lw_okq (⟨"TurningPlans$Scan", "takeNewOrder", "()Z"⟩, 13) := ⟨⟨by decide +kernel, by decide +kernel⟩, List.mem_of_getElem? (i := 55) (by decide +kernel), List.mem_of_getElem? (i := 362) (by decide +kernel), List.mem_of_getElem? (i := 363) (by decide +kernel)⟩
theorem lw_p14 : lw_okq (⟨"TurningPlans$Scan", "readIntoNewOrder", "(I)Z"⟩, 13) := ⟨⟨by decide +kernel, by decide +kernel⟩, List.mem_of_getElem? (i := 55) (by decide +kernel), List.mem_of_getElem? (i := 382) (by decide +kernel), List.mem_of_getElem? (i := 383) (by decide +kernel)⟩
theorem lw_p15 : lw_okq (⟨"TurningPlans$Scan", "findFailedTests", "()V"⟩, 13) := ⟨⟨by decide +kernel, by decide +kernel⟩, List.mem_of_getElem? (i := 55) (by decide +kernel), List.mem_of_getElem? (i := 428) (by decide +kernel), List.mem_of_getElem? (i := 429) (by decide +kernel)⟩
def lw_privs_1 : List (MethodName × Nat) := [(⟨"TurningPlans", "endIfNothingIsLeft", "()V"⟩, 14), (⟨"TurningPlans", "bothAreReadOut", "()Z"⟩, 14), (⟨"TurningPlans", "findLatePair", "()Z"⟩, 14), (⟨"TurningPlans", "findLateRow1", "()Z"⟩, 14), (⟨"TurningPlans", "joinValue", "(II)I"⟩, 14), (⟨"TurningPlans", "makeStep", "()V"⟩, 14), (⟨"TurningPlans", "giveLatePair", "()V"⟩, 14), (⟨"TurningPlans", "tableToRead", "()I"⟩, 14), (⟨"TurningPlans", "readFrom", "(I)V"⟩, 14), (⟨"TurningPlans", "givePairsOf", "(II)V"⟩, 14), (⟨"TurningPlans", "spillExcess", "()V"⟩, 14), (⟨"TurningPlans$Scan", "sortIntoNewOrder", "()V"⟩, 13), (⟨"TurningPlans$Scan", "isCheaperToFail", "(II)Z"⟩, 13), (⟨"TurningPlans$Scan", "takeNewOrder", "()Z"⟩, 13), (⟨"TurningPlans$Scan", "readIntoNewOrder", "(I)Z"⟩, 13), (⟨"TurningPlans$Scan", "findFailedTests", "()V"⟩, 13)]
theorem lw_r1 : ∀ q ∈ lw_privs_1, lw_okq q := List.forall_mem_cons.mpr ⟨lw_p0, List.forall_mem_cons.mpr ⟨lw_p1, List.forall_mem_cons.mpr ⟨lw_p2, List.forall_mem_cons.mpr ⟨lw_p3, List.forall_mem_cons.mpr ⟨lw_p4, List.forall_mem_cons.mpr ⟨lw_p5, List.forall_mem_cons.mpr ⟨lw_p6, List.forall_mem_cons.mpr ⟨lw_p7, List.forall_mem_cons.mpr ⟨lw_p8, List.forall_mem_cons.mpr ⟨lw_p9, List.forall_mem_cons.mpr ⟨lw_p10, List.forall_mem_cons.mpr ⟨lw_p11, List.forall_mem_cons.mpr ⟨lw_p12, List.forall_mem_cons.mpr ⟨lw_p13, List.forall_mem_cons.mpr ⟨lw_p14, List.forall_mem_cons.mpr ⟨lw_p15, fun _ h => absurd h List.not_mem_nil⟩⟩⟩⟩⟩⟩⟩⟩⟩⟩⟩⟩⟩⟩⟩⟩
theorem lw_p16 : lw_okq (⟨"TurningPlans$Scan", "rowsThatPass", "(I)I"⟩, 13) := ⟨⟨by decide +kernel, by decide +kernel⟩, List.mem_of_getElem? (i := 55) (by decide +kernel), List.mem_of_getElem? (i := 433) (by decide +kernel), List.mem_of_getElem? (i := 434) (by decide +kernel)⟩
theorem lw_p17 : lw_okq (⟨"TurningPlansModel", "ends", "()V"⟩, 32) := ⟨⟨by decide +kernel, by decide +kernel⟩, List.mem_of_getElem? (i := 449) (by decide +kernel), List.mem_of_getElem? (i := 574) (by decide +kernel), List.mem_of_getElem? (i := 575) (by decide +kernel)⟩
theorem lw_p18 : lw_okq (⟨"TurningPlansModel", "isReadOut", "(I)Z"⟩, 32) := ⟨⟨by decide +kernel, by decide +kernel⟩, List.mem_of_getElem? (i := 449) (by decide +kernel), List.mem_of_getElem? (i := 578) (by decide +kernel), List.mem_of_getElem? (i := 579) (by decide +kernel)⟩
theorem lw_p19 : lw_okq (⟨"TurningPlansModel", "lacking", "()I"⟩, 32) := ⟨⟨by decide +kernel, by decide +kernel⟩, List.mem_of_getElem? (i := 449) (by decide +kernel), List.mem_of_getElem? (i := 582) (by decide +kernel), List.mem_of_getElem? (i := 583) (by decide +kernel)⟩
theorem lw_p20 : lw_okq (⟨"TurningPlansModel", "isAlike", "(II)Z"⟩, 32) := ⟨⟨by decide +kernel, by decide +kernel⟩, List.mem_of_getElem? (i := 449) (by decide +kernel), List.mem_of_getElem? (i := 586) (by decide +kernel), List.mem_of_getElem? (i := 587) (by decide +kernel)⟩
theorem lw_p21 : lw_okq (⟨"TurningPlansModel", "cell", "(III)I"⟩, 32) := ⟨⟨by decide +kernel, by decide +kernel⟩, List.mem_of_getElem? (i := 449) (by decide +kernel), List.mem_of_getElem? (i := 590) (by decide +kernel), List.mem_of_getElem? (i := 591) (by decide +kernel)⟩
theorem lw_p22 : lw_okq (⟨"TurningPlansModel", "gives", "(II)V"⟩, 32) := ⟨⟨by decide +kernel, by decide +kernel⟩, List.mem_of_getElem? (i := 449) (by decide +kernel), List.mem_of_getElem? (i := 602) (by decide +kernel), List.mem_of_getElem? (i := 603) (by decide +kernel)⟩
theorem lw_p23 : lw_okq (⟨"TurningPlansModel", "choose", "()I"⟩, 32) := ⟨⟨by decide +kernel, by decide +kernel⟩, List.mem_of_getElem? (i := 449) (by decide +kernel), List.mem_of_getElem? (i := 606) (by decide +kernel), List.mem_of_getElem? (i := 607) (by decide +kernel)⟩
theorem lw_p24 : lw_okq (⟨"TurningPlansModel", "reads", "(I)V"⟩, 32) := ⟨⟨by decide +kernel, by decide +kernel⟩, List.mem_of_getElem? (i := 449) (by decide +kernel), List.mem_of_getElem? (i := 610) (by decide +kernel), List.mem_of_getElem? (i := 611) (by decide +kernel)⟩
theorem lw_p25 : lw_okq (⟨"TurningPlansModel", "passes", "(III)Z"⟩, 32) := ⟨⟨by decide +kernel, by decide +kernel⟩, List.mem_of_getElem? (i := 449) (by decide +kernel), List.mem_of_getElem? (i := 614) (by decide +kernel), List.mem_of_getElem? (i := 615) (by decide +kernel)⟩
theorem lw_p26 : lw_okq (⟨"TurningPlansModel", "finds", "(II)I"⟩, 32) := ⟨⟨by decide +kernel, by decide +kernel⟩, List.mem_of_getElem? (i := 449) (by decide +kernel), List.mem_of_getElem? (i := 618) (by decide +kernel), List.mem_of_getElem? (i := 619) (by decide +kernel)⟩
theorem lw_p27 : lw_okq (⟨"TurningPlansModel", "nextIn", "(II)I"⟩, 32) := ⟨⟨by decide +kernel, by decide +kernel⟩, List.mem_of_getElem? (i := 449) (by decide +kernel), List.mem_of_getElem? (i := 622) (by decide +kernel), List.mem_of_getElem? (i := 623) (by decide +kernel)⟩
theorem lw_p28 : lw_okq (⟨"TurningPlansModel", "spills", "()V"⟩, 32) := ⟨⟨by decide +kernel, by decide +kernel⟩, List.mem_of_getElem? (i := 449) (by decide +kernel), List.mem_of_getElem? (i := 626) (by decide +kernel), List.mem_of_getElem? (i := 627) (by decide +kernel)⟩
theorem lw_p29 : lw_okq (⟨"TurningPlansModel", "inMemory", "()I"⟩, 32) := ⟨⟨by decide +kernel, by decide +kernel⟩, List.mem_of_getElem? (i := 449) (by decide +kernel), List.mem_of_getElem? (i := 630) (by decide +kernel), List.mem_of_getElem? (i := 631) (by decide +kernel)⟩
theorem lw_p30 : lw_okq (⟨"TurningPlansModel", "turns", "(I)V"⟩, 32) := ⟨⟨by decide +kernel, by decide +kernel⟩, List.mem_of_getElem? (i := 449) (by decide +kernel), List.mem_of_getElem? (i := 634) (by decide +kernel), List.mem_of_getElem? (i := 635) (by decide +kernel)⟩
theorem lw_p31 : lw_okq (⟨"TurningPlansModel", "isCheaper", "(III)Z"⟩, 32) := ⟨⟨by decide +kernel, by decide +kernel⟩, List.mem_of_getElem? (i := 449) (by decide +kernel), List.mem_of_getElem? (i := 638) (by decide +kernel), List.mem_of_getElem? (i := 639) (by decide +kernel)⟩
def lw_privs_2 : List (MethodName × Nat) := [(⟨"TurningPlans$Scan", "rowsThatPass", "(I)I"⟩, 13), (⟨"TurningPlansModel", "ends", "()V"⟩, 32), (⟨"TurningPlansModel", "isReadOut", "(I)Z"⟩, 32), (⟨"TurningPlansModel", "lacking", "()I"⟩, 32), (⟨"TurningPlansModel", "isAlike", "(II)Z"⟩, 32), (⟨"TurningPlansModel", "cell", "(III)I"⟩, 32), (⟨"TurningPlansModel", "gives", "(II)V"⟩, 32), (⟨"TurningPlansModel", "choose", "()I"⟩, 32), (⟨"TurningPlansModel", "reads", "(I)V"⟩, 32), (⟨"TurningPlansModel", "passes", "(III)Z"⟩, 32), (⟨"TurningPlansModel", "finds", "(II)I"⟩, 32), (⟨"TurningPlansModel", "nextIn", "(II)I"⟩, 32), (⟨"TurningPlansModel", "spills", "()V"⟩, 32), (⟨"TurningPlansModel", "inMemory", "()I"⟩, 32), (⟨"TurningPlansModel", "turns", "(I)V"⟩, 32), (⟨"TurningPlansModel", "isCheaper", "(III)Z"⟩, 32)]
theorem lw_r2 : ∀ q ∈ lw_privs_2, lw_okq q := List.forall_mem_cons.mpr ⟨lw_p16, List.forall_mem_cons.mpr ⟨lw_p17, List.forall_mem_cons.mpr ⟨lw_p18, List.forall_mem_cons.mpr ⟨lw_p19, List.forall_mem_cons.mpr ⟨lw_p20, List.forall_mem_cons.mpr ⟨lw_p21, List.forall_mem_cons.mpr ⟨lw_p22, List.forall_mem_cons.mpr ⟨lw_p23, List.forall_mem_cons.mpr ⟨lw_p24, List.forall_mem_cons.mpr ⟨lw_p25, List.forall_mem_cons.mpr ⟨lw_p26, List.forall_mem_cons.mpr ⟨lw_p27, List.forall_mem_cons.mpr ⟨lw_p28, List.forall_mem_cons.mpr ⟨lw_p29, List.forall_mem_cons.mpr ⟨lw_p30, List.forall_mem_cons.mpr ⟨lw_p31, fun _ h => absurd h List.not_mem_nil⟩⟩⟩⟩⟩⟩⟩⟩⟩⟩⟩⟩⟩⟩⟩⟩
theorem lw_p32 : lw_okq (⟨"TurningPlansModel", "passesAll", "(II)Z"⟩, 32) := ⟨⟨by decide +kernel, by decide +kernel⟩, List.mem_of_getElem? (i := 449) (by decide +kernel), List.mem_of_getElem? (i := 679) (by decide +kernel), List.mem_of_getElem? (i := 680) (by decide +kernel)⟩
theorem lw_p33 : lw_okq (⟨"TurningPlansModel", "costOf", "(II)I"⟩, 32) := ⟨⟨by decide +kernel, by decide +kernel⟩, List.mem_of_getElem? (i := 449) (by decide +kernel), List.mem_of_getElem? (i := 687) (by decide +kernel), List.mem_of_getElem? (i := 688) (by decide +kernel)⟩
def lw_privs_3 : List (MethodName × Nat) := [(⟨"TurningPlansModel", "passesAll", "(II)Z"⟩, 32), (⟨"TurningPlansModel", "costOf", "(II)I"⟩, 32)]
theorem lw_r3 : ∀ q ∈ lw_privs_3, lw_okq q := List.forall_mem_cons.mpr ⟨lw_p32, List.forall_mem_cons.mpr ⟨lw_p33, fun _ h => absurd h List.not_mem_nil⟩⟩
def lw_privs : List (MethodName × Nat) := lw_privs_1 ++ (lw_privs_2 ++ (lw_privs_3))
def lw_tbl : List Cond := k2_sels lw_privs ++ tables_1
theorem lw_privs_ok : ∀ q ∈ lw_privs, lw_okq q := by
  show ∀ q ∈ lw_privs_1 ++ (lw_privs_2 ++ (lw_privs_3)), lw_okq q
  exact List.forall_mem_append.mpr ⟨lw_r1, List.forall_mem_append.mpr ⟨lw_r2, lw_r3⟩⟩
end
section
def RX0 : String := "TurningPlans$Memory"
def TX0 : u_T := fun k => match k with
  | 0 => ("TurningPlans$Memory", "rows", "[I", true)
  | 1 => ("TurningPlans$Memory", "holds", "I", false)
  | 2 => ("TurningPlans$Memory", "taken", "I", false)
  | _ => ("TurningPlans$Memory", "spilled", "I", false)
def tyX0 : Nat → FieldType := fun k => match k with
  | 0 => .array .int
  | 1 => .int
  | 2 => .int
  | _ => .int
abbrev wsX00 : List Cond := u_ws RX0 TX0 4
theorem nmX0 : ∀ a, a < 4 → ∀ b, b < 4 → a ≠ b → (TX0 a).2.1 ≠ (TX0 b).2.1 := by decide +kernel
theorem tyX0_ok : ∀ k, k < 4 → parseFieldDescriptor (TX0 k).2.2.1 = some (tyX0 k) := by decide +kernel
abbrev cX0_init : ByteArray := prog_2_method_1_code
def yX0_init : MethodName := ⟨RX0, "<init>", "()V"⟩
abbrev cX0_empty : ByteArray := prog_2_method_2_code
def yX0_empty : MethodName := ⟨RX0, "empty", "()V"⟩
abbrev cX0_size : ByteArray := prog_2_method_3_code
def yX0_size : MethodName := ⟨RX0, "size", "()I"⟩
abbrev cX0_take : ByteArray := prog_2_method_4_code
def yX0_take : MethodName := ⟨RX0, "take", "(II)V"⟩
abbrev cX0_tableAt : ByteArray := prog_2_method_5_code
def yX0_tableAt : MethodName := ⟨RX0, "tableAt", "(I)I"⟩
abbrev cX0_rowAt : ByteArray := prog_2_method_6_code
def yX0_rowAt : MethodName := ⟨RX0, "rowAt", "(I)I"⟩
def RX1 : String := "TurningPlans$Pairs"
def TX1 : u_T := fun k => match k with
  | 0 => ("TurningPlans$Pairs", "list", "[I", true)
  | 1 => ("TurningPlans$Pairs", "isGiven", "[Z", true)
  | _ => ("TurningPlans$Pairs", "size", "I", false)
def tyX1 : Nat → FieldType := fun k => match k with
  | 0 => .array .int
  | 1 => .array .boolean
  | _ => .int
abbrev wsX10 : List Cond := u_ws RX1 TX1 3
theorem nmX1 : ∀ a, a < 3 → ∀ b, b < 3 → a ≠ b → (TX1 a).2.1 ≠ (TX1 b).2.1 := by decide +kernel
theorem tyX1_ok : ∀ k, k < 3 → parseFieldDescriptor (TX1 k).2.2.1 = some (tyX1 k) := by decide +kernel
abbrev cX1_init : ByteArray := prog_3_method_1_code
def yX1_init : MethodName := ⟨RX1, "<init>", "()V"⟩
abbrev cX1_empty : ByteArray := prog_3_method_2_code
def yX1_empty : MethodName := ⟨RX1, "empty", "()V"⟩
abbrev cX1_give : ByteArray := prog_3_method_3_code
def yX1_give : MethodName := ⟨RX1, "give", "(II)V"⟩
abbrev cX1_has : ByteArray := prog_3_method_4_code
def yX1_has : MethodName := ⟨RX1, "has", "(II)Z"⟩
abbrev cX1_rowOf : ByteArray := prog_3_method_5_code
def yX1_rowOf : MethodName := ⟨RX1, "rowOf", "(II)I"⟩
def RX2 : String := "TurningPlans$Scan"
def TX2 : u_T := fun k => match k with
  | 0 => ("TurningPlans$Scan", "table", "LTurningPlans$Table;", true)
  | 1 => ("TurningPlans$Scan", "places", "[I", true)
  | 2 => ("TurningPlans$Scan", "tried", "[I", true)
  | 3 => ("TurningPlans$Scan", "failed", "[I", true)
  | 4 => ("TurningPlans$Scan", "testOrder", "[I", true)
  | 5 => ("TurningPlans$Scan", "newOrder", "[I", true)
  | 6 => ("TurningPlans$Scan", "failedTests", "[I", true)
  | 7 => ("TurningPlans$Scan", "leastCost", "[I", true)
  | 8 => ("TurningPlans$Scan", "testCount", "I", false)
  | 9 => ("TurningPlans$Scan", "orderIsForced", "Z", false)
  | 10 => ("TurningPlans$Scan", "readRows", "I", false)
  | 11 => ("TurningPlans$Scan", "testCost", "I", false)
  | _ => ("TurningPlans$Scan", "pairsGiven", "I", false)
def tyX2 : Nat → FieldType := fun k => match k with
  | 0 => .object "TurningPlans$Table"
  | 1 => .array .int
  | 2 => .array .int
  | 3 => .array .int
  | 4 => .array .int
  | 5 => .array .int
  | 6 => .array .int
  | 7 => .array .int
  | 8 => .int
  | 9 => .boolean
  | 10 => .int
  | 11 => .int
  | _ => .int
abbrev wsX20 : List Cond := u_ws RX2 TX2 13
theorem nmX2 : ∀ a, a < 13 → ∀ b, b < 13 → a ≠ b → (TX2 a).2.1 ≠ (TX2 b).2.1 := by decide +kernel
theorem tyX2_ok : ∀ k, k < 13 → parseFieldDescriptor (TX2 k).2.2.1 = some (tyX2 k) := by decide +kernel
abbrev cX2_init : ByteArray := prog_4_method_1_code
def yX2_init : MethodName := ⟨RX2, "<init>", "(LTurningPlans$Table;)V"⟩
abbrev cX2_begin : ByteArray := prog_4_method_2_code
def yX2_begin : MethodName := ⟨RX2, "begin", "()V"⟩
abbrev cX2_isReadOut : ByteArray := prog_4_method_3_code
def yX2_isReadOut : MethodName := ⟨RX2, "isReadOut", "()Z"⟩
abbrev cX2_hasPassed : ByteArray := prog_4_method_4_code
def yX2_hasPassed : MethodName := ⟨RX2, "hasPassed", "(I)Z"⟩
abbrev cX2_wholeCost : ByteArray := prog_4_method_5_code
def yX2_wholeCost : MethodName := ⟨RX2, "wholeCost", "()I"⟩
abbrev cX2_gainsMoreThan : ByteArray := prog_4_method_6_code
def yX2_gainsMoreThan : MethodName := ⟨RX2, "gainsMoreThan", "(LTurningPlans$Scan;)Z"⟩
abbrev cX2_tryTests : ByteArray := prog_4_method_7_code
def yX2_tryTests : MethodName := ⟨RX2, "tryTests", "(I)Z"⟩
abbrev cX2_isAtPoint : ByteArray := prog_4_method_8_code
def yX2_isAtPoint : MethodName := ⟨RX2, "isAtPoint", "()Z"⟩
abbrev cX2_turnOrder : ByteArray := prog_4_method_9_code
def yX2_turnOrder : MethodName := ⟨RX2, "turnOrder", "()Z"⟩
abbrev cX2_forceOrder : ByteArray := prog_4_method_10_code
def yX2_forceOrder : MethodName := ⟨RX2, "forceOrder", "(I)Z"⟩
abbrev cX2_sortIntoNewOrder : ByteArray := prog_4_method_11_code
def yX2_sortIntoNewOrder : MethodName := ⟨RX2, "sortIntoNewOrder", "()V"⟩
abbrev cX2_isCheaperToFail : ByteArray := prog_4_method_12_code
def yX2_isCheaperToFail : MethodName := ⟨RX2, "isCheaperToFail", "(II)Z"⟩
abbrev cX2_readIntoNewOrder : ByteArray := prog_4_method_13_code
def yX2_readIntoNewOrder : MethodName := ⟨RX2, "readIntoNewOrder", "(I)Z"⟩
abbrev cX2_takeNewOrder : ByteArray := prog_4_method_14_code
def yX2_takeNewOrder : MethodName := ⟨RX2, "takeNewOrder", "()Z"⟩
abbrev cX2_cheapestFixedOrder : ByteArray := prog_4_method_15_code
def yX2_cheapestFixedOrder : MethodName := ⟨RX2, "cheapestFixedOrder", "()I"⟩
abbrev cX2_findFailedTests : ByteArray := prog_4_method_16_code
def yX2_findFailedTests : MethodName := ⟨RX2, "findFailedTests", "()V"⟩
abbrev cX2_rowsThatPass : ByteArray := prog_4_method_17_code
def yX2_rowsThatPass : MethodName := ⟨RX2, "rowsThatPass", "(I)I"⟩
def RX3 : String := "TurningPlans$Table"
def TX3 : u_T := fun k => match k with
  | 0 => ("TurningPlans$Table", "cells", "[I", true)
  | 1 => ("TurningPlans$Table", "columns", "[I", true)
  | 2 => ("TurningPlans$Table", "kinds", "[I", true)
  | 3 => ("TurningPlans$Table", "bounds", "[I", true)
  | 4 => ("TurningPlans$Table", "prices", "[I", true)
  | 5 => ("TurningPlans$Table", "rowCount", "I", false)
  | _ => ("TurningPlans$Table", "testCount", "I", false)
def tyX3 : Nat → FieldType := fun k => match k with
  | 0 => .array .int
  | 1 => .array .int
  | 2 => .array .int
  | 3 => .array .int
  | 4 => .array .int
  | 5 => .int
  | _ => .int
abbrev wsX30 : List Cond := u_ws RX3 TX3 7
theorem nmX3 : ∀ a, a < 7 → ∀ b, b < 7 → a ≠ b → (TX3 a).2.1 ≠ (TX3 b).2.1 := by decide +kernel
theorem tyX3_ok : ∀ k, k < 7 → parseFieldDescriptor (TX3 k).2.2.1 = some (tyX3 k) := by decide +kernel
abbrev cX3_init : ByteArray := prog_5_method_1_code
def yX3_init : MethodName := ⟨RX3, "<init>", "()V"⟩
abbrev cX3_addRow : ByteArray := prog_5_method_2_code
def yX3_addRow : MethodName := ⟨RX3, "addRow", "(III)I"⟩
abbrev cX3_addTest : ByteArray := prog_5_method_3_code
def yX3_addTest : MethodName := ⟨RX3, "addTest", "(IIII)I"⟩
abbrev cX3_valueAt : ByteArray := prog_5_method_4_code
def yX3_valueAt : MethodName := ⟨RX3, "valueAt", "(II)I"⟩
abbrev cX3_passes : ByteArray := prog_5_method_5_code
def yX3_passes : MethodName := ⟨RX3, "passes", "(II)Z"⟩
abbrev cX3_passesAll : ByteArray := prog_5_method_6_code
def yX3_passesAll : MethodName := ⟨RX3, "passesAll", "(I)Z"⟩
def RX4 : String := "TurningPlans"
def TX4 : u_T := fun k => match k with
  | 0 => ("TurningPlans", "tables", "[LTurningPlans$Table;", true)
  | 1 => ("TurningPlans", "scans", "[LTurningPlans$Scan;", true)
  | 2 => ("TurningPlans", "joinColumns", "[I", true)
  | 3 => ("TurningPlans", "kept", "LTurningPlans$Memory;", true)
  | 4 => ("TurningPlans", "pairs", "LTurningPlans$Pairs;", true)
  | 5 => ("TurningPlans", "passingByValue", "[I", true)
  | 6 => ("TurningPlans", "askState", "I", false)
  | 7 => ("TurningPlans", "forcedTable", "I", false)
  | 8 => ("TurningPlans", "lastReadTable", "I", false)
  | 9 => ("TurningPlans", "wentOver", "I", false)
  | 10 => ("TurningPlans", "turnedOrders", "I", false)
  | 11 => ("TurningPlans", "latePairCost", "I", false)
  | 12 => ("TurningPlans", "lateRow0", "I", false)
  | _ => ("TurningPlans", "lateRow1", "I", false)
def tyX4 : Nat → FieldType := fun k => match k with
  | 0 => .array (.object "TurningPlans$Table")
  | 1 => .array (.object "TurningPlans$Scan")
  | 2 => .array .int
  | 3 => .object "TurningPlans$Memory"
  | 4 => .object "TurningPlans$Pairs"
  | 5 => .array .int
  | 6 => .int
  | 7 => .int
  | 8 => .int
  | 9 => .int
  | 10 => .int
  | 11 => .int
  | 12 => .int
  | _ => .int
abbrev wsX40 : List Cond := u_ws RX4 TX4 14
theorem nmX4 : ∀ a, a < 14 → ∀ b, b < 14 → a ≠ b → (TX4 a).2.1 ≠ (TX4 b).2.1 := by decide +kernel
theorem tyX4_ok : ∀ k, k < 14 → parseFieldDescriptor (TX4 k).2.2.1 = some (tyX4 k) := by decide +kernel
abbrev cX4_init : ByteArray := prog_1_method_1_code
def yX4_init : MethodName := ⟨RX4, "<init>", "()V"⟩
abbrev cX4_row : ByteArray := prog_1_method_2_code
def yX4_row : MethodName := ⟨RX4, "row", "(IIII)I"⟩
abbrev cX4_test : ByteArray := prog_1_method_3_code
def yX4_test : MethodName := ⟨RX4, "test", "(III)I"⟩
abbrev cX4_join : ByteArray := prog_1_method_4_code
def yX4_join : MethodName := ⟨RX4, "join", "(II)Z"⟩
abbrev cX4_ask : ByteArray := prog_1_method_5_code
def yX4_ask : MethodName := ⟨RX4, "ask", "()Z"⟩
abbrev cX4_stop : ByteArray := prog_1_method_6_code
def yX4_stop : MethodName := ⟨RX4, "stop", "()Z"⟩
abbrev cX4_go : ByteArray := prog_1_method_7_code
def yX4_go : MethodName := ⟨RX4, "go", "(I)I"⟩
abbrev cX4_memory : ByteArray := prog_1_method_8_code
def yX4_memory : MethodName := ⟨RX4, "memory", "(I)Z"⟩
abbrev cX4_force : ByteArray := prog_1_method_9_code
def yX4_force : MethodName := ⟨RX4, "force", "(I)Z"⟩
abbrev cX4_order : ByteArray := prog_1_method_10_code
def yX4_order : MethodName := ⟨RX4, "order", "(II)Z"⟩
abbrev cX4_ordered : ByteArray := prog_1_method_11_code
def yX4_ordered : MethodName := ⟨RX4, "ordered", "(II)I"⟩
abbrev cX4_told : ByteArray := prog_1_method_12_code
def yX4_told : MethodName := ⟨RX4, "told", "(III)I"⟩
abbrev cX4_given : ByteArray := prog_1_method_13_code
def yX4_given : MethodName := ⟨RX4, "given", "(II)I"⟩
abbrev cX4_where : ByteArray := prog_1_method_14_code
def yX4_where : MethodName := ⟨RX4, "where", "(II)I"⟩
abbrev cX4_sum : ByteArray := prog_1_method_15_code
def yX4_sum : MethodName := ⟨RX4, "sum", "(II)I"⟩
abbrev cX4_plain : ByteArray := prog_1_method_16_code
def yX4_plain : MethodName := ⟨RX4, "plain", "()I"⟩
abbrev cX4_fixed : ByteArray := prog_1_method_17_code
def yX4_fixed : MethodName := ⟨RX4, "fixed", "(I)I"⟩
abbrev cX4_cost : ByteArray := prog_1_method_18_code
def yX4_cost : MethodName := ⟨RX4, "cost", "(I)I"⟩
abbrev cX4_count : ByteArray := prog_1_method_19_code
def yX4_count : MethodName := ⟨RX4, "count", "(I)I"⟩
abbrev cX4_isTable : ByteArray := prog_1_method_20_code
def yX4_isTable : MethodName := ⟨RX4, "isTable", "(I)Z"⟩
abbrev cX4_isColumn : ByteArray := prog_1_method_21_code
def yX4_isColumn : MethodName := ⟨RX4, "isColumn", "(I)Z"⟩
abbrev cX4_isValue : ByteArray := prog_1_method_22_code
def yX4_isValue : MethodName := ⟨RX4, "isValue", "(I)Z"⟩
abbrev cX4_joinValue : ByteArray := prog_1_method_23_code
def yX4_joinValue : MethodName := ⟨RX4, "joinValue", "(II)I"⟩
abbrev cX4_makeStep : ByteArray := prog_1_method_24_code
def yX4_makeStep : MethodName := ⟨RX4, "makeStep", "()V"⟩
abbrev cX4_bothAreReadOut : ByteArray := prog_1_method_25_code
def yX4_bothAreReadOut : MethodName := ⟨RX4, "bothAreReadOut", "()Z"⟩
abbrev cX4_tableToRead : ByteArray := prog_1_method_26_code
def yX4_tableToRead : MethodName := ⟨RX4, "tableToRead", "()I"⟩
abbrev cX4_readFrom : ByteArray := prog_1_method_27_code
def yX4_readFrom : MethodName := ⟨RX4, "readFrom", "(I)V"⟩
abbrev cX4_givePairsOf : ByteArray := prog_1_method_28_code
def yX4_givePairsOf : MethodName := ⟨RX4, "givePairsOf", "(II)V"⟩
abbrev cX4_spillExcess : ByteArray := prog_1_method_29_code
def yX4_spillExcess : MethodName := ⟨RX4, "spillExcess", "()V"⟩
abbrev cX4_giveLatePair : ByteArray := prog_1_method_30_code
def yX4_giveLatePair : MethodName := ⟨RX4, "giveLatePair", "()V"⟩
abbrev cX4_endIfNothingIsLeft : ByteArray := prog_1_method_31_code
def yX4_endIfNothingIsLeft : MethodName := ⟨RX4, "endIfNothingIsLeft", "()V"⟩
abbrev cX4_findLatePair : ByteArray := prog_1_method_32_code
def yX4_findLatePair : MethodName := ⟨RX4, "findLatePair", "()Z"⟩
abbrev cX4_findLateRow1 : ByteArray := prog_1_method_33_code
def yX4_findLateRow1 : MethodName := ⟨RX4, "findLateRow1", "()Z"⟩
def RX5 : String := "TurningPlansModel"
def TX5 : u_T := fun k => match k with
  | 0 => ("TurningPlansModel", "rows", "[I", true)
  | 1 => ("TurningPlansModel", "cells", "[I", true)
  | 2 => ("TurningPlansModel", "tests", "[I", true)
  | 3 => ("TurningPlansModel", "column", "[I", true)
  | 4 => ("TurningPlansModel", "kind", "[I", true)
  | 5 => ("TurningPlansModel", "bound", "[I", true)
  | 6 => ("TurningPlansModel", "price", "[I", true)
  | 7 => ("TurningPlansModel", "joins", "[I", true)
  | 8 => ("TurningPlansModel", "holds", "I", false)
  | 9 => ("TurningPlansModel", "forced", "I", false)
  | 10 => ("TurningPlansModel", "state", "I", false)
  | 11 => ("TurningPlansModel", "wasAsked", "Z", false)
  | 12 => ("TurningPlansModel", "askTests", "[I", true)
  | 13 => ("TurningPlansModel", "read", "[I", true)
  | 14 => ("TurningPlansModel", "order", "[I", true)
  | 15 => ("TurningPlansModel", "isForced", "[Z", true)
  | 16 => ("TurningPlansModel", "tried", "[I", true)
  | 17 => ("TurningPlansModel", "failed", "[I", true)
  | 18 => ("TurningPlansModel", "testCost", "[I", true)
  | 19 => ("TurningPlansModel", "readCost", "[I", true)
  | 20 => ("TurningPlansModel", "gave", "[I", true)
  | 21 => ("TurningPlansModel", "place", "[I", true)
  | 22 => ("TurningPlansModel", "cameAs", "[I", true)
  | 23 => ("TurningPlansModel", "comings", "I", false)
  | 24 => ("TurningPlansModel", "isGiven", "[Z", true)
  | 25 => ("TurningPlansModel", "given", "[I", true)
  | 26 => ("TurningPlansModel", "givenMany", "I", false)
  | 27 => ("TurningPlansModel", "cost", "I", false)
  | 28 => ("TurningPlansModel", "spilt", "I", false)
  | 29 => ("TurningPlansModel", "lastTable", "I", false)
  | 30 => ("TurningPlansModel", "changes", "I", false)
  | _ => ("TurningPlansModel", "turns", "I", false)
def tyX5 : Nat → FieldType := fun k => match k with
  | 0 => .array .int
  | 1 => .array .int
  | 2 => .array .int
  | 3 => .array .int
  | 4 => .array .int
  | 5 => .array .int
  | 6 => .array .int
  | 7 => .array .int
  | 8 => .int
  | 9 => .int
  | 10 => .int
  | 11 => .boolean
  | 12 => .array .int
  | 13 => .array .int
  | 14 => .array .int
  | 15 => .array .boolean
  | 16 => .array .int
  | 17 => .array .int
  | 18 => .array .int
  | 19 => .array .int
  | 20 => .array .int
  | 21 => .array .int
  | 22 => .array .int
  | 23 => .int
  | 24 => .array .boolean
  | 25 => .array .int
  | 26 => .int
  | 27 => .int
  | 28 => .int
  | 29 => .int
  | 30 => .int
  | _ => .int
abbrev wsX50 : List Cond := u_ws RX5 TX5 32
theorem nmX5 : ∀ a, a < 32 → ∀ b, b < 32 → a ≠ b → (TX5 a).2.1 ≠ (TX5 b).2.1 := by decide +kernel
theorem tyX5_ok : ∀ k, k < 32 → parseFieldDescriptor (TX5 k).2.2.1 = some (tyX5 k) := by decide +kernel
abbrev cX5_init : ByteArray := prog_7_method_1_code
def yX5_init : MethodName := ⟨RX5, "<init>", "()V"⟩
abbrev cX5_in : ByteArray := prog_7_method_2_code
def yX5_in : MethodName := ⟨RX5, "in", "(III)Z"⟩
abbrev cX5_isTable : ByteArray := prog_7_method_3_code
def yX5_isTable : MethodName := ⟨RX5, "isTable", "(I)Z"⟩
abbrev cX5_cell : ByteArray := prog_7_method_4_code
def yX5_cell : MethodName := ⟨RX5, "cell", "(III)I"⟩
abbrev cX5_row : ByteArray := prog_7_method_5_code
def yX5_row : MethodName := ⟨RX5, "row", "(IIII)I"⟩
abbrev cX5_test : ByteArray := prog_7_method_6_code
def yX5_test : MethodName := ⟨RX5, "test", "(III)I"⟩
abbrev cX5_join : ByteArray := prog_7_method_7_code
def yX5_join : MethodName := ⟨RX5, "join", "(II)Z"⟩
abbrev cX5_passes : ByteArray := prog_7_method_8_code
def yX5_passes : MethodName := ⟨RX5, "passes", "(III)Z"⟩
abbrev cX5_isAlike : ByteArray := prog_7_method_9_code
def yX5_isAlike : MethodName := ⟨RX5, "isAlike", "(II)Z"⟩
abbrev cX5_ask : ByteArray := prog_7_method_10_code
def yX5_ask : MethodName := ⟨RX5, "ask", "()Z"⟩
abbrev cX5_stop : ByteArray := prog_7_method_11_code
def yX5_stop : MethodName := ⟨RX5, "stop", "()Z"⟩
abbrev cX5_isReadOut : ByteArray := prog_7_method_12_code
def yX5_isReadOut : MethodName := ⟨RX5, "isReadOut", "(I)Z"⟩
abbrev cX5_lacking : ByteArray := prog_7_method_13_code
def yX5_lacking : MethodName := ⟨RX5, "lacking", "()I"⟩
abbrev cX5_ends : ByteArray := prog_7_method_14_code
def yX5_ends : MethodName := ⟨RX5, "ends", "()V"⟩
abbrev cX5_gives : ByteArray := prog_7_method_15_code
def yX5_gives : MethodName := ⟨RX5, "gives", "(II)V"⟩
abbrev cX5_choose : ByteArray := prog_7_method_16_code
def yX5_choose : MethodName := ⟨RX5, "choose", "()I"⟩
abbrev cX5_nextIn : ByteArray := prog_7_method_17_code
def yX5_nextIn : MethodName := ⟨RX5, "nextIn", "(II)I"⟩
abbrev cX5_reads : ByteArray := prog_7_method_18_code
def yX5_reads : MethodName := ⟨RX5, "reads", "(I)V"⟩
abbrev cX5_finds : ByteArray := prog_7_method_19_code
def yX5_finds : MethodName := ⟨RX5, "finds", "(II)I"⟩
abbrev cX5_inMemory : ByteArray := prog_7_method_20_code
def yX5_inMemory : MethodName := ⟨RX5, "inMemory", "()I"⟩
abbrev cX5_spills : ByteArray := prog_7_method_21_code
def yX5_spills : MethodName := ⟨RX5, "spills", "()V"⟩
abbrev cX5_isCheaper : ByteArray := prog_7_method_22_code
def yX5_isCheaper : MethodName := ⟨RX5, "isCheaper", "(III)Z"⟩
abbrev cX5_turns : ByteArray := prog_7_method_23_code
def yX5_turns : MethodName := ⟨RX5, "turns", "(I)V"⟩
abbrev cX5_go : ByteArray := prog_7_method_24_code
def yX5_go : MethodName := ⟨RX5, "go", "(I)I"⟩
abbrev cX5_memory : ByteArray := prog_7_method_25_code
def yX5_memory : MethodName := ⟨RX5, "memory", "(I)Z"⟩
abbrev cX5_force : ByteArray := prog_7_method_26_code
def yX5_force : MethodName := ⟨RX5, "force", "(I)Z"⟩
abbrev cX5_order : ByteArray := prog_7_method_27_code
def yX5_order : MethodName := ⟨RX5, "order", "(II)Z"⟩
abbrev cX5_ordered : ByteArray := prog_7_method_28_code
def yX5_ordered : MethodName := ⟨RX5, "ordered", "(II)I"⟩
abbrev cX5_told : ByteArray := prog_7_method_29_code
def yX5_told : MethodName := ⟨RX5, "told", "(III)I"⟩
abbrev cX5_given : ByteArray := prog_7_method_30_code
def yX5_given : MethodName := ⟨RX5, "given", "(II)I"⟩
abbrev cX5_where : ByteArray := prog_7_method_31_code
def yX5_where : MethodName := ⟨RX5, "where", "(II)I"⟩
abbrev cX5_sum : ByteArray := prog_7_method_32_code
def yX5_sum : MethodName := ⟨RX5, "sum", "(II)I"⟩
abbrev cX5_passesAll : ByteArray := prog_7_method_33_code
def yX5_passesAll : MethodName := ⟨RX5, "passesAll", "(II)Z"⟩
abbrev cX5_plain : ByteArray := prog_7_method_34_code
def yX5_plain : MethodName := ⟨RX5, "plain", "()I"⟩
abbrev cX5_costOf : ByteArray := prog_7_method_35_code
def yX5_costOf : MethodName := ⟨RX5, "costOf", "(II)I"⟩
abbrev cX5_fixed : ByteArray := prog_7_method_36_code
def yX5_fixed : MethodName := ⟨RX5, "fixed", "(I)I"⟩
abbrev cX5_cost : ByteArray := prog_7_method_37_code
def yX5_cost : MethodName := ⟨RX5, "cost", "(I)I"⟩
abbrev cX5_count : ByteArray := prog_7_method_38_code
def yX5_count : MethodName := ⟨RX5, "count", "(I)I"⟩
def RJ9 : String := "java/lang/Math"
abbrev cJ9_min_7cf53 : ByteArray := prog_8_method_69_code
def yJ9_min_7cf53 : MethodName := ⟨RJ9, "min", "(II)I"⟩
def RJ7 : String := "java/util/Arrays"
abbrev cJ7_fill_53178 : ByteArray := prog_9_method_103_code
def yJ7_fill_53178 : MethodName := ⟨RJ7, "fill", "([II)V"⟩
def RL : String := "TurningPlansLaw"
abbrev cL_law : ByteArray := code
def yL_law : MethodName := ⟨RL, "law", "([I)Z"⟩
abbrev vwCl : List vw_C := [(RX0, TX0, 4), (RX1, TX1, 3), (RX2, TX2, 13), (RX3, TX3, 7), (RX4, TX4, 14), (RX5, TX5, 32)]
end
section
theorem dX5_init_0 : decode cX5_init 0 = .ok (.aload_n 0, 1) := by decide +kernel
theorem dX5_init_1 : decode cX5_init 1 = .ok (.invokespecial 1, 3) := by decide +kernel
theorem dX5_init_4 : decode cX5_init 4 = .ok (.aload_n 0, 1) := by decide +kernel
theorem dX5_init_5 : decode cX5_init 5 = .ok (.iconst 2, 1) := by decide +kernel
theorem dX5_init_6 : decode cX5_init 6 = .ok (.newarray .int, 2) := by decide +kernel
theorem dX5_init_8 : decode cX5_init 8 = .ok (.putfield 7, 3) := by decide +kernel
theorem dX5_init_11 : decode cX5_init 11 = .ok (.aload_n 0, 1) := by decide +kernel
theorem dX5_init_12 : decode cX5_init 12 = .ok (.sipush 300, 3) := by decide +kernel
theorem dX5_init_15 : decode cX5_init 15 = .ok (.newarray .int, 2) := by decide +kernel
theorem dX5_init_17 : decode cX5_init 17 = .ok (.putfield 13, 3) := by decide +kernel
theorem dX5_init_20 : decode cX5_init 20 = .ok (.aload_n 0, 1) := by decide +kernel
theorem dX5_init_21 : decode cX5_init 21 = .ok (.iconst 2, 1) := by decide +kernel
theorem dX5_init_22 : decode cX5_init 22 = .ok (.newarray .int, 2) := by decide +kernel
theorem dX5_init_24 : decode cX5_init 24 = .ok (.putfield 16, 3) := by decide +kernel
theorem dX5_init_27 : decode cX5_init 27 = .ok (.aload_n 0, 1) := by decide +kernel
theorem dX5_init_28 : decode cX5_init 28 = .ok (.bipush 8, 2) := by decide +kernel
theorem dX5_init_30 : decode cX5_init 30 = .ok (.newarray .int, 2) := by decide +kernel
theorem dX5_init_32 : decode cX5_init 32 = .ok (.putfield 19, 3) := by decide +kernel
theorem dX5_init_35 : decode cX5_init 35 = .ok (.aload_n 0, 1) := by decide +kernel
theorem dX5_init_36 : decode cX5_init 36 = .ok (.bipush 8, 2) := by decide +kernel
theorem dX5_init_38 : decode cX5_init 38 = .ok (.newarray .int, 2) := by decide +kernel
theorem dX5_init_40 : decode cX5_init 40 = .ok (.putfield 22, 3) := by decide +kernel
theorem dX5_init_43 : decode cX5_init 43 = .ok (.aload_n 0, 1) := by decide +kernel
theorem dX5_init_44 : decode cX5_init 44 = .ok (.bipush 8, 2) := by decide +kernel
theorem dX5_init_46 : decode cX5_init 46 = .ok (.newarray .int, 2) := by decide +kernel
theorem dX5_init_48 : decode cX5_init 48 = .ok (.putfield 25, 3) := by decide +kernel
theorem dX5_init_51 : decode cX5_init 51 = .ok (.aload_n 0, 1) := by decide +kernel
theorem dX5_init_52 : decode cX5_init 52 = .ok (.bipush 8, 2) := by decide +kernel
theorem dX5_init_54 : decode cX5_init 54 = .ok (.newarray .int, 2) := by decide +kernel
theorem dX5_init_56 : decode cX5_init 56 = .ok (.putfield 28, 3) := by decide +kernel
theorem dX5_init_59 : decode cX5_init 59 = .ok (.aload_n 0, 1) := by decide +kernel
theorem dX5_init_60 : decode cX5_init 60 = .ok (.iconst 2, 1) := by decide +kernel
theorem dX5_init_61 : decode cX5_init 61 = .ok (.newarray .int, 2) := by decide +kernel
theorem dX5_init_63 : decode cX5_init 63 = .ok (.putfield 31, 3) := by decide +kernel
theorem dX5_init_66 : decode cX5_init 66 = .ok (.aload_n 0, 1) := by decide +kernel
theorem dX5_init_67 : decode cX5_init 67 = .ok (.bipush 100, 2) := by decide +kernel
theorem dX5_init_69 : decode cX5_init 69 = .ok (.putfield 34, 3) := by decide +kernel
theorem dX5_init_72 : decode cX5_init 72 = .ok (.aload_n 0, 1) := by decide +kernel
theorem dX5_init_73 : decode cX5_init 73 = .ok (.iconst (-1), 1) := by decide +kernel
theorem dX5_init_74 : decode cX5_init 74 = .ok (.putfield 38, 3) := by decide +kernel
theorem dX5_init_77 : decode cX5_init 77 = .ok (.aload_n 0, 1) := by decide +kernel
theorem dX5_init_78 : decode cX5_init 78 = .ok (.iconst 2, 1) := by decide +kernel
theorem dX5_init_79 : decode cX5_init 79 = .ok (.newarray .int, 2) := by decide +kernel
theorem dX5_init_81 : decode cX5_init 81 = .ok (.putfield 41, 3) := by decide +kernel
theorem dX5_init_84 : decode cX5_init 84 = .ok (.aload_n 0, 1) := by decide +kernel
theorem dX5_init_85 : decode cX5_init 85 = .ok (.iconst 2, 1) := by decide +kernel
theorem dX5_init_86 : decode cX5_init 86 = .ok (.newarray .int, 2) := by decide +kernel
theorem dX5_init_88 : decode cX5_init 88 = .ok (.putfield 44, 3) := by decide +kernel
theorem dX5_init_91 : decode cX5_init 91 = .ok (.aload_n 0, 1) := by decide +kernel
theorem dX5_init_92 : decode cX5_init 92 = .ok (.bipush 8, 2) := by decide +kernel
theorem dX5_init_94 : decode cX5_init 94 = .ok (.newarray .int, 2) := by decide +kernel
theorem dX5_init_96 : decode cX5_init 96 = .ok (.putfield 47, 3) := by decide +kernel
theorem dX5_init_99 : decode cX5_init 99 = .ok (.aload_n 0, 1) := by decide +kernel
theorem dX5_init_100 : decode cX5_init 100 = .ok (.iconst 2, 1) := by decide +kernel
theorem dX5_init_101 : decode cX5_init 101 = .ok (.newarray .boolean, 2) := by decide +kernel
theorem dX5_init_103 : decode cX5_init 103 = .ok (.putfield 50, 3) := by decide +kernel
theorem dX5_init_106 : decode cX5_init 106 = .ok (.aload_n 0, 1) := by decide +kernel
theorem dX5_init_107 : decode cX5_init 107 = .ok (.bipush 8, 2) := by decide +kernel
theorem dX5_init_109 : decode cX5_init 109 = .ok (.newarray .int, 2) := by decide +kernel
theorem dX5_init_111 : decode cX5_init 111 = .ok (.putfield 54, 3) := by decide +kernel
theorem dX5_init_114 : decode cX5_init 114 = .ok (.aload_n 0, 1) := by decide +kernel
theorem dX5_init_115 : decode cX5_init 115 = .ok (.bipush 8, 2) := by decide +kernel
theorem dX5_init_117 : decode cX5_init 117 = .ok (.newarray .int, 2) := by decide +kernel
theorem dX5_init_119 : decode cX5_init 119 = .ok (.putfield 57, 3) := by decide +kernel
theorem dX5_init_122 : decode cX5_init 122 = .ok (.aload_n 0, 1) := by decide +kernel
theorem dX5_init_123 : decode cX5_init 123 = .ok (.iconst 2, 1) := by decide +kernel
theorem dX5_init_124 : decode cX5_init 124 = .ok (.newarray .int, 2) := by decide +kernel
theorem dX5_init_126 : decode cX5_init 126 = .ok (.putfield 60, 3) := by decide +kernel
theorem dX5_init_129 : decode cX5_init 129 = .ok (.aload_n 0, 1) := by decide +kernel
theorem dX5_init_130 : decode cX5_init 130 = .ok (.iconst 2, 1) := by decide +kernel
theorem dX5_init_131 : decode cX5_init 131 = .ok (.newarray .int, 2) := by decide +kernel
theorem dX5_init_133 : decode cX5_init 133 = .ok (.putfield 63, 3) := by decide +kernel
theorem dX5_init_136 : decode cX5_init 136 = .ok (.aload_n 0, 1) := by decide +kernel
theorem dX5_init_137 : decode cX5_init 137 = .ok (.iconst 2, 1) := by decide +kernel
theorem dX5_init_138 : decode cX5_init 138 = .ok (.newarray .int, 2) := by decide +kernel
theorem dX5_init_140 : decode cX5_init 140 = .ok (.putfield 66, 3) := by decide +kernel
theorem dX5_init_143 : decode cX5_init 143 = .ok (.aload_n 0, 1) := by decide +kernel
theorem dX5_init_144 : decode cX5_init 144 = .ok (.bipush 100, 2) := by decide +kernel
theorem dX5_init_146 : decode cX5_init 146 = .ok (.newarray .int, 2) := by decide +kernel
theorem dX5_init_148 : decode cX5_init 148 = .ok (.putfield 69, 3) := by decide +kernel
theorem dX5_init_151 : decode cX5_init 151 = .ok (.aload_n 0, 1) := by decide +kernel
theorem dX5_init_152 : decode cX5_init 152 = .ok (.bipush 100, 2) := by decide +kernel
theorem dX5_init_154 : decode cX5_init 154 = .ok (.newarray .int, 2) := by decide +kernel
theorem dX5_init_156 : decode cX5_init 156 = .ok (.putfield 72, 3) := by decide +kernel
theorem dX5_init_159 : decode cX5_init 159 = .ok (.aload_n 0, 1) := by decide +kernel
theorem dX5_init_160 : decode cX5_init 160 = .ok (.sipush 2500, 3) := by decide +kernel
theorem dX5_init_163 : decode cX5_init 163 = .ok (.newarray .boolean, 2) := by decide +kernel
theorem dX5_init_165 : decode cX5_init 165 = .ok (.putfield 75, 3) := by decide +kernel
theorem dX5_init_168 : decode cX5_init 168 = .ok (.aload_n 0, 1) := by decide +kernel
theorem dX5_init_169 : decode cX5_init 169 = .ok (.sipush 2500, 3) := by decide +kernel
theorem dX5_init_172 : decode cX5_init 172 = .ok (.newarray .int, 2) := by decide +kernel
theorem dX5_init_174 : decode cX5_init 174 = .ok (.putfield 78, 3) := by decide +kernel
theorem dX5_init_177 : decode cX5_init 177 = .ok (.return_, 1) := by decide +kernel
theorem dX5_in_0 : decode cX5_in 0 = .ok (.iload_n 0, 1) := by decide +kernel
theorem dX5_in_1 : decode cX5_in 1 = .ok (.iload_n 1, 1) := by decide +kernel
theorem dX5_in_2 : decode cX5_in 2 = .ok (.if_icmp .lt 12, 3) := by decide +kernel
theorem dX5_in_5 : decode cX5_in 5 = .ok (.iload_n 0, 1) := by decide +kernel
theorem dX5_in_6 : decode cX5_in 6 = .ok (.iload_n 2, 1) := by decide +kernel
theorem dX5_in_7 : decode cX5_in 7 = .ok (.if_icmp .gt 7, 3) := by decide +kernel
theorem dX5_in_10 : decode cX5_in 10 = .ok (.iconst 1, 1) := by decide +kernel
theorem dX5_in_11 : decode cX5_in 11 = .ok (.goto 4, 3) := by decide +kernel
theorem dX5_in_14 : decode cX5_in 14 = .ok (.iconst 0, 1) := by decide +kernel
theorem dX5_in_15 : decode cX5_in 15 = .ok (.ireturn, 1) := by decide +kernel
theorem dX5_isTable_0 : decode cX5_isTable 0 = .ok (.iload_n 0, 1) := by decide +kernel
theorem dX5_isTable_1 : decode cX5_isTable 1 = .ok (.iconst 0, 1) := by decide +kernel
theorem dX5_isTable_2 : decode cX5_isTable 2 = .ok (.iconst 1, 1) := by decide +kernel
theorem dX5_isTable_3 : decode cX5_isTable 3 = .ok (.invokestatic 81, 3) := by decide +kernel
theorem dX5_isTable_6 : decode cX5_isTable 6 = .ok (.ireturn, 1) := by decide +kernel
theorem dX5_cell_0 : decode cX5_cell 0 = .ok (.aload_n 0, 1) := by decide +kernel
theorem dX5_cell_1 : decode cX5_cell 1 = .ok (.getfield 13, 3) := by decide +kernel
theorem dX5_cell_4 : decode cX5_cell 4 = .ok (.iconst 3, 1) := by decide +kernel
theorem dX5_cell_5 : decode cX5_cell 5 = .ok (.bipush 50, 2) := by decide +kernel
theorem dX5_cell_7 : decode cX5_cell 7 = .ok (.iload_n 1, 1) := by decide +kernel
theorem dX5_cell_8 : decode cX5_cell 8 = .ok (.imul, 1) := by decide +kernel
theorem dX5_cell_9 : decode cX5_cell 9 = .ok (.iload_n 2, 1) := by decide +kernel
theorem dX5_cell_10 : decode cX5_cell 10 = .ok (.iadd, 1) := by decide +kernel
theorem dX5_cell_11 : decode cX5_cell 11 = .ok (.imul, 1) := by decide +kernel
theorem dX5_cell_12 : decode cX5_cell 12 = .ok (.iload_n 3, 1) := by decide +kernel
theorem dX5_cell_13 : decode cX5_cell 13 = .ok (.iadd, 1) := by decide +kernel
theorem dX5_cell_14 : decode cX5_cell 14 = .ok (.iaload, 1) := by decide +kernel
theorem dX5_cell_15 : decode cX5_cell 15 = .ok (.ireturn, 1) := by decide +kernel
theorem dX5_row_0 : decode cX5_row 0 = .ok (.iload_n 1, 1) := by decide +kernel
theorem dX5_row_1 : decode cX5_row 1 = .ok (.invokestatic 85, 3) := by decide +kernel
theorem dX5_row_4 : decode cX5_row 4 = .ok (.ifCond .eq 53, 3) := by decide +kernel
theorem dX5_row_7 : decode cX5_row 7 = .ok (.iload_n 2, 1) := by decide +kernel
theorem dX5_row_8 : decode cX5_row 8 = .ok (.iconst 0, 1) := by decide +kernel
theorem dX5_row_9 : decode cX5_row 9 = .ok (.bipush 99, 2) := by decide +kernel
theorem dX5_row_11 : decode cX5_row 11 = .ok (.invokestatic 81, 3) := by decide +kernel
theorem dX5_row_14 : decode cX5_row 14 = .ok (.ifCond .eq 43, 3) := by decide +kernel
theorem dX5_row_17 : decode cX5_row 17 = .ok (.iload_n 3, 1) := by decide +kernel
theorem dX5_row_18 : decode cX5_row 18 = .ok (.iconst 0, 1) := by decide +kernel
theorem dX5_row_19 : decode cX5_row 19 = .ok (.bipush 99, 2) := by decide +kernel
theorem dX5_row_21 : decode cX5_row 21 = .ok (.invokestatic 81, 3) := by decide +kernel
theorem dX5_row_24 : decode cX5_row 24 = .ok (.ifCond .eq 33, 3) := by decide +kernel
theorem dX5_row_27 : decode cX5_row 27 = .ok (.iload 4, 2) := by decide +kernel
theorem dX5_row_29 : decode cX5_row 29 = .ok (.iconst 0, 1) := by decide +kernel
theorem dX5_row_30 : decode cX5_row 30 = .ok (.bipush 99, 2) := by decide +kernel
theorem dX5_row_32 : decode cX5_row 32 = .ok (.invokestatic 81, 3) := by decide +kernel
theorem dX5_row_35 : decode cX5_row 35 = .ok (.ifCond .eq 22, 3) := by decide +kernel
theorem dX5_row_38 : decode cX5_row 38 = .ok (.aload_n 0, 1) := by decide +kernel
theorem dX5_row_39 : decode cX5_row 39 = .ok (.getfield 7, 3) := by decide +kernel
theorem dX5_row_42 : decode cX5_row 42 = .ok (.iload_n 1, 1) := by decide +kernel
theorem dX5_row_43 : decode cX5_row 43 = .ok (.iaload, 1) := by decide +kernel
theorem dX5_row_44 : decode cX5_row 44 = .ok (.bipush 50, 2) := by decide +kernel
theorem dX5_row_46 : decode cX5_row 46 = .ok (.if_icmp .eq 11, 3) := by decide +kernel
theorem dX5_row_49 : decode cX5_row 49 = .ok (.aload_n 0, 1) := by decide +kernel
theorem dX5_row_50 : decode cX5_row 50 = .ok (.getfield 89, 3) := by decide +kernel
theorem dX5_row_53 : decode cX5_row 53 = .ok (.iconst 1, 1) := by decide +kernel
theorem dX5_row_54 : decode cX5_row 54 = .ok (.if_icmp .ne 5, 3) := by decide +kernel
theorem dX5_row_57 : decode cX5_row 57 = .ok (.iconst (-1), 1) := by decide +kernel
theorem dX5_row_58 : decode cX5_row 58 = .ok (.ireturn, 1) := by decide +kernel
theorem dX5_row_59 : decode cX5_row 59 = .ok (.iconst 3, 1) := by decide +kernel
theorem dX5_row_60 : decode cX5_row 60 = .ok (.bipush 50, 2) := by decide +kernel
theorem dX5_row_62 : decode cX5_row 62 = .ok (.iload_n 1, 1) := by decide +kernel
theorem dX5_row_63 : decode cX5_row 63 = .ok (.imul, 1) := by decide +kernel
theorem dX5_row_64 : decode cX5_row 64 = .ok (.aload_n 0, 1) := by decide +kernel
theorem dX5_row_65 : decode cX5_row 65 = .ok (.getfield 7, 3) := by decide +kernel
theorem dX5_row_68 : decode cX5_row 68 = .ok (.iload_n 1, 1) := by decide +kernel
theorem dX5_row_69 : decode cX5_row 69 = .ok (.iaload, 1) := by decide +kernel
theorem dX5_row_70 : decode cX5_row 70 = .ok (.iadd, 1) := by decide +kernel
theorem dX5_row_71 : decode cX5_row 71 = .ok (.imul, 1) := by decide +kernel
theorem dX5_row_72 : decode cX5_row 72 = .ok (.istore 5, 2) := by decide +kernel
theorem dX5_row_74 : decode cX5_row 74 = .ok (.aload_n 0, 1) := by decide +kernel
theorem dX5_row_75 : decode cX5_row 75 = .ok (.getfield 13, 3) := by decide +kernel
theorem dX5_row_78 : decode cX5_row 78 = .ok (.iload 5, 2) := by decide +kernel
theorem dX5_row_80 : decode cX5_row 80 = .ok (.iload_n 2, 1) := by decide +kernel
theorem dX5_row_81 : decode cX5_row 81 = .ok (.iastore, 1) := by decide +kernel
theorem dX5_row_82 : decode cX5_row 82 = .ok (.aload_n 0, 1) := by decide +kernel
theorem dX5_row_83 : decode cX5_row 83 = .ok (.getfield 13, 3) := by decide +kernel
theorem dX5_row_86 : decode cX5_row 86 = .ok (.iload 5, 2) := by decide +kernel
theorem dX5_row_88 : decode cX5_row 88 = .ok (.iconst 1, 1) := by decide +kernel
theorem dX5_row_89 : decode cX5_row 89 = .ok (.iadd, 1) := by decide +kernel
theorem dX5_row_90 : decode cX5_row 90 = .ok (.iload_n 3, 1) := by decide +kernel
theorem dX5_row_91 : decode cX5_row 91 = .ok (.iastore, 1) := by decide +kernel
theorem dX5_row_92 : decode cX5_row 92 = .ok (.aload_n 0, 1) := by decide +kernel
theorem dX5_row_93 : decode cX5_row 93 = .ok (.getfield 13, 3) := by decide +kernel
theorem dX5_row_96 : decode cX5_row 96 = .ok (.iload 5, 2) := by decide +kernel
theorem dX5_row_98 : decode cX5_row 98 = .ok (.iconst 2, 1) := by decide +kernel
theorem dX5_row_99 : decode cX5_row 99 = .ok (.iadd, 1) := by decide +kernel
theorem dX5_row_100 : decode cX5_row 100 = .ok (.iload 4, 2) := by decide +kernel
theorem dX5_row_102 : decode cX5_row 102 = .ok (.iastore, 1) := by decide +kernel
theorem dX5_row_103 : decode cX5_row 103 = .ok (.aload_n 0, 1) := by decide +kernel
theorem dX5_row_104 : decode cX5_row 104 = .ok (.getfield 7, 3) := by decide +kernel
theorem dX5_row_107 : decode cX5_row 107 = .ok (.iload_n 1, 1) := by decide +kernel
theorem dX5_row_108 : decode cX5_row 108 = .ok (.dup2, 1) := by decide +kernel
theorem dX5_row_109 : decode cX5_row 109 = .ok (.iaload, 1) := by decide +kernel
theorem dX5_row_110 : decode cX5_row 110 = .ok (.iconst 1, 1) := by decide +kernel
theorem dX5_row_111 : decode cX5_row 111 = .ok (.iadd, 1) := by decide +kernel
theorem dX5_row_112 : decode cX5_row 112 = .ok (.iastore, 1) := by decide +kernel
theorem dX5_row_113 : decode cX5_row 113 = .ok (.aload_n 0, 1) := by decide +kernel
theorem dX5_row_114 : decode cX5_row 114 = .ok (.getfield 7, 3) := by decide +kernel
theorem dX5_row_117 : decode cX5_row 117 = .ok (.iload_n 1, 1) := by decide +kernel
theorem dX5_row_118 : decode cX5_row 118 = .ok (.iaload, 1) := by decide +kernel
theorem dX5_row_119 : decode cX5_row 119 = .ok (.iconst 1, 1) := by decide +kernel
theorem dX5_row_120 : decode cX5_row 120 = .ok (.isub, 1) := by decide +kernel
theorem dX5_row_121 : decode cX5_row 121 = .ok (.ireturn, 1) := by decide +kernel
theorem dX5_test_0 : decode cX5_test 0 = .ok (.iload_n 1, 1) := by decide +kernel
theorem dX5_test_1 : decode cX5_test 1 = .ok (.invokestatic 85, 3) := by decide +kernel
theorem dX5_test_4 : decode cX5_test 4 = .ok (.ifCond .eq 55, 3) := by decide +kernel
theorem dX5_test_7 : decode cX5_test 7 = .ok (.iload_n 2, 1) := by decide +kernel
theorem dX5_test_8 : decode cX5_test 8 = .ok (.ifCond .lt 51, 3) := by decide +kernel
theorem dX5_test_11 : decode cX5_test 11 = .ok (.iload_n 2, 1) := by decide +kernel
theorem dX5_test_12 : decode cX5_test 12 = .ok (.sipush 1000, 3) := by decide +kernel
theorem dX5_test_15 : decode cX5_test 15 = .ok (.idiv, 1) := by decide +kernel
theorem dX5_test_16 : decode cX5_test 16 = .ok (.iconst 3, 1) := by decide +kernel
theorem dX5_test_17 : decode cX5_test 17 = .ok (.if_icmp .ge 42, 3) := by decide +kernel
theorem dX5_test_20 : decode cX5_test 20 = .ok (.iload_n 2, 1) := by decide +kernel
theorem dX5_test_21 : decode cX5_test 21 = .ok (.bipush 100, 2) := by decide +kernel
theorem dX5_test_23 : decode cX5_test 23 = .ok (.idiv, 1) := by decide +kernel
theorem dX5_test_24 : decode cX5_test 24 = .ok (.bipush 10, 2) := by decide +kernel
theorem dX5_test_26 : decode cX5_test 26 = .ok (.irem, 1) := by decide +kernel
theorem dX5_test_27 : decode cX5_test 27 = .ok (.iconst 2, 1) := by decide +kernel
theorem dX5_test_28 : decode cX5_test 28 = .ok (.if_icmp .gt 31, 3) := by decide +kernel
theorem dX5_test_31 : decode cX5_test 31 = .ok (.iload_n 3, 1) := by decide +kernel
theorem dX5_test_32 : decode cX5_test 32 = .ok (.iconst 1, 1) := by decide +kernel
theorem dX5_test_33 : decode cX5_test 33 = .ok (.bipush 50, 2) := by decide +kernel
theorem dX5_test_35 : decode cX5_test 35 = .ok (.invokestatic 81, 3) := by decide +kernel
theorem dX5_test_38 : decode cX5_test 38 = .ok (.ifCond .eq 21, 3) := by decide +kernel
theorem dX5_test_41 : decode cX5_test 41 = .ok (.aload_n 0, 1) := by decide +kernel
theorem dX5_test_42 : decode cX5_test 42 = .ok (.getfield 16, 3) := by decide +kernel
theorem dX5_test_45 : decode cX5_test 45 = .ok (.iload_n 1, 1) := by decide +kernel
theorem dX5_test_46 : decode cX5_test 46 = .ok (.iaload, 1) := by decide +kernel
theorem dX5_test_47 : decode cX5_test 47 = .ok (.iconst 4, 1) := by decide +kernel
theorem dX5_test_48 : decode cX5_test 48 = .ok (.if_icmp .eq 11, 3) := by decide +kernel
theorem dX5_test_51 : decode cX5_test 51 = .ok (.aload_n 0, 1) := by decide +kernel
theorem dX5_test_52 : decode cX5_test 52 = .ok (.getfield 89, 3) := by decide +kernel
theorem dX5_test_55 : decode cX5_test 55 = .ok (.iconst 1, 1) := by decide +kernel
theorem dX5_test_56 : decode cX5_test 56 = .ok (.if_icmp .ne 5, 3) := by decide +kernel
theorem dX5_test_59 : decode cX5_test 59 = .ok (.iconst (-1), 1) := by decide +kernel
theorem dX5_test_60 : decode cX5_test 60 = .ok (.ireturn, 1) := by decide +kernel
theorem dX5_test_61 : decode cX5_test 61 = .ok (.iconst 4, 1) := by decide +kernel
theorem dX5_test_62 : decode cX5_test 62 = .ok (.iload_n 1, 1) := by decide +kernel
theorem dX5_test_63 : decode cX5_test 63 = .ok (.imul, 1) := by decide +kernel
theorem dX5_test_64 : decode cX5_test 64 = .ok (.aload_n 0, 1) := by decide +kernel
theorem dX5_test_65 : decode cX5_test 65 = .ok (.getfield 16, 3) := by decide +kernel
theorem dX5_test_68 : decode cX5_test 68 = .ok (.iload_n 1, 1) := by decide +kernel
theorem dX5_test_69 : decode cX5_test 69 = .ok (.iaload, 1) := by decide +kernel
theorem dX5_test_70 : decode cX5_test 70 = .ok (.iadd, 1) := by decide +kernel
theorem dX5_test_71 : decode cX5_test 71 = .ok (.istore 4, 2) := by decide +kernel
theorem dX5_test_73 : decode cX5_test 73 = .ok (.aload_n 0, 1) := by decide +kernel
theorem dX5_test_74 : decode cX5_test 74 = .ok (.getfield 19, 3) := by decide +kernel
theorem dX5_test_77 : decode cX5_test 77 = .ok (.iload 4, 2) := by decide +kernel
theorem dX5_test_79 : decode cX5_test 79 = .ok (.iload_n 2, 1) := by decide +kernel
theorem dX5_test_80 : decode cX5_test 80 = .ok (.sipush 1000, 3) := by decide +kernel
theorem dX5_test_83 : decode cX5_test 83 = .ok (.idiv, 1) := by decide +kernel
theorem dX5_test_84 : decode cX5_test 84 = .ok (.iastore, 1) := by decide +kernel
theorem dX5_test_85 : decode cX5_test 85 = .ok (.aload_n 0, 1) := by decide +kernel
theorem dX5_test_86 : decode cX5_test 86 = .ok (.getfield 22, 3) := by decide +kernel
theorem dX5_test_89 : decode cX5_test 89 = .ok (.iload 4, 2) := by decide +kernel
theorem dX5_test_91 : decode cX5_test 91 = .ok (.iload_n 2, 1) := by decide +kernel
theorem dX5_test_92 : decode cX5_test 92 = .ok (.bipush 100, 2) := by decide +kernel
theorem dX5_test_94 : decode cX5_test 94 = .ok (.idiv, 1) := by decide +kernel
theorem dX5_test_95 : decode cX5_test 95 = .ok (.bipush 10, 2) := by decide +kernel
theorem dX5_test_97 : decode cX5_test 97 = .ok (.irem, 1) := by decide +kernel
theorem dX5_test_98 : decode cX5_test 98 = .ok (.iastore, 1) := by decide +kernel
theorem dX5_test_99 : decode cX5_test 99 = .ok (.aload_n 0, 1) := by decide +kernel
theorem dX5_test_100 : decode cX5_test 100 = .ok (.getfield 25, 3) := by decide +kernel
theorem dX5_test_103 : decode cX5_test 103 = .ok (.iload 4, 2) := by decide +kernel
theorem dX5_test_105 : decode cX5_test 105 = .ok (.iload_n 2, 1) := by decide +kernel
theorem dX5_test_106 : decode cX5_test 106 = .ok (.bipush 100, 2) := by decide +kernel
theorem dX5_test_108 : decode cX5_test 108 = .ok (.irem, 1) := by decide +kernel
theorem dX5_test_109 : decode cX5_test 109 = .ok (.iastore, 1) := by decide +kernel
theorem dX5_test_110 : decode cX5_test 110 = .ok (.aload_n 0, 1) := by decide +kernel
theorem dX5_test_111 : decode cX5_test 111 = .ok (.getfield 28, 3) := by decide +kernel
theorem dX5_test_114 : decode cX5_test 114 = .ok (.iload 4, 2) := by decide +kernel
theorem dX5_test_116 : decode cX5_test 116 = .ok (.iload_n 3, 1) := by decide +kernel
theorem dX5_test_117 : decode cX5_test 117 = .ok (.iastore, 1) := by decide +kernel
theorem dX5_test_118 : decode cX5_test 118 = .ok (.aload_n 0, 1) := by decide +kernel
theorem dX5_test_119 : decode cX5_test 119 = .ok (.getfield 16, 3) := by decide +kernel
theorem dX5_test_122 : decode cX5_test 122 = .ok (.iload_n 1, 1) := by decide +kernel
theorem dX5_test_123 : decode cX5_test 123 = .ok (.dup2, 1) := by decide +kernel
theorem dX5_test_124 : decode cX5_test 124 = .ok (.iaload, 1) := by decide +kernel
theorem dX5_test_125 : decode cX5_test 125 = .ok (.iconst 1, 1) := by decide +kernel
theorem dX5_test_126 : decode cX5_test 126 = .ok (.iadd, 1) := by decide +kernel
theorem dX5_test_127 : decode cX5_test 127 = .ok (.iastore, 1) := by decide +kernel
theorem dX5_test_128 : decode cX5_test 128 = .ok (.aload_n 0, 1) := by decide +kernel
theorem dX5_test_129 : decode cX5_test 129 = .ok (.getfield 16, 3) := by decide +kernel
theorem dX5_test_132 : decode cX5_test 132 = .ok (.iload_n 1, 1) := by decide +kernel
theorem dX5_test_133 : decode cX5_test 133 = .ok (.iaload, 1) := by decide +kernel
theorem dX5_test_134 : decode cX5_test 134 = .ok (.iconst 1, 1) := by decide +kernel
theorem dX5_test_135 : decode cX5_test 135 = .ok (.isub, 1) := by decide +kernel
theorem dX5_test_136 : decode cX5_test 136 = .ok (.ireturn, 1) := by decide +kernel
theorem dX5_join_0 : decode cX5_join 0 = .ok (.iload_n 1, 1) := by decide +kernel
theorem dX5_join_1 : decode cX5_join 1 = .ok (.iconst 0, 1) := by decide +kernel
theorem dX5_join_2 : decode cX5_join 2 = .ok (.iconst 2, 1) := by decide +kernel
theorem dX5_join_3 : decode cX5_join 3 = .ok (.invokestatic 81, 3) := by decide +kernel
theorem dX5_join_6 : decode cX5_join 6 = .ok (.ifCond .eq 20, 3) := by decide +kernel
theorem dX5_join_9 : decode cX5_join 9 = .ok (.iload_n 2, 1) := by decide +kernel
theorem dX5_join_10 : decode cX5_join 10 = .ok (.iconst 0, 1) := by decide +kernel
theorem dX5_join_11 : decode cX5_join 11 = .ok (.iconst 2, 1) := by decide +kernel
theorem dX5_join_12 : decode cX5_join 12 = .ok (.invokestatic 81, 3) := by decide +kernel
theorem dX5_join_15 : decode cX5_join 15 = .ok (.ifCond .eq 11, 3) := by decide +kernel
theorem dX5_join_18 : decode cX5_join 18 = .ok (.aload_n 0, 1) := by decide +kernel
theorem dX5_join_19 : decode cX5_join 19 = .ok (.getfield 89, 3) := by decide +kernel
theorem dX5_join_22 : decode cX5_join 22 = .ok (.iconst 1, 1) := by decide +kernel
theorem dX5_join_23 : decode cX5_join 23 = .ok (.if_icmp .ne 5, 3) := by decide +kernel
theorem dX5_join_26 : decode cX5_join 26 = .ok (.iconst 0, 1) := by decide +kernel
theorem dX5_join_27 : decode cX5_join 27 = .ok (.ireturn, 1) := by decide +kernel
theorem dX5_join_28 : decode cX5_join 28 = .ok (.aload_n 0, 1) := by decide +kernel
theorem dX5_join_29 : decode cX5_join 29 = .ok (.getfield 31, 3) := by decide +kernel
theorem dX5_join_32 : decode cX5_join 32 = .ok (.iconst 0, 1) := by decide +kernel
theorem dX5_join_33 : decode cX5_join 33 = .ok (.iload_n 1, 1) := by decide +kernel
theorem dX5_join_34 : decode cX5_join 34 = .ok (.iastore, 1) := by decide +kernel
theorem dX5_join_35 : decode cX5_join 35 = .ok (.aload_n 0, 1) := by decide +kernel
theorem dX5_join_36 : decode cX5_join 36 = .ok (.getfield 31, 3) := by decide +kernel
theorem dX5_join_39 : decode cX5_join 39 = .ok (.iconst 1, 1) := by decide +kernel
theorem dX5_join_40 : decode cX5_join 40 = .ok (.iload_n 2, 1) := by decide +kernel
theorem dX5_join_41 : decode cX5_join 41 = .ok (.iastore, 1) := by decide +kernel
theorem dX5_join_42 : decode cX5_join 42 = .ok (.iconst 1, 1) := by decide +kernel
theorem dX5_join_43 : decode cX5_join 43 = .ok (.ireturn, 1) := by decide +kernel
theorem dX5_passes_0 : decode cX5_passes 0 = .ok (.iconst 4, 1) := by decide +kernel
theorem dX5_passes_1 : decode cX5_passes 1 = .ok (.iload_n 1, 1) := by decide +kernel
theorem dX5_passes_2 : decode cX5_passes 2 = .ok (.imul, 1) := by decide +kernel
theorem dX5_passes_3 : decode cX5_passes 3 = .ok (.iload_n 3, 1) := by decide +kernel
theorem dX5_passes_4 : decode cX5_passes 4 = .ok (.iadd, 1) := by decide +kernel
theorem dX5_passes_5 : decode cX5_passes 5 = .ok (.istore 4, 2) := by decide +kernel
theorem dX5_passes_7 : decode cX5_passes 7 = .ok (.aload_n 0, 1) := by decide +kernel
theorem dX5_passes_8 : decode cX5_passes 8 = .ok (.iload_n 1, 1) := by decide +kernel
theorem dX5_passes_9 : decode cX5_passes 9 = .ok (.iload_n 2, 1) := by decide +kernel
theorem dX5_passes_10 : decode cX5_passes 10 = .ok (.aload_n 0, 1) := by decide +kernel
theorem dX5_passes_11 : decode cX5_passes 11 = .ok (.getfield 19, 3) := by decide +kernel
theorem dX5_passes_14 : decode cX5_passes 14 = .ok (.iload 4, 2) := by decide +kernel
theorem dX5_passes_16 : decode cX5_passes 16 = .ok (.iaload, 1) := by decide +kernel
theorem dX5_passes_17 : decode cX5_passes 17 = .ok (.invokevirtual 92, 3) := by decide +kernel
theorem dX5_passes_20 : decode cX5_passes 20 = .ok (.istore 5, 2) := by decide +kernel
theorem dX5_passes_22 : decode cX5_passes 22 = .ok (.aload_n 0, 1) := by decide +kernel
theorem dX5_passes_23 : decode cX5_passes 23 = .ok (.getfield 22, 3) := by decide +kernel
theorem dX5_passes_26 : decode cX5_passes 26 = .ok (.iload 4, 2) := by decide +kernel
theorem dX5_passes_28 : decode cX5_passes 28 = .ok (.iaload, 1) := by decide +kernel
theorem dX5_passes_29 : decode cX5_passes 29 = .ok (.ifCond .ne 23, 3) := by decide +kernel
theorem dX5_passes_32 : decode cX5_passes 32 = .ok (.iload 5, 2) := by decide +kernel
theorem dX5_passes_34 : decode cX5_passes 34 = .ok (.aload_n 0, 1) := by decide +kernel
theorem dX5_passes_35 : decode cX5_passes 35 = .ok (.getfield 25, 3) := by decide +kernel
theorem dX5_passes_38 : decode cX5_passes 38 = .ok (.iload 4, 2) := by decide +kernel
theorem dX5_passes_40 : decode cX5_passes 40 = .ok (.iaload, 1) := by decide +kernel
theorem dX5_passes_41 : decode cX5_passes 41 = .ok (.if_icmp .ge 7, 3) := by decide +kernel
theorem dX5_passes_44 : decode cX5_passes 44 = .ok (.iconst 1, 1) := by decide +kernel
theorem dX5_passes_45 : decode cX5_passes 45 = .ok (.goto 55, 3) := by decide +kernel
theorem dX5_passes_48 : decode cX5_passes 48 = .ok (.iconst 0, 1) := by decide +kernel
theorem dX5_passes_49 : decode cX5_passes 49 = .ok (.goto 51, 3) := by decide +kernel
theorem dX5_passes_52 : decode cX5_passes 52 = .ok (.aload_n 0, 1) := by decide +kernel
theorem dX5_passes_53 : decode cX5_passes 53 = .ok (.getfield 22, 3) := by decide +kernel
theorem dX5_passes_56 : decode cX5_passes 56 = .ok (.iload 4, 2) := by decide +kernel
theorem dX5_passes_58 : decode cX5_passes 58 = .ok (.iaload, 1) := by decide +kernel
theorem dX5_passes_59 : decode cX5_passes 59 = .ok (.iconst 1, 1) := by decide +kernel
theorem dX5_passes_60 : decode cX5_passes 60 = .ok (.if_icmp .ne 23, 3) := by decide +kernel
theorem dX5_passes_63 : decode cX5_passes 63 = .ok (.iload 5, 2) := by decide +kernel
theorem dX5_passes_65 : decode cX5_passes 65 = .ok (.aload_n 0, 1) := by decide +kernel
theorem dX5_passes_66 : decode cX5_passes 66 = .ok (.getfield 25, 3) := by decide +kernel
theorem dX5_passes_69 : decode cX5_passes 69 = .ok (.iload 4, 2) := by decide +kernel
theorem dX5_passes_71 : decode cX5_passes 71 = .ok (.iaload, 1) := by decide +kernel
theorem dX5_passes_72 : decode cX5_passes 72 = .ok (.if_icmp .ne 7, 3) := by decide +kernel
theorem dX5_passes_75 : decode cX5_passes 75 = .ok (.iconst 1, 1) := by decide +kernel
theorem dX5_passes_76 : decode cX5_passes 76 = .ok (.goto 24, 3) := by decide +kernel
theorem dX5_passes_79 : decode cX5_passes 79 = .ok (.iconst 0, 1) := by decide +kernel
theorem dX5_passes_80 : decode cX5_passes 80 = .ok (.goto 20, 3) := by decide +kernel
theorem dX5_passes_83 : decode cX5_passes 83 = .ok (.iload 5, 2) := by decide +kernel
theorem dX5_passes_85 : decode cX5_passes 85 = .ok (.aload_n 0, 1) := by decide +kernel
theorem dX5_passes_86 : decode cX5_passes 86 = .ok (.getfield 25, 3) := by decide +kernel
theorem dX5_passes_89 : decode cX5_passes 89 = .ok (.iload 4, 2) := by decide +kernel
theorem dX5_passes_91 : decode cX5_passes 91 = .ok (.iaload, 1) := by decide +kernel
theorem dX5_passes_92 : decode cX5_passes 92 = .ok (.if_icmp .le 7, 3) := by decide +kernel
theorem dX5_passes_95 : decode cX5_passes 95 = .ok (.iconst 1, 1) := by decide +kernel
theorem dX5_passes_96 : decode cX5_passes 96 = .ok (.goto 4, 3) := by decide +kernel
theorem dX5_passes_99 : decode cX5_passes 99 = .ok (.iconst 0, 1) := by decide +kernel
theorem dX5_passes_100 : decode cX5_passes 100 = .ok (.ireturn, 1) := by decide +kernel
theorem dX5_isAlike_0 : decode cX5_isAlike 0 = .ok (.aload_n 0, 1) := by decide +kernel
theorem dX5_isAlike_1 : decode cX5_isAlike 1 = .ok (.iconst 0, 1) := by decide +kernel
theorem dX5_isAlike_2 : decode cX5_isAlike 2 = .ok (.iload_n 1, 1) := by decide +kernel
theorem dX5_isAlike_3 : decode cX5_isAlike 3 = .ok (.aload_n 0, 1) := by decide +kernel
theorem dX5_isAlike_4 : decode cX5_isAlike 4 = .ok (.getfield 31, 3) := by decide +kernel
theorem dX5_isAlike_7 : decode cX5_isAlike 7 = .ok (.iconst 0, 1) := by decide +kernel
theorem dX5_isAlike_8 : decode cX5_isAlike 8 = .ok (.iaload, 1) := by decide +kernel
theorem dX5_isAlike_9 : decode cX5_isAlike 9 = .ok (.invokevirtual 92, 3) := by decide +kernel
theorem dX5_isAlike_12 : decode cX5_isAlike 12 = .ok (.aload_n 0, 1) := by decide +kernel
theorem dX5_isAlike_13 : decode cX5_isAlike 13 = .ok (.iconst 1, 1) := by decide +kernel
theorem dX5_isAlike_14 : decode cX5_isAlike 14 = .ok (.iload_n 2, 1) := by decide +kernel
theorem dX5_isAlike_15 : decode cX5_isAlike 15 = .ok (.aload_n 0, 1) := by decide +kernel
theorem dX5_isAlike_16 : decode cX5_isAlike 16 = .ok (.getfield 31, 3) := by decide +kernel
theorem dX5_isAlike_19 : decode cX5_isAlike 19 = .ok (.iconst 1, 1) := by decide +kernel
theorem dX5_isAlike_20 : decode cX5_isAlike 20 = .ok (.iaload, 1) := by decide +kernel
theorem dX5_isAlike_21 : decode cX5_isAlike 21 = .ok (.invokevirtual 92, 3) := by decide +kernel
theorem dX5_isAlike_24 : decode cX5_isAlike 24 = .ok (.if_icmp .ne 7, 3) := by decide +kernel
theorem dX5_isAlike_27 : decode cX5_isAlike 27 = .ok (.iconst 1, 1) := by decide +kernel
theorem dX5_isAlike_28 : decode cX5_isAlike 28 = .ok (.goto 4, 3) := by decide +kernel
theorem dX5_isAlike_31 : decode cX5_isAlike 31 = .ok (.iconst 0, 1) := by decide +kernel
theorem dX5_isAlike_32 : decode cX5_isAlike 32 = .ok (.ireturn, 1) := by decide +kernel
theorem dX5_ask_0 : decode cX5_ask 0 = .ok (.aload_n 0, 1) := by decide +kernel
theorem dX5_ask_1 : decode cX5_ask 1 = .ok (.getfield 89, 3) := by decide +kernel
theorem dX5_ask_4 : decode cX5_ask 4 = .ok (.iconst 1, 1) := by decide +kernel
theorem dX5_ask_5 : decode cX5_ask 5 = .ok (.if_icmp .ne 5, 3) := by decide +kernel
theorem dX5_ask_8 : decode cX5_ask 8 = .ok (.iconst 0, 1) := by decide +kernel
theorem dX5_ask_9 : decode cX5_ask 9 = .ok (.ireturn, 1) := by decide +kernel
theorem dX5_ask_10 : decode cX5_ask 10 = .ok (.aload_n 0, 1) := by decide +kernel
theorem dX5_ask_11 : decode cX5_ask 11 = .ok (.iconst 1, 1) := by decide +kernel
theorem dX5_ask_12 : decode cX5_ask 12 = .ok (.putfield 96, 3) := by decide +kernel
theorem dX5_ask_15 : decode cX5_ask 15 = .ok (.iconst 0, 1) := by decide +kernel
theorem dX5_ask_16 : decode cX5_ask 16 = .ok (.istore_n 1, 1) := by decide +kernel
theorem dX5_ask_17 : decode cX5_ask 17 = .ok (.iload_n 1, 1) := by decide +kernel
theorem dX5_ask_18 : decode cX5_ask 18 = .ok (.iconst 2, 1) := by decide +kernel
theorem dX5_ask_19 : decode cX5_ask 19 = .ok (.if_icmp .ge 56, 3) := by decide +kernel
theorem dX5_ask_22 : decode cX5_ask 22 = .ok (.aload_n 0, 1) := by decide +kernel
theorem dX5_ask_23 : decode cX5_ask 23 = .ok (.getfield 41, 3) := by decide +kernel
theorem dX5_ask_26 : decode cX5_ask 26 = .ok (.iload_n 1, 1) := by decide +kernel
theorem dX5_ask_27 : decode cX5_ask 27 = .ok (.aload_n 0, 1) := by decide +kernel
theorem dX5_ask_28 : decode cX5_ask 28 = .ok (.getfield 16, 3) := by decide +kernel
theorem dX5_ask_31 : decode cX5_ask 31 = .ok (.iload_n 1, 1) := by decide +kernel
theorem dX5_ask_32 : decode cX5_ask 32 = .ok (.iaload, 1) := by decide +kernel
theorem dX5_ask_33 : decode cX5_ask 33 = .ok (.iastore, 1) := by decide +kernel
theorem dX5_ask_34 : decode cX5_ask 34 = .ok (.aload_n 0, 1) := by decide +kernel
theorem dX5_ask_35 : decode cX5_ask 35 = .ok (.getfield 44, 3) := by decide +kernel
theorem dX5_ask_38 : decode cX5_ask 38 = .ok (.iload_n 1, 1) := by decide +kernel
theorem dX5_ask_39 : decode cX5_ask 39 = .ok (.iconst 0, 1) := by decide +kernel
theorem dX5_ask_40 : decode cX5_ask 40 = .ok (.iastore, 1) := by decide +kernel
theorem dX5_ask_41 : decode cX5_ask 41 = .ok (.aload_n 0, 1) := by decide +kernel
theorem dX5_ask_42 : decode cX5_ask 42 = .ok (.getfield 50, 3) := by decide +kernel
theorem dX5_ask_45 : decode cX5_ask 45 = .ok (.iload_n 1, 1) := by decide +kernel
theorem dX5_ask_46 : decode cX5_ask 46 = .ok (.iconst 0, 1) := by decide +kernel
theorem dX5_ask_47 : decode cX5_ask 47 = .ok (.bastore, 1) := by decide +kernel
theorem dX5_ask_48 : decode cX5_ask 48 = .ok (.aload_n 0, 1) := by decide +kernel
theorem dX5_ask_49 : decode cX5_ask 49 = .ok (.getfield 60, 3) := by decide +kernel
theorem dX5_ask_52 : decode cX5_ask 52 = .ok (.iload_n 1, 1) := by decide +kernel
theorem dX5_ask_53 : decode cX5_ask 53 = .ok (.iconst 0, 1) := by decide +kernel
theorem dX5_ask_54 : decode cX5_ask 54 = .ok (.iastore, 1) := by decide +kernel
theorem dX5_ask_55 : decode cX5_ask 55 = .ok (.aload_n 0, 1) := by decide +kernel
theorem dX5_ask_56 : decode cX5_ask 56 = .ok (.getfield 63, 3) := by decide +kernel
theorem dX5_ask_59 : decode cX5_ask 59 = .ok (.iload_n 1, 1) := by decide +kernel
theorem dX5_ask_60 : decode cX5_ask 60 = .ok (.iconst 0, 1) := by decide +kernel
theorem dX5_ask_61 : decode cX5_ask 61 = .ok (.iastore, 1) := by decide +kernel
theorem dX5_ask_62 : decode cX5_ask 62 = .ok (.aload_n 0, 1) := by decide +kernel
theorem dX5_ask_63 : decode cX5_ask 63 = .ok (.getfield 66, 3) := by decide +kernel
theorem dX5_ask_66 : decode cX5_ask 66 = .ok (.iload_n 1, 1) := by decide +kernel
theorem dX5_ask_67 : decode cX5_ask 67 = .ok (.iconst 0, 1) := by decide +kernel
theorem dX5_ask_68 : decode cX5_ask 68 = .ok (.iastore, 1) := by decide +kernel
theorem dX5_ask_69 : decode cX5_ask 69 = .ok (.iinc 1 1, 3) := by decide +kernel
theorem dX5_ask_72 : decode cX5_ask 72 = .ok (.goto (-55), 3) := by decide +kernel
theorem dX5_ask_75 : decode cX5_ask 75 = .ok (.iconst 0, 1) := by decide +kernel
theorem dX5_ask_76 : decode cX5_ask 76 = .ok (.istore_n 1, 1) := by decide +kernel
theorem dX5_ask_77 : decode cX5_ask 77 = .ok (.iload_n 1, 1) := by decide +kernel
theorem dX5_ask_78 : decode cX5_ask 78 = .ok (.bipush 8, 2) := by decide +kernel
theorem dX5_ask_80 : decode cX5_ask 80 = .ok (.if_icmp .ge 32, 3) := by decide +kernel
theorem dX5_ask_83 : decode cX5_ask 83 = .ok (.aload_n 0, 1) := by decide +kernel
theorem dX5_ask_84 : decode cX5_ask 84 = .ok (.getfield 47, 3) := by decide +kernel
theorem dX5_ask_87 : decode cX5_ask 87 = .ok (.iload_n 1, 1) := by decide +kernel
theorem dX5_ask_88 : decode cX5_ask 88 = .ok (.iload_n 1, 1) := by decide +kernel
theorem dX5_ask_89 : decode cX5_ask 89 = .ok (.iconst 4, 1) := by decide +kernel
theorem dX5_ask_90 : decode cX5_ask 90 = .ok (.irem, 1) := by decide +kernel
theorem dX5_ask_91 : decode cX5_ask 91 = .ok (.iastore, 1) := by decide +kernel
theorem dX5_ask_92 : decode cX5_ask 92 = .ok (.aload_n 0, 1) := by decide +kernel
theorem dX5_ask_93 : decode cX5_ask 93 = .ok (.getfield 54, 3) := by decide +kernel
theorem dX5_ask_96 : decode cX5_ask 96 = .ok (.iload_n 1, 1) := by decide +kernel
theorem dX5_ask_97 : decode cX5_ask 97 = .ok (.iconst 0, 1) := by decide +kernel
theorem dX5_ask_98 : decode cX5_ask 98 = .ok (.iastore, 1) := by decide +kernel
theorem dX5_ask_99 : decode cX5_ask 99 = .ok (.aload_n 0, 1) := by decide +kernel
theorem dX5_ask_100 : decode cX5_ask 100 = .ok (.getfield 57, 3) := by decide +kernel
theorem dX5_ask_103 : decode cX5_ask 103 = .ok (.iload_n 1, 1) := by decide +kernel
theorem dX5_ask_104 : decode cX5_ask 104 = .ok (.iconst 0, 1) := by decide +kernel
theorem dX5_ask_105 : decode cX5_ask 105 = .ok (.iastore, 1) := by decide +kernel
theorem dX5_ask_106 : decode cX5_ask 106 = .ok (.iinc 1 1, 3) := by decide +kernel
theorem dX5_ask_109 : decode cX5_ask 109 = .ok (.goto (-32), 3) := by decide +kernel
theorem dX5_ask_112 : decode cX5_ask 112 = .ok (.iconst 0, 1) := by decide +kernel
theorem dX5_ask_113 : decode cX5_ask 113 = .ok (.istore_n 1, 1) := by decide +kernel
theorem dX5_ask_114 : decode cX5_ask 114 = .ok (.iload_n 1, 1) := by decide +kernel
theorem dX5_ask_115 : decode cX5_ask 115 = .ok (.bipush 100, 2) := by decide +kernel
theorem dX5_ask_117 : decode cX5_ask 117 = .ok (.if_icmp .ge 16, 3) := by decide +kernel
theorem dX5_ask_120 : decode cX5_ask 120 = .ok (.aload_n 0, 1) := by decide +kernel
theorem dX5_ask_121 : decode cX5_ask 121 = .ok (.getfield 69, 3) := by decide +kernel
theorem dX5_ask_124 : decode cX5_ask 124 = .ok (.iload_n 1, 1) := by decide +kernel
theorem dX5_ask_125 : decode cX5_ask 125 = .ok (.iconst 0, 1) := by decide +kernel
theorem dX5_ask_126 : decode cX5_ask 126 = .ok (.iastore, 1) := by decide +kernel
theorem dX5_ask_127 : decode cX5_ask 127 = .ok (.iinc 1 1, 3) := by decide +kernel
theorem dX5_ask_130 : decode cX5_ask 130 = .ok (.goto (-16), 3) := by decide +kernel
theorem dX5_ask_133 : decode cX5_ask 133 = .ok (.iconst 0, 1) := by decide +kernel
theorem dX5_ask_134 : decode cX5_ask 134 = .ok (.istore_n 1, 1) := by decide +kernel
theorem dX5_ask_135 : decode cX5_ask 135 = .ok (.iload_n 1, 1) := by decide +kernel
theorem dX5_ask_136 : decode cX5_ask 136 = .ok (.sipush 2500, 3) := by decide +kernel
theorem dX5_ask_139 : decode cX5_ask 139 = .ok (.if_icmp .ge 16, 3) := by decide +kernel
theorem dX5_ask_142 : decode cX5_ask 142 = .ok (.aload_n 0, 1) := by decide +kernel
theorem dX5_ask_143 : decode cX5_ask 143 = .ok (.getfield 75, 3) := by decide +kernel
theorem dX5_ask_146 : decode cX5_ask 146 = .ok (.iload_n 1, 1) := by decide +kernel
theorem dX5_ask_147 : decode cX5_ask 147 = .ok (.iconst 0, 1) := by decide +kernel
theorem dX5_ask_148 : decode cX5_ask 148 = .ok (.bastore, 1) := by decide +kernel
theorem dX5_ask_149 : decode cX5_ask 149 = .ok (.iinc 1 1, 3) := by decide +kernel
theorem dX5_ask_152 : decode cX5_ask 152 = .ok (.goto (-17), 3) := by decide +kernel
theorem dX5_ask_155 : decode cX5_ask 155 = .ok (.aload_n 0, 1) := by decide +kernel
theorem dX5_ask_156 : decode cX5_ask 156 = .ok (.iconst 0, 1) := by decide +kernel
theorem dX5_ask_157 : decode cX5_ask 157 = .ok (.putfield 100, 3) := by decide +kernel
theorem dX5_ask_160 : decode cX5_ask 160 = .ok (.aload_n 0, 1) := by decide +kernel
theorem dX5_ask_161 : decode cX5_ask 161 = .ok (.iconst 0, 1) := by decide +kernel
theorem dX5_ask_162 : decode cX5_ask 162 = .ok (.putfield 103, 3) := by decide +kernel
theorem dX5_ask_165 : decode cX5_ask 165 = .ok (.aload_n 0, 1) := by decide +kernel
theorem dX5_ask_166 : decode cX5_ask 166 = .ok (.iconst 0, 1) := by decide +kernel
theorem dX5_ask_167 : decode cX5_ask 167 = .ok (.putfield 106, 3) := by decide +kernel
theorem dX5_ask_170 : decode cX5_ask 170 = .ok (.aload_n 0, 1) := by decide +kernel
theorem dX5_ask_171 : decode cX5_ask 171 = .ok (.iconst 0, 1) := by decide +kernel
theorem dX5_ask_172 : decode cX5_ask 172 = .ok (.putfield 109, 3) := by decide +kernel
theorem dX5_ask_175 : decode cX5_ask 175 = .ok (.aload_n 0, 1) := by decide +kernel
theorem dX5_ask_176 : decode cX5_ask 176 = .ok (.iconst (-1), 1) := by decide +kernel
theorem dX5_ask_177 : decode cX5_ask 177 = .ok (.putfield 112, 3) := by decide +kernel
theorem dX5_ask_180 : decode cX5_ask 180 = .ok (.aload_n 0, 1) := by decide +kernel
theorem dX5_ask_181 : decode cX5_ask 181 = .ok (.iconst 0, 1) := by decide +kernel
theorem dX5_ask_182 : decode cX5_ask 182 = .ok (.putfield 115, 3) := by decide +kernel
theorem dX5_ask_185 : decode cX5_ask 185 = .ok (.aload_n 0, 1) := by decide +kernel
theorem dX5_ask_186 : decode cX5_ask 186 = .ok (.iconst 0, 1) := by decide +kernel
theorem dX5_ask_187 : decode cX5_ask 187 = .ok (.putfield 118, 3) := by decide +kernel
theorem dX5_ask_190 : decode cX5_ask 190 = .ok (.aload_n 0, 1) := by decide +kernel
theorem dX5_ask_191 : decode cX5_ask 191 = .ok (.iconst 1, 1) := by decide +kernel
theorem dX5_ask_192 : decode cX5_ask 192 = .ok (.putfield 89, 3) := by decide +kernel
theorem dX5_ask_195 : decode cX5_ask 195 = .ok (.aload_n 0, 1) := by decide +kernel
theorem dX5_ask_196 : decode cX5_ask 196 = .ok (.invokevirtual 121, 3) := by decide +kernel
theorem dX5_ask_199 : decode cX5_ask 199 = .ok (.iconst 1, 1) := by decide +kernel
theorem dX5_ask_200 : decode cX5_ask 200 = .ok (.ireturn, 1) := by decide +kernel
theorem dX5_stop_0 : decode cX5_stop 0 = .ok (.aload_n 0, 1) := by decide +kernel
theorem dX5_stop_1 : decode cX5_stop 1 = .ok (.getfield 89, 3) := by decide +kernel
theorem dX5_stop_4 : decode cX5_stop 4 = .ok (.iconst 1, 1) := by decide +kernel
theorem dX5_stop_5 : decode cX5_stop 5 = .ok (.if_icmp .eq 5, 3) := by decide +kernel
theorem dX5_stop_8 : decode cX5_stop 8 = .ok (.iconst 0, 1) := by decide +kernel
theorem dX5_stop_9 : decode cX5_stop 9 = .ok (.ireturn, 1) := by decide +kernel
theorem dX5_stop_10 : decode cX5_stop 10 = .ok (.aload_n 0, 1) := by decide +kernel
theorem dX5_stop_11 : decode cX5_stop 11 = .ok (.iconst 0, 1) := by decide +kernel
theorem dX5_stop_12 : decode cX5_stop 12 = .ok (.putfield 89, 3) := by decide +kernel
theorem dX5_stop_15 : decode cX5_stop 15 = .ok (.iconst 1, 1) := by decide +kernel
theorem dX5_stop_16 : decode cX5_stop 16 = .ok (.ireturn, 1) := by decide +kernel
theorem dX5_isReadOut_0 : decode cX5_isReadOut 0 = .ok (.aload_n 0, 1) := by decide +kernel
theorem dX5_isReadOut_1 : decode cX5_isReadOut 1 = .ok (.getfield 44, 3) := by decide +kernel
theorem dX5_isReadOut_4 : decode cX5_isReadOut 4 = .ok (.iload_n 1, 1) := by decide +kernel
theorem dX5_isReadOut_5 : decode cX5_isReadOut 5 = .ok (.iaload, 1) := by decide +kernel
theorem dX5_isReadOut_6 : decode cX5_isReadOut 6 = .ok (.aload_n 0, 1) := by decide +kernel
theorem dX5_isReadOut_7 : decode cX5_isReadOut 7 = .ok (.getfield 7, 3) := by decide +kernel
theorem dX5_isReadOut_10 : decode cX5_isReadOut 10 = .ok (.iload_n 1, 1) := by decide +kernel
theorem dX5_isReadOut_11 : decode cX5_isReadOut 11 = .ok (.iaload, 1) := by decide +kernel
theorem dX5_isReadOut_12 : decode cX5_isReadOut 12 = .ok (.if_icmp .ne 7, 3) := by decide +kernel
theorem dX5_isReadOut_15 : decode cX5_isReadOut 15 = .ok (.iconst 1, 1) := by decide +kernel
theorem dX5_isReadOut_16 : decode cX5_isReadOut 16 = .ok (.goto 4, 3) := by decide +kernel
theorem dX5_isReadOut_19 : decode cX5_isReadOut 19 = .ok (.iconst 0, 1) := by decide +kernel
theorem dX5_isReadOut_20 : decode cX5_isReadOut 20 = .ok (.ireturn, 1) := by decide +kernel
theorem dX5_lacking_0 : decode cX5_lacking 0 = .ok (.iconst 0, 1) := by decide +kernel
theorem dX5_lacking_1 : decode cX5_lacking 1 = .ok (.istore_n 1, 1) := by decide +kernel
theorem dX5_lacking_2 : decode cX5_lacking 2 = .ok (.iload_n 1, 1) := by decide +kernel
theorem dX5_lacking_3 : decode cX5_lacking 3 = .ok (.sipush 2500, 3) := by decide +kernel
theorem dX5_lacking_6 : decode cX5_lacking 6 = .ok (.if_icmp .ge 82, 3) := by decide +kernel
theorem dX5_lacking_9 : decode cX5_lacking 9 = .ok (.iload_n 1, 1) := by decide +kernel
theorem dX5_lacking_10 : decode cX5_lacking 10 = .ok (.bipush 50, 2) := by decide +kernel
theorem dX5_lacking_12 : decode cX5_lacking 12 = .ok (.idiv, 1) := by decide +kernel
theorem dX5_lacking_13 : decode cX5_lacking 13 = .ok (.istore_n 2, 1) := by decide +kernel
theorem dX5_lacking_14 : decode cX5_lacking 14 = .ok (.iload_n 1, 1) := by decide +kernel
theorem dX5_lacking_15 : decode cX5_lacking 15 = .ok (.bipush 50, 2) := by decide +kernel
theorem dX5_lacking_17 : decode cX5_lacking 17 = .ok (.irem, 1) := by decide +kernel
theorem dX5_lacking_18 : decode cX5_lacking 18 = .ok (.istore_n 3, 1) := by decide +kernel
theorem dX5_lacking_19 : decode cX5_lacking 19 = .ok (.aload_n 0, 1) := by decide +kernel
theorem dX5_lacking_20 : decode cX5_lacking 20 = .ok (.getfield 75, 3) := by decide +kernel
theorem dX5_lacking_23 : decode cX5_lacking 23 = .ok (.iload_n 1, 1) := by decide +kernel
theorem dX5_lacking_24 : decode cX5_lacking 24 = .ok (.baload, 1) := by decide +kernel
theorem dX5_lacking_25 : decode cX5_lacking 25 = .ok (.ifCond .ne 57, 3) := by decide +kernel
theorem dX5_lacking_28 : decode cX5_lacking 28 = .ok (.iload_n 2, 1) := by decide +kernel
theorem dX5_lacking_29 : decode cX5_lacking 29 = .ok (.aload_n 0, 1) := by decide +kernel
theorem dX5_lacking_30 : decode cX5_lacking 30 = .ok (.getfield 7, 3) := by decide +kernel
theorem dX5_lacking_33 : decode cX5_lacking 33 = .ok (.iconst 0, 1) := by decide +kernel
theorem dX5_lacking_34 : decode cX5_lacking 34 = .ok (.iaload, 1) := by decide +kernel
theorem dX5_lacking_35 : decode cX5_lacking 35 = .ok (.if_icmp .ge 47, 3) := by decide +kernel
theorem dX5_lacking_38 : decode cX5_lacking 38 = .ok (.iload_n 3, 1) := by decide +kernel
theorem dX5_lacking_39 : decode cX5_lacking 39 = .ok (.aload_n 0, 1) := by decide +kernel
theorem dX5_lacking_40 : decode cX5_lacking 40 = .ok (.getfield 7, 3) := by decide +kernel
theorem dX5_lacking_43 : decode cX5_lacking 43 = .ok (.iconst 1, 1) := by decide +kernel
theorem dX5_lacking_44 : decode cX5_lacking 44 = .ok (.iaload, 1) := by decide +kernel
theorem dX5_lacking_45 : decode cX5_lacking 45 = .ok (.if_icmp .ge 37, 3) := by decide +kernel
theorem dX5_lacking_48 : decode cX5_lacking 48 = .ok (.aload_n 0, 1) := by decide +kernel
theorem dX5_lacking_49 : decode cX5_lacking 49 = .ok (.getfield 69, 3) := by decide +kernel
theorem dX5_lacking_52 : decode cX5_lacking 52 = .ok (.iload_n 2, 1) := by decide +kernel
theorem dX5_lacking_53 : decode cX5_lacking 53 = .ok (.iaload, 1) := by decide +kernel
theorem dX5_lacking_54 : decode cX5_lacking 54 = .ok (.iconst 2, 1) := by decide +kernel
theorem dX5_lacking_55 : decode cX5_lacking 55 = .ok (.if_icmp .lt 27, 3) := by decide +kernel
theorem dX5_lacking_58 : decode cX5_lacking 58 = .ok (.aload_n 0, 1) := by decide +kernel
theorem dX5_lacking_59 : decode cX5_lacking 59 = .ok (.getfield 69, 3) := by decide +kernel
theorem dX5_lacking_62 : decode cX5_lacking 62 = .ok (.bipush 50, 2) := by decide +kernel
theorem dX5_lacking_64 : decode cX5_lacking 64 = .ok (.iload_n 3, 1) := by decide +kernel
theorem dX5_lacking_65 : decode cX5_lacking 65 = .ok (.iadd, 1) := by decide +kernel
theorem dX5_lacking_66 : decode cX5_lacking 66 = .ok (.iaload, 1) := by decide +kernel
theorem dX5_lacking_67 : decode cX5_lacking 67 = .ok (.iconst 2, 1) := by decide +kernel
theorem dX5_lacking_68 : decode cX5_lacking 68 = .ok (.if_icmp .lt 14, 3) := by decide +kernel
theorem dX5_lacking_71 : decode cX5_lacking 71 = .ok (.aload_n 0, 1) := by decide +kernel
theorem dX5_lacking_72 : decode cX5_lacking 72 = .ok (.iload_n 2, 1) := by decide +kernel
theorem dX5_lacking_73 : decode cX5_lacking 73 = .ok (.iload_n 3, 1) := by decide +kernel
theorem dX5_lacking_74 : decode cX5_lacking 74 = .ok (.invokevirtual 124, 3) := by decide +kernel
theorem dX5_lacking_77 : decode cX5_lacking 77 = .ok (.ifCond .eq 5, 3) := by decide +kernel
theorem dX5_lacking_80 : decode cX5_lacking 80 = .ok (.iload_n 1, 1) := by decide +kernel
theorem dX5_lacking_81 : decode cX5_lacking 81 = .ok (.ireturn, 1) := by decide +kernel
theorem dX5_lacking_82 : decode cX5_lacking 82 = .ok (.iinc 1 1, 3) := by decide +kernel
theorem dX5_lacking_85 : decode cX5_lacking 85 = .ok (.goto (-83), 3) := by decide +kernel
theorem dX5_lacking_88 : decode cX5_lacking 88 = .ok (.iconst (-1), 1) := by decide +kernel
theorem dX5_lacking_89 : decode cX5_lacking 89 = .ok (.ireturn, 1) := by decide +kernel
theorem dX5_ends_0 : decode cX5_ends 0 = .ok (.aload_n 0, 1) := by decide +kernel
theorem dX5_ends_1 : decode cX5_ends 1 = .ok (.iconst 0, 1) := by decide +kernel
theorem dX5_ends_2 : decode cX5_ends 2 = .ok (.invokevirtual 128, 3) := by decide +kernel
theorem dX5_ends_5 : decode cX5_ends 5 = .ok (.ifCond .eq 24, 3) := by decide +kernel
theorem dX5_ends_8 : decode cX5_ends 8 = .ok (.aload_n 0, 1) := by decide +kernel
theorem dX5_ends_9 : decode cX5_ends 9 = .ok (.iconst 1, 1) := by decide +kernel
theorem dX5_ends_10 : decode cX5_ends 10 = .ok (.invokevirtual 128, 3) := by decide +kernel
theorem dX5_ends_13 : decode cX5_ends 13 = .ok (.ifCond .eq 16, 3) := by decide +kernel
theorem dX5_ends_16 : decode cX5_ends 16 = .ok (.aload_n 0, 1) := by decide +kernel
theorem dX5_ends_17 : decode cX5_ends 17 = .ok (.invokevirtual 131, 3) := by decide +kernel
theorem dX5_ends_20 : decode cX5_ends 20 = .ok (.iconst (-1), 1) := by decide +kernel
theorem dX5_ends_21 : decode cX5_ends 21 = .ok (.if_icmp .ne 8, 3) := by decide +kernel
theorem dX5_ends_24 : decode cX5_ends 24 = .ok (.aload_n 0, 1) := by decide +kernel
theorem dX5_ends_25 : decode cX5_ends 25 = .ok (.iconst 2, 1) := by decide +kernel
theorem dX5_ends_26 : decode cX5_ends 26 = .ok (.putfield 89, 3) := by decide +kernel
theorem dX5_ends_29 : decode cX5_ends 29 = .ok (.return_, 1) := by decide +kernel
theorem dX5_gives_0 : decode cX5_gives 0 = .ok (.aload_n 0, 1) := by decide +kernel
theorem dX5_gives_1 : decode cX5_gives 1 = .ok (.getfield 75, 3) := by decide +kernel
theorem dX5_gives_4 : decode cX5_gives 4 = .ok (.bipush 50, 2) := by decide +kernel
theorem dX5_gives_6 : decode cX5_gives 6 = .ok (.iload_n 1, 1) := by decide +kernel
theorem dX5_gives_7 : decode cX5_gives 7 = .ok (.imul, 1) := by decide +kernel
theorem dX5_gives_8 : decode cX5_gives 8 = .ok (.iload_n 2, 1) := by decide +kernel
theorem dX5_gives_9 : decode cX5_gives 9 = .ok (.iadd, 1) := by decide +kernel
theorem dX5_gives_10 : decode cX5_gives 10 = .ok (.iconst 1, 1) := by decide +kernel
theorem dX5_gives_11 : decode cX5_gives 11 = .ok (.bastore, 1) := by decide +kernel
theorem dX5_gives_12 : decode cX5_gives 12 = .ok (.aload_n 0, 1) := by decide +kernel
theorem dX5_gives_13 : decode cX5_gives 13 = .ok (.getfield 78, 3) := by decide +kernel
theorem dX5_gives_16 : decode cX5_gives 16 = .ok (.aload_n 0, 1) := by decide +kernel
theorem dX5_gives_17 : decode cX5_gives 17 = .ok (.getfield 103, 3) := by decide +kernel
theorem dX5_gives_20 : decode cX5_gives 20 = .ok (.bipush 50, 2) := by decide +kernel
theorem dX5_gives_22 : decode cX5_gives 22 = .ok (.iload_n 1, 1) := by decide +kernel
theorem dX5_gives_23 : decode cX5_gives 23 = .ok (.imul, 1) := by decide +kernel
theorem dX5_gives_24 : decode cX5_gives 24 = .ok (.iload_n 2, 1) := by decide +kernel
theorem dX5_gives_25 : decode cX5_gives 25 = .ok (.iadd, 1) := by decide +kernel
theorem dX5_gives_26 : decode cX5_gives 26 = .ok (.iastore, 1) := by decide +kernel
theorem dX5_gives_27 : decode cX5_gives 27 = .ok (.aload_n 0, 1) := by decide +kernel
theorem dX5_gives_28 : decode cX5_gives 28 = .ok (.dup, 1) := by decide +kernel
theorem dX5_gives_29 : decode cX5_gives 29 = .ok (.getfield 103, 3) := by decide +kernel
theorem dX5_gives_32 : decode cX5_gives 32 = .ok (.iconst 1, 1) := by decide +kernel
theorem dX5_gives_33 : decode cX5_gives 33 = .ok (.iadd, 1) := by decide +kernel
theorem dX5_gives_34 : decode cX5_gives 34 = .ok (.putfield 103, 3) := by decide +kernel
theorem dX5_gives_37 : decode cX5_gives 37 = .ok (.return_, 1) := by decide +kernel
theorem dX5_choose_0 : decode cX5_choose 0 = .ok (.aload_n 0, 1) := by decide +kernel
theorem dX5_choose_1 : decode cX5_choose 1 = .ok (.iconst 0, 1) := by decide +kernel
theorem dX5_choose_2 : decode cX5_choose 2 = .ok (.invokevirtual 128, 3) := by decide +kernel
theorem dX5_choose_5 : decode cX5_choose 5 = .ok (.ifCond .eq 5, 3) := by decide +kernel
theorem dX5_choose_8 : decode cX5_choose 8 = .ok (.iconst 1, 1) := by decide +kernel
theorem dX5_choose_9 : decode cX5_choose 9 = .ok (.ireturn, 1) := by decide +kernel
theorem dX5_choose_10 : decode cX5_choose 10 = .ok (.aload_n 0, 1) := by decide +kernel
theorem dX5_choose_11 : decode cX5_choose 11 = .ok (.iconst 1, 1) := by decide +kernel
theorem dX5_choose_12 : decode cX5_choose 12 = .ok (.invokevirtual 128, 3) := by decide +kernel
theorem dX5_choose_15 : decode cX5_choose 15 = .ok (.ifCond .eq 5, 3) := by decide +kernel
theorem dX5_choose_18 : decode cX5_choose 18 = .ok (.iconst 0, 1) := by decide +kernel
theorem dX5_choose_19 : decode cX5_choose 19 = .ok (.ireturn, 1) := by decide +kernel
theorem dX5_choose_20 : decode cX5_choose 20 = .ok (.aload_n 0, 1) := by decide +kernel
theorem dX5_choose_21 : decode cX5_choose 21 = .ok (.getfield 38, 3) := by decide +kernel
theorem dX5_choose_24 : decode cX5_choose 24 = .ok (.iconst (-1), 1) := by decide +kernel
theorem dX5_choose_25 : decode cX5_choose 25 = .ok (.if_icmp .eq 8, 3) := by decide +kernel
theorem dX5_choose_28 : decode cX5_choose 28 = .ok (.aload_n 0, 1) := by decide +kernel
theorem dX5_choose_29 : decode cX5_choose 29 = .ok (.getfield 38, 3) := by decide +kernel
theorem dX5_choose_32 : decode cX5_choose 32 = .ok (.ireturn, 1) := by decide +kernel
theorem dX5_choose_33 : decode cX5_choose 33 = .ok (.aload_n 0, 1) := by decide +kernel
theorem dX5_choose_34 : decode cX5_choose 34 = .ok (.getfield 66, 3) := by decide +kernel
theorem dX5_choose_37 : decode cX5_choose 37 = .ok (.iconst 0, 1) := by decide +kernel
theorem dX5_choose_38 : decode cX5_choose 38 = .ok (.iaload, 1) := by decide +kernel
theorem dX5_choose_39 : decode cX5_choose 39 = .ok (.iconst 1, 1) := by decide +kernel
theorem dX5_choose_40 : decode cX5_choose 40 = .ok (.iadd, 1) := by decide +kernel
theorem dX5_choose_41 : decode cX5_choose 41 = .ok (.i2l, 1) := by decide +kernel
theorem dX5_choose_42 : decode cX5_choose 42 = .ok (.aload_n 0, 1) := by decide +kernel
theorem dX5_choose_43 : decode cX5_choose 43 = .ok (.getfield 63, 3) := by decide +kernel
theorem dX5_choose_46 : decode cX5_choose 46 = .ok (.iconst 1, 1) := by decide +kernel
theorem dX5_choose_47 : decode cX5_choose 47 = .ok (.iaload, 1) := by decide +kernel
theorem dX5_choose_48 : decode cX5_choose 48 = .ok (.iconst 1, 1) := by decide +kernel
theorem dX5_choose_49 : decode cX5_choose 49 = .ok (.iadd, 1) := by decide +kernel
theorem dX5_choose_50 : decode cX5_choose 50 = .ok (.i2l, 1) := by decide +kernel
theorem dX5_choose_51 : decode cX5_choose 51 = .ok (.lmul, 1) := by decide +kernel
theorem dX5_choose_52 : decode cX5_choose 52 = .ok (.lstore_n 1, 1) := by decide +kernel
theorem dX5_choose_53 : decode cX5_choose 53 = .ok (.aload_n 0, 1) := by decide +kernel
theorem dX5_choose_54 : decode cX5_choose 54 = .ok (.getfield 66, 3) := by decide +kernel
theorem dX5_choose_57 : decode cX5_choose 57 = .ok (.iconst 1, 1) := by decide +kernel
theorem dX5_choose_58 : decode cX5_choose 58 = .ok (.iaload, 1) := by decide +kernel
theorem dX5_choose_59 : decode cX5_choose 59 = .ok (.iconst 1, 1) := by decide +kernel
theorem dX5_choose_60 : decode cX5_choose 60 = .ok (.iadd, 1) := by decide +kernel
theorem dX5_choose_61 : decode cX5_choose 61 = .ok (.i2l, 1) := by decide +kernel
theorem dX5_choose_62 : decode cX5_choose 62 = .ok (.aload_n 0, 1) := by decide +kernel
theorem dX5_choose_63 : decode cX5_choose 63 = .ok (.getfield 63, 3) := by decide +kernel
theorem dX5_choose_66 : decode cX5_choose 66 = .ok (.iconst 0, 1) := by decide +kernel
theorem dX5_choose_67 : decode cX5_choose 67 = .ok (.iaload, 1) := by decide +kernel
theorem dX5_choose_68 : decode cX5_choose 68 = .ok (.iconst 1, 1) := by decide +kernel
theorem dX5_choose_69 : decode cX5_choose 69 = .ok (.iadd, 1) := by decide +kernel
theorem dX5_choose_70 : decode cX5_choose 70 = .ok (.i2l, 1) := by decide +kernel
theorem dX5_choose_71 : decode cX5_choose 71 = .ok (.lmul, 1) := by decide +kernel
theorem dX5_choose_72 : decode cX5_choose 72 = .ok (.lstore_n 3, 1) := by decide +kernel
theorem dX5_choose_73 : decode cX5_choose 73 = .ok (.lload_n 3, 1) := by decide +kernel
theorem dX5_choose_74 : decode cX5_choose 74 = .ok (.lload_n 1, 1) := by decide +kernel
theorem dX5_choose_75 : decode cX5_choose 75 = .ok (.lcmp, 1) := by decide +kernel
theorem dX5_choose_76 : decode cX5_choose 76 = .ok (.ifCond .le 7, 3) := by decide +kernel
theorem dX5_choose_79 : decode cX5_choose 79 = .ok (.iconst 1, 1) := by decide +kernel
theorem dX5_choose_80 : decode cX5_choose 80 = .ok (.goto 4, 3) := by decide +kernel
theorem dX5_choose_83 : decode cX5_choose 83 = .ok (.iconst 0, 1) := by decide +kernel
theorem dX5_choose_84 : decode cX5_choose 84 = .ok (.ireturn, 1) := by decide +kernel
theorem dX5_nextIn_0 : decode cX5_nextIn 0 = .ok (.iconst (-1), 1) := by decide +kernel
theorem dX5_nextIn_1 : decode cX5_nextIn 1 = .ok (.istore_n 3, 1) := by decide +kernel
theorem dX5_nextIn_2 : decode cX5_nextIn 2 = .ok (.iconst 0, 1) := by decide +kernel
theorem dX5_nextIn_3 : decode cX5_nextIn 3 = .ok (.istore 4, 2) := by decide +kernel
theorem dX5_nextIn_5 : decode cX5_nextIn 5 = .ok (.iload 4, 2) := by decide +kernel
theorem dX5_nextIn_7 : decode cX5_nextIn 7 = .ok (.aload_n 0, 1) := by decide +kernel
theorem dX5_nextIn_8 : decode cX5_nextIn 8 = .ok (.getfield 7, 3) := by decide +kernel
theorem dX5_nextIn_11 : decode cX5_nextIn 11 = .ok (.iload_n 1, 1) := by decide +kernel
theorem dX5_nextIn_12 : decode cX5_nextIn 12 = .ok (.iaload, 1) := by decide +kernel
theorem dX5_nextIn_13 : decode cX5_nextIn 13 = .ok (.if_icmp .ge 69, 3) := by decide +kernel
theorem dX5_nextIn_16 : decode cX5_nextIn 16 = .ok (.bipush 50, 2) := by decide +kernel
theorem dX5_nextIn_18 : decode cX5_nextIn 18 = .ok (.iload_n 1, 1) := by decide +kernel
theorem dX5_nextIn_19 : decode cX5_nextIn 19 = .ok (.imul, 1) := by decide +kernel
theorem dX5_nextIn_20 : decode cX5_nextIn 20 = .ok (.iload 4, 2) := by decide +kernel
theorem dX5_nextIn_22 : decode cX5_nextIn 22 = .ok (.iadd, 1) := by decide +kernel
theorem dX5_nextIn_23 : decode cX5_nextIn 23 = .ok (.istore 5, 2) := by decide +kernel
theorem dX5_nextIn_25 : decode cX5_nextIn 25 = .ok (.aload_n 0, 1) := by decide +kernel
theorem dX5_nextIn_26 : decode cX5_nextIn 26 = .ok (.getfield 69, 3) := by decide +kernel
theorem dX5_nextIn_29 : decode cX5_nextIn 29 = .ok (.iload 5, 2) := by decide +kernel
theorem dX5_nextIn_31 : decode cX5_nextIn 31 = .ok (.iaload, 1) := by decide +kernel
theorem dX5_nextIn_32 : decode cX5_nextIn 32 = .ok (.iconst 2, 1) := by decide +kernel
theorem dX5_nextIn_33 : decode cX5_nextIn 33 = .ok (.if_icmp .ne 43, 3) := by decide +kernel
theorem dX5_nextIn_36 : decode cX5_nextIn 36 = .ok (.aload_n 0, 1) := by decide +kernel
theorem dX5_nextIn_37 : decode cX5_nextIn 37 = .ok (.getfield 72, 3) := by decide +kernel
theorem dX5_nextIn_40 : decode cX5_nextIn 40 = .ok (.iload 5, 2) := by decide +kernel
theorem dX5_nextIn_42 : decode cX5_nextIn 42 = .ok (.iaload, 1) := by decide +kernel
theorem dX5_nextIn_43 : decode cX5_nextIn 43 = .ok (.iload_n 2, 1) := by decide +kernel
theorem dX5_nextIn_44 : decode cX5_nextIn 44 = .ok (.if_icmp .le 32, 3) := by decide +kernel
theorem dX5_nextIn_47 : decode cX5_nextIn 47 = .ok (.iload_n 3, 1) := by decide +kernel
theorem dX5_nextIn_48 : decode cX5_nextIn 48 = .ok (.iconst (-1), 1) := by decide +kernel
theorem dX5_nextIn_49 : decode cX5_nextIn 49 = .ok (.if_icmp .eq 24, 3) := by decide +kernel
theorem dX5_nextIn_52 : decode cX5_nextIn 52 = .ok (.aload_n 0, 1) := by decide +kernel
theorem dX5_nextIn_53 : decode cX5_nextIn 53 = .ok (.getfield 72, 3) := by decide +kernel
theorem dX5_nextIn_56 : decode cX5_nextIn 56 = .ok (.iload 5, 2) := by decide +kernel
theorem dX5_nextIn_58 : decode cX5_nextIn 58 = .ok (.iaload, 1) := by decide +kernel
theorem dX5_nextIn_59 : decode cX5_nextIn 59 = .ok (.aload_n 0, 1) := by decide +kernel
theorem dX5_nextIn_60 : decode cX5_nextIn 60 = .ok (.getfield 72, 3) := by decide +kernel
theorem dX5_nextIn_63 : decode cX5_nextIn 63 = .ok (.bipush 50, 2) := by decide +kernel
theorem dX5_nextIn_65 : decode cX5_nextIn 65 = .ok (.iload_n 1, 1) := by decide +kernel
theorem dX5_nextIn_66 : decode cX5_nextIn 66 = .ok (.imul, 1) := by decide +kernel
theorem dX5_nextIn_67 : decode cX5_nextIn 67 = .ok (.iload_n 3, 1) := by decide +kernel
theorem dX5_nextIn_68 : decode cX5_nextIn 68 = .ok (.iadd, 1) := by decide +kernel
theorem dX5_nextIn_69 : decode cX5_nextIn 69 = .ok (.iaload, 1) := by decide +kernel
theorem dX5_nextIn_70 : decode cX5_nextIn 70 = .ok (.if_icmp .ge 6, 3) := by decide +kernel
theorem dX5_nextIn_73 : decode cX5_nextIn 73 = .ok (.iload 4, 2) := by decide +kernel
theorem dX5_nextIn_75 : decode cX5_nextIn 75 = .ok (.istore_n 3, 1) := by decide +kernel
theorem dX5_nextIn_76 : decode cX5_nextIn 76 = .ok (.iinc 4 1, 3) := by decide +kernel
theorem dX5_nextIn_79 : decode cX5_nextIn 79 = .ok (.goto (-74), 3) := by decide +kernel
theorem dX5_nextIn_82 : decode cX5_nextIn 82 = .ok (.iload_n 3, 1) := by decide +kernel
theorem dX5_nextIn_83 : decode cX5_nextIn 83 = .ok (.ireturn, 1) := by decide +kernel
theorem dX5_reads_0 : decode cX5_reads 0 = .ok (.aload_n 0, 1) := by decide +kernel
theorem dX5_reads_1 : decode cX5_reads 1 = .ok (.getfield 44, 3) := by decide +kernel
theorem dX5_reads_4 : decode cX5_reads 4 = .ok (.iload_n 1, 1) := by decide +kernel
theorem dX5_reads_5 : decode cX5_reads 5 = .ok (.iaload, 1) := by decide +kernel
theorem dX5_reads_6 : decode cX5_reads 6 = .ok (.istore_n 2, 1) := by decide +kernel
theorem dX5_reads_7 : decode cX5_reads 7 = .ok (.aload_n 0, 1) := by decide +kernel
theorem dX5_reads_8 : decode cX5_reads 8 = .ok (.getfield 44, 3) := by decide +kernel
theorem dX5_reads_11 : decode cX5_reads 11 = .ok (.iload_n 1, 1) := by decide +kernel
theorem dX5_reads_12 : decode cX5_reads 12 = .ok (.dup2, 1) := by decide +kernel
theorem dX5_reads_13 : decode cX5_reads 13 = .ok (.iaload, 1) := by decide +kernel
theorem dX5_reads_14 : decode cX5_reads 14 = .ok (.iconst 1, 1) := by decide +kernel
theorem dX5_reads_15 : decode cX5_reads 15 = .ok (.iadd, 1) := by decide +kernel
theorem dX5_reads_16 : decode cX5_reads 16 = .ok (.iastore, 1) := by decide +kernel
theorem dX5_reads_17 : decode cX5_reads 17 = .ok (.aload_n 0, 1) := by decide +kernel
theorem dX5_reads_18 : decode cX5_reads 18 = .ok (.getfield 112, 3) := by decide +kernel
theorem dX5_reads_21 : decode cX5_reads 21 = .ok (.iconst (-1), 1) := by decide +kernel
theorem dX5_reads_22 : decode cX5_reads 22 = .ok (.if_icmp .eq 21, 3) := by decide +kernel
theorem dX5_reads_25 : decode cX5_reads 25 = .ok (.aload_n 0, 1) := by decide +kernel
theorem dX5_reads_26 : decode cX5_reads 26 = .ok (.getfield 112, 3) := by decide +kernel
theorem dX5_reads_29 : decode cX5_reads 29 = .ok (.iload_n 1, 1) := by decide +kernel
theorem dX5_reads_30 : decode cX5_reads 30 = .ok (.if_icmp .eq 13, 3) := by decide +kernel
theorem dX5_reads_33 : decode cX5_reads 33 = .ok (.aload_n 0, 1) := by decide +kernel
theorem dX5_reads_34 : decode cX5_reads 34 = .ok (.dup, 1) := by decide +kernel
theorem dX5_reads_35 : decode cX5_reads 35 = .ok (.getfield 115, 3) := by decide +kernel
theorem dX5_reads_38 : decode cX5_reads 38 = .ok (.iconst 1, 1) := by decide +kernel
theorem dX5_reads_39 : decode cX5_reads 39 = .ok (.iadd, 1) := by decide +kernel
theorem dX5_reads_40 : decode cX5_reads 40 = .ok (.putfield 115, 3) := by decide +kernel
theorem dX5_reads_43 : decode cX5_reads 43 = .ok (.aload_n 0, 1) := by decide +kernel
theorem dX5_reads_44 : decode cX5_reads 44 = .ok (.iload_n 1, 1) := by decide +kernel
theorem dX5_reads_45 : decode cX5_reads 45 = .ok (.putfield 112, 3) := by decide +kernel
theorem dX5_reads_48 : decode cX5_reads 48 = .ok (.iconst 1, 1) := by decide +kernel
theorem dX5_reads_49 : decode cX5_reads 49 = .ok (.istore_n 3, 1) := by decide +kernel
theorem dX5_reads_50 : decode cX5_reads 50 = .ok (.iconst 1, 1) := by decide +kernel
theorem dX5_reads_51 : decode cX5_reads 51 = .ok (.istore 4, 2) := by decide +kernel
theorem dX5_reads_53 : decode cX5_reads 53 = .ok (.iconst 0, 1) := by decide +kernel
theorem dX5_reads_54 : decode cX5_reads 54 = .ok (.istore 5, 2) := by decide +kernel
theorem dX5_reads_56 : decode cX5_reads 56 = .ok (.iload 5, 2) := by decide +kernel
theorem dX5_reads_58 : decode cX5_reads 58 = .ok (.aload_n 0, 1) := by decide +kernel
theorem dX5_reads_59 : decode cX5_reads 59 = .ok (.getfield 41, 3) := by decide +kernel
theorem dX5_reads_62 : decode cX5_reads 62 = .ok (.iload_n 1, 1) := by decide +kernel
theorem dX5_reads_63 : decode cX5_reads 63 = .ok (.iaload, 1) := by decide +kernel
theorem dX5_reads_64 : decode cX5_reads 64 = .ok (.if_icmp .ge 103, 3) := by decide +kernel
theorem dX5_reads_67 : decode cX5_reads 67 = .ok (.iload 4, 2) := by decide +kernel
theorem dX5_reads_69 : decode cX5_reads 69 = .ok (.ifCond .eq 98, 3) := by decide +kernel
theorem dX5_reads_72 : decode cX5_reads 72 = .ok (.iconst 4, 1) := by decide +kernel
theorem dX5_reads_73 : decode cX5_reads 73 = .ok (.iload_n 1, 1) := by decide +kernel
theorem dX5_reads_74 : decode cX5_reads 74 = .ok (.imul, 1) := by decide +kernel
theorem dX5_reads_75 : decode cX5_reads 75 = .ok (.aload_n 0, 1) := by decide +kernel
theorem dX5_reads_76 : decode cX5_reads 76 = .ok (.getfield 47, 3) := by decide +kernel
theorem dX5_reads_79 : decode cX5_reads 79 = .ok (.iconst 4, 1) := by decide +kernel
theorem dX5_reads_80 : decode cX5_reads 80 = .ok (.iload_n 1, 1) := by decide +kernel
theorem dX5_reads_81 : decode cX5_reads 81 = .ok (.imul, 1) := by decide +kernel
theorem dX5_reads_82 : decode cX5_reads 82 = .ok (.iload 5, 2) := by decide +kernel
theorem dX5_reads_84 : decode cX5_reads 84 = .ok (.iadd, 1) := by decide +kernel
theorem dX5_reads_85 : decode cX5_reads 85 = .ok (.iaload, 1) := by decide +kernel
theorem dX5_reads_86 : decode cX5_reads 86 = .ok (.iadd, 1) := by decide +kernel
theorem dX5_reads_87 : decode cX5_reads 87 = .ok (.istore 6, 2) := by decide +kernel
theorem dX5_reads_89 : decode cX5_reads 89 = .ok (.aload_n 0, 1) := by decide +kernel
theorem dX5_reads_90 : decode cX5_reads 90 = .ok (.getfield 54, 3) := by decide +kernel
theorem dX5_reads_93 : decode cX5_reads 93 = .ok (.iload 6, 2) := by decide +kernel
theorem dX5_reads_95 : decode cX5_reads 95 = .ok (.dup2, 1) := by decide +kernel
theorem dX5_reads_96 : decode cX5_reads 96 = .ok (.iaload, 1) := by decide +kernel
theorem dX5_reads_97 : decode cX5_reads 97 = .ok (.iconst 1, 1) := by decide +kernel
theorem dX5_reads_98 : decode cX5_reads 98 = .ok (.iadd, 1) := by decide +kernel
theorem dX5_reads_99 : decode cX5_reads 99 = .ok (.iastore, 1) := by decide +kernel
theorem dX5_reads_100 : decode cX5_reads 100 = .ok (.iload_n 3, 1) := by decide +kernel
theorem dX5_reads_101 : decode cX5_reads 101 = .ok (.aload_n 0, 1) := by decide +kernel
theorem dX5_reads_102 : decode cX5_reads 102 = .ok (.getfield 28, 3) := by decide +kernel
theorem dX5_reads_105 : decode cX5_reads 105 = .ok (.iload 6, 2) := by decide +kernel
theorem dX5_reads_107 : decode cX5_reads 107 = .ok (.iaload, 1) := by decide +kernel
theorem dX5_reads_108 : decode cX5_reads 108 = .ok (.iadd, 1) := by decide +kernel
theorem dX5_reads_109 : decode cX5_reads 109 = .ok (.istore_n 3, 1) := by decide +kernel
theorem dX5_reads_110 : decode cX5_reads 110 = .ok (.aload_n 0, 1) := by decide +kernel
theorem dX5_reads_111 : decode cX5_reads 111 = .ok (.getfield 60, 3) := by decide +kernel
theorem dX5_reads_114 : decode cX5_reads 114 = .ok (.iload_n 1, 1) := by decide +kernel
theorem dX5_reads_115 : decode cX5_reads 115 = .ok (.dup2, 1) := by decide +kernel
theorem dX5_reads_116 : decode cX5_reads 116 = .ok (.iaload, 1) := by decide +kernel
theorem dX5_reads_117 : decode cX5_reads 117 = .ok (.aload_n 0, 1) := by decide +kernel
theorem dX5_reads_118 : decode cX5_reads 118 = .ok (.getfield 28, 3) := by decide +kernel
theorem dX5_reads_121 : decode cX5_reads 121 = .ok (.iload 6, 2) := by decide +kernel
theorem dX5_reads_123 : decode cX5_reads 123 = .ok (.iaload, 1) := by decide +kernel
theorem dX5_reads_124 : decode cX5_reads 124 = .ok (.iadd, 1) := by decide +kernel
theorem dX5_reads_125 : decode cX5_reads 125 = .ok (.iastore, 1) := by decide +kernel
theorem dX5_reads_126 : decode cX5_reads 126 = .ok (.aload_n 0, 1) := by decide +kernel
theorem dX5_reads_127 : decode cX5_reads 127 = .ok (.iload_n 1, 1) := by decide +kernel
theorem dX5_reads_128 : decode cX5_reads 128 = .ok (.iload_n 2, 1) := by decide +kernel
theorem dX5_reads_129 : decode cX5_reads 129 = .ok (.aload_n 0, 1) := by decide +kernel
theorem dX5_reads_130 : decode cX5_reads 130 = .ok (.getfield 47, 3) := by decide +kernel
theorem dX5_reads_133 : decode cX5_reads 133 = .ok (.iconst 4, 1) := by decide +kernel
theorem dX5_reads_134 : decode cX5_reads 134 = .ok (.iload_n 1, 1) := by decide +kernel
theorem dX5_reads_135 : decode cX5_reads 135 = .ok (.imul, 1) := by decide +kernel
theorem dX5_reads_136 : decode cX5_reads 136 = .ok (.iload 5, 2) := by decide +kernel
theorem dX5_reads_138 : decode cX5_reads 138 = .ok (.iadd, 1) := by decide +kernel
theorem dX5_reads_139 : decode cX5_reads 139 = .ok (.iaload, 1) := by decide +kernel
theorem dX5_reads_140 : decode cX5_reads 140 = .ok (.invokevirtual 135, 3) := by decide +kernel
theorem dX5_reads_143 : decode cX5_reads 143 = .ok (.istore 4, 2) := by decide +kernel
theorem dX5_reads_145 : decode cX5_reads 145 = .ok (.iload 4, 2) := by decide +kernel
theorem dX5_reads_147 : decode cX5_reads 147 = .ok (.ifCond .ne 14, 3) := by decide +kernel
theorem dX5_reads_150 : decode cX5_reads 150 = .ok (.aload_n 0, 1) := by decide +kernel
theorem dX5_reads_151 : decode cX5_reads 151 = .ok (.getfield 57, 3) := by decide +kernel
theorem dX5_reads_154 : decode cX5_reads 154 = .ok (.iload 6, 2) := by decide +kernel
theorem dX5_reads_156 : decode cX5_reads 156 = .ok (.dup2, 1) := by decide +kernel
theorem dX5_reads_157 : decode cX5_reads 157 = .ok (.iaload, 1) := by decide +kernel
theorem dX5_reads_158 : decode cX5_reads 158 = .ok (.iconst 1, 1) := by decide +kernel
theorem dX5_reads_159 : decode cX5_reads 159 = .ok (.iadd, 1) := by decide +kernel
theorem dX5_reads_160 : decode cX5_reads 160 = .ok (.iastore, 1) := by decide +kernel
theorem dX5_reads_161 : decode cX5_reads 161 = .ok (.iinc 5 1, 3) := by decide +kernel
theorem dX5_reads_164 : decode cX5_reads 164 = .ok (.goto (-108), 3) := by decide +kernel
theorem dX5_reads_167 : decode cX5_reads 167 = .ok (.aload_n 0, 1) := by decide +kernel
theorem dX5_reads_168 : decode cX5_reads 168 = .ok (.getfield 69, 3) := by decide +kernel
theorem dX5_reads_171 : decode cX5_reads 171 = .ok (.bipush 50, 2) := by decide +kernel
theorem dX5_reads_173 : decode cX5_reads 173 = .ok (.iload_n 1, 1) := by decide +kernel
theorem dX5_reads_174 : decode cX5_reads 174 = .ok (.imul, 1) := by decide +kernel
theorem dX5_reads_175 : decode cX5_reads 175 = .ok (.iload_n 2, 1) := by decide +kernel
theorem dX5_reads_176 : decode cX5_reads 176 = .ok (.iadd, 1) := by decide +kernel
theorem dX5_reads_177 : decode cX5_reads 177 = .ok (.iconst 1, 1) := by decide +kernel
theorem dX5_reads_178 : decode cX5_reads 178 = .ok (.iastore, 1) := by decide +kernel
theorem dX5_reads_179 : decode cX5_reads 179 = .ok (.iload 4, 2) := by decide +kernel
theorem dX5_reads_181 : decode cX5_reads 181 = .ok (.ifCond .eq 12, 3) := by decide +kernel
theorem dX5_reads_184 : decode cX5_reads 184 = .ok (.iload_n 3, 1) := by decide +kernel
theorem dX5_reads_185 : decode cX5_reads 185 = .ok (.aload_n 0, 1) := by decide +kernel
theorem dX5_reads_186 : decode cX5_reads 186 = .ok (.iload_n 1, 1) := by decide +kernel
theorem dX5_reads_187 : decode cX5_reads 187 = .ok (.iload_n 2, 1) := by decide +kernel
theorem dX5_reads_188 : decode cX5_reads 188 = .ok (.invokevirtual 138, 3) := by decide +kernel
theorem dX5_reads_191 : decode cX5_reads 191 = .ok (.iadd, 1) := by decide +kernel
theorem dX5_reads_192 : decode cX5_reads 192 = .ok (.istore_n 3, 1) := by decide +kernel
theorem dX5_reads_193 : decode cX5_reads 193 = .ok (.aload_n 0, 1) := by decide +kernel
theorem dX5_reads_194 : decode cX5_reads 194 = .ok (.dup, 1) := by decide +kernel
theorem dX5_reads_195 : decode cX5_reads 195 = .ok (.getfield 106, 3) := by decide +kernel
theorem dX5_reads_198 : decode cX5_reads 198 = .ok (.iload_n 3, 1) := by decide +kernel
theorem dX5_reads_199 : decode cX5_reads 199 = .ok (.iadd, 1) := by decide +kernel
theorem dX5_reads_200 : decode cX5_reads 200 = .ok (.putfield 106, 3) := by decide +kernel
theorem dX5_reads_203 : decode cX5_reads 203 = .ok (.aload_n 0, 1) := by decide +kernel
theorem dX5_reads_204 : decode cX5_reads 204 = .ok (.getfield 63, 3) := by decide +kernel
theorem dX5_reads_207 : decode cX5_reads 207 = .ok (.iload_n 1, 1) := by decide +kernel
theorem dX5_reads_208 : decode cX5_reads 208 = .ok (.dup2, 1) := by decide +kernel
theorem dX5_reads_209 : decode cX5_reads 209 = .ok (.iaload, 1) := by decide +kernel
theorem dX5_reads_210 : decode cX5_reads 210 = .ok (.iload_n 3, 1) := by decide +kernel
theorem dX5_reads_211 : decode cX5_reads 211 = .ok (.iadd, 1) := by decide +kernel
theorem dX5_reads_212 : decode cX5_reads 212 = .ok (.iastore, 1) := by decide +kernel
theorem dX5_reads_213 : decode cX5_reads 213 = .ok (.aload_n 0, 1) := by decide +kernel
theorem dX5_reads_214 : decode cX5_reads 214 = .ok (.getfield 44, 3) := by decide +kernel
theorem dX5_reads_217 : decode cX5_reads 217 = .ok (.iload_n 1, 1) := by decide +kernel
theorem dX5_reads_218 : decode cX5_reads 218 = .ok (.iaload, 1) := by decide +kernel
theorem dX5_reads_219 : decode cX5_reads 219 = .ok (.iconst 4, 1) := by decide +kernel
theorem dX5_reads_220 : decode cX5_reads 220 = .ok (.irem, 1) := by decide +kernel
theorem dX5_reads_221 : decode cX5_reads 221 = .ok (.ifCond .ne 8, 3) := by decide +kernel
theorem dX5_reads_224 : decode cX5_reads 224 = .ok (.aload_n 0, 1) := by decide +kernel
theorem dX5_reads_225 : decode cX5_reads 225 = .ok (.iload_n 1, 1) := by decide +kernel
theorem dX5_reads_226 : decode cX5_reads 226 = .ok (.invokevirtual 142, 3) := by decide +kernel
theorem dX5_reads_229 : decode cX5_reads 229 = .ok (.return_, 1) := by decide +kernel
theorem dX5_finds_0 : decode cX5_finds 0 = .ok (.iconst 0, 1) := by decide +kernel
theorem dX5_finds_1 : decode cX5_finds 1 = .ok (.istore_n 3, 1) := by decide +kernel
theorem dX5_finds_2 : decode cX5_finds 2 = .ok (.iconst (-1), 1) := by decide +kernel
theorem dX5_finds_3 : decode cX5_finds 3 = .ok (.istore 4, 2) := by decide +kernel
theorem dX5_finds_5 : decode cX5_finds 5 = .ok (.aload_n 0, 1) := by decide +kernel
theorem dX5_finds_6 : decode cX5_finds 6 = .ok (.iconst 1, 1) := by decide +kernel
theorem dX5_finds_7 : decode cX5_finds 7 = .ok (.iload_n 1, 1) := by decide +kernel
theorem dX5_finds_8 : decode cX5_finds 8 = .ok (.isub, 1) := by decide +kernel
theorem dX5_finds_9 : decode cX5_finds 9 = .ok (.iload 4, 2) := by decide +kernel
theorem dX5_finds_11 : decode cX5_finds 11 = .ok (.invokevirtual 145, 3) := by decide +kernel
theorem dX5_finds_14 : decode cX5_finds 14 = .ok (.istore 5, 2) := by decide +kernel
theorem dX5_finds_16 : decode cX5_finds 16 = .ok (.iload 5, 2) := by decide +kernel
theorem dX5_finds_18 : decode cX5_finds 18 = .ok (.iconst (-1), 1) := by decide +kernel
theorem dX5_finds_19 : decode cX5_finds 19 = .ok (.if_icmp .eq 79, 3) := by decide +kernel
theorem dX5_finds_22 : decode cX5_finds 22 = .ok (.aload_n 0, 1) := by decide +kernel
theorem dX5_finds_23 : decode cX5_finds 23 = .ok (.getfield 72, 3) := by decide +kernel
theorem dX5_finds_26 : decode cX5_finds 26 = .ok (.bipush 50, 2) := by decide +kernel
theorem dX5_finds_28 : decode cX5_finds 28 = .ok (.iconst 1, 1) := by decide +kernel
theorem dX5_finds_29 : decode cX5_finds 29 = .ok (.iload_n 1, 1) := by decide +kernel
theorem dX5_finds_30 : decode cX5_finds 30 = .ok (.isub, 1) := by decide +kernel
theorem dX5_finds_31 : decode cX5_finds 31 = .ok (.imul, 1) := by decide +kernel
theorem dX5_finds_32 : decode cX5_finds 32 = .ok (.iload 5, 2) := by decide +kernel
theorem dX5_finds_34 : decode cX5_finds 34 = .ok (.iadd, 1) := by decide +kernel
theorem dX5_finds_35 : decode cX5_finds 35 = .ok (.iaload, 1) := by decide +kernel
theorem dX5_finds_36 : decode cX5_finds 36 = .ok (.istore 4, 2) := by decide +kernel
theorem dX5_finds_38 : decode cX5_finds 38 = .ok (.iload_n 1, 1) := by decide +kernel
theorem dX5_finds_39 : decode cX5_finds 39 = .ok (.ifCond .ne 7, 3) := by decide +kernel
theorem dX5_finds_42 : decode cX5_finds 42 = .ok (.iload_n 2, 1) := by decide +kernel
theorem dX5_finds_43 : decode cX5_finds 43 = .ok (.goto 5, 3) := by decide +kernel
theorem dX5_finds_46 : decode cX5_finds 46 = .ok (.iload 5, 2) := by decide +kernel
theorem dX5_finds_48 : decode cX5_finds 48 = .ok (.istore 6, 2) := by decide +kernel
theorem dX5_finds_50 : decode cX5_finds 50 = .ok (.iload_n 1, 1) := by decide +kernel
theorem dX5_finds_51 : decode cX5_finds 51 = .ok (.ifCond .ne 8, 3) := by decide +kernel
theorem dX5_finds_54 : decode cX5_finds 54 = .ok (.iload 5, 2) := by decide +kernel
theorem dX5_finds_56 : decode cX5_finds 56 = .ok (.goto 4, 3) := by decide +kernel
theorem dX5_finds_59 : decode cX5_finds 59 = .ok (.iload_n 2, 1) := by decide +kernel
theorem dX5_finds_60 : decode cX5_finds 60 = .ok (.istore 7, 2) := by decide +kernel
theorem dX5_finds_62 : decode cX5_finds 62 = .ok (.aload_n 0, 1) := by decide +kernel
theorem dX5_finds_63 : decode cX5_finds 63 = .ok (.iload 6, 2) := by decide +kernel
theorem dX5_finds_65 : decode cX5_finds 65 = .ok (.iload 7, 2) := by decide +kernel
theorem dX5_finds_67 : decode cX5_finds 67 = .ok (.invokevirtual 124, 3) := by decide +kernel
theorem dX5_finds_70 : decode cX5_finds 70 = .ok (.ifCond .eq 14, 3) := by decide +kernel
theorem dX5_finds_73 : decode cX5_finds 73 = .ok (.aload_n 0, 1) := by decide +kernel
theorem dX5_finds_74 : decode cX5_finds 74 = .ok (.iload 6, 2) := by decide +kernel
theorem dX5_finds_76 : decode cX5_finds 76 = .ok (.iload 7, 2) := by decide +kernel
theorem dX5_finds_78 : decode cX5_finds 78 = .ok (.invokevirtual 148, 3) := by decide +kernel
theorem dX5_finds_81 : decode cX5_finds 81 = .ok (.iinc 3 1, 3) := by decide +kernel
theorem dX5_finds_84 : decode cX5_finds 84 = .ok (.aload_n 0, 1) := by decide +kernel
theorem dX5_finds_85 : decode cX5_finds 85 = .ok (.iconst 1, 1) := by decide +kernel
theorem dX5_finds_86 : decode cX5_finds 86 = .ok (.iload_n 1, 1) := by decide +kernel
theorem dX5_finds_87 : decode cX5_finds 87 = .ok (.isub, 1) := by decide +kernel
theorem dX5_finds_88 : decode cX5_finds 88 = .ok (.iload 4, 2) := by decide +kernel
theorem dX5_finds_90 : decode cX5_finds 90 = .ok (.invokevirtual 145, 3) := by decide +kernel
theorem dX5_finds_93 : decode cX5_finds 93 = .ok (.istore 5, 2) := by decide +kernel
theorem dX5_finds_95 : decode cX5_finds 95 = .ok (.goto (-79), 3) := by decide +kernel
theorem dX5_finds_98 : decode cX5_finds 98 = .ok (.aload_n 0, 1) := by decide +kernel
theorem dX5_finds_99 : decode cX5_finds 99 = .ok (.getfield 66, 3) := by decide +kernel
theorem dX5_finds_102 : decode cX5_finds 102 = .ok (.iload_n 1, 1) := by decide +kernel
theorem dX5_finds_103 : decode cX5_finds 103 = .ok (.dup2, 1) := by decide +kernel
theorem dX5_finds_104 : decode cX5_finds 104 = .ok (.iaload, 1) := by decide +kernel
theorem dX5_finds_105 : decode cX5_finds 105 = .ok (.iload_n 3, 1) := by decide +kernel
theorem dX5_finds_106 : decode cX5_finds 106 = .ok (.iadd, 1) := by decide +kernel
theorem dX5_finds_107 : decode cX5_finds 107 = .ok (.iastore, 1) := by decide +kernel
theorem dX5_finds_108 : decode cX5_finds 108 = .ok (.aload_n 0, 1) := by decide +kernel
theorem dX5_finds_109 : decode cX5_finds 109 = .ok (.getfield 69, 3) := by decide +kernel
theorem dX5_finds_112 : decode cX5_finds 112 = .ok (.bipush 50, 2) := by decide +kernel
theorem dX5_finds_114 : decode cX5_finds 114 = .ok (.iload_n 1, 1) := by decide +kernel
theorem dX5_finds_115 : decode cX5_finds 115 = .ok (.imul, 1) := by decide +kernel
theorem dX5_finds_116 : decode cX5_finds 116 = .ok (.iload_n 2, 1) := by decide +kernel
theorem dX5_finds_117 : decode cX5_finds 117 = .ok (.iadd, 1) := by decide +kernel
theorem dX5_finds_118 : decode cX5_finds 118 = .ok (.iconst 2, 1) := by decide +kernel
theorem dX5_finds_119 : decode cX5_finds 119 = .ok (.iastore, 1) := by decide +kernel
theorem dX5_finds_120 : decode cX5_finds 120 = .ok (.aload_n 0, 1) := by decide +kernel
theorem dX5_finds_121 : decode cX5_finds 121 = .ok (.getfield 72, 3) := by decide +kernel
theorem dX5_finds_124 : decode cX5_finds 124 = .ok (.bipush 50, 2) := by decide +kernel
theorem dX5_finds_126 : decode cX5_finds 126 = .ok (.iload_n 1, 1) := by decide +kernel
theorem dX5_finds_127 : decode cX5_finds 127 = .ok (.imul, 1) := by decide +kernel
theorem dX5_finds_128 : decode cX5_finds 128 = .ok (.iload_n 2, 1) := by decide +kernel
theorem dX5_finds_129 : decode cX5_finds 129 = .ok (.iadd, 1) := by decide +kernel
theorem dX5_finds_130 : decode cX5_finds 130 = .ok (.aload_n 0, 1) := by decide +kernel
theorem dX5_finds_131 : decode cX5_finds 131 = .ok (.getfield 100, 3) := by decide +kernel
theorem dX5_finds_134 : decode cX5_finds 134 = .ok (.iastore, 1) := by decide +kernel
theorem dX5_finds_135 : decode cX5_finds 135 = .ok (.aload_n 0, 1) := by decide +kernel
theorem dX5_finds_136 : decode cX5_finds 136 = .ok (.dup, 1) := by decide +kernel
theorem dX5_finds_137 : decode cX5_finds 137 = .ok (.getfield 100, 3) := by decide +kernel
theorem dX5_finds_140 : decode cX5_finds 140 = .ok (.iconst 1, 1) := by decide +kernel
theorem dX5_finds_141 : decode cX5_finds 141 = .ok (.iadd, 1) := by decide +kernel
theorem dX5_finds_142 : decode cX5_finds 142 = .ok (.putfield 100, 3) := by decide +kernel
theorem dX5_finds_145 : decode cX5_finds 145 = .ok (.aload_n 0, 1) := by decide +kernel
theorem dX5_finds_146 : decode cX5_finds 146 = .ok (.invokevirtual 152, 3) := by decide +kernel
theorem dX5_finds_149 : decode cX5_finds 149 = .ok (.iload_n 3, 1) := by decide +kernel
theorem dX5_finds_150 : decode cX5_finds 150 = .ok (.ireturn, 1) := by decide +kernel
theorem dX5_inMemory_0 : decode cX5_inMemory 0 = .ok (.iconst 0, 1) := by decide +kernel
theorem dX5_inMemory_1 : decode cX5_inMemory 1 = .ok (.istore_n 1, 1) := by decide +kernel
theorem dX5_inMemory_2 : decode cX5_inMemory 2 = .ok (.iconst 0, 1) := by decide +kernel
theorem dX5_inMemory_3 : decode cX5_inMemory 3 = .ok (.istore_n 2, 1) := by decide +kernel
theorem dX5_inMemory_4 : decode cX5_inMemory 4 = .ok (.iload_n 2, 1) := by decide +kernel
theorem dX5_inMemory_5 : decode cX5_inMemory 5 = .ok (.bipush 100, 2) := by decide +kernel
theorem dX5_inMemory_7 : decode cX5_inMemory 7 = .ok (.if_icmp .ge 27, 3) := by decide +kernel
theorem dX5_inMemory_10 : decode cX5_inMemory 10 = .ok (.iload_n 1, 1) := by decide +kernel
theorem dX5_inMemory_11 : decode cX5_inMemory 11 = .ok (.aload_n 0, 1) := by decide +kernel
theorem dX5_inMemory_12 : decode cX5_inMemory 12 = .ok (.getfield 69, 3) := by decide +kernel
theorem dX5_inMemory_15 : decode cX5_inMemory 15 = .ok (.iload_n 2, 1) := by decide +kernel
theorem dX5_inMemory_16 : decode cX5_inMemory 16 = .ok (.iaload, 1) := by decide +kernel
theorem dX5_inMemory_17 : decode cX5_inMemory 17 = .ok (.iconst 2, 1) := by decide +kernel
theorem dX5_inMemory_18 : decode cX5_inMemory 18 = .ok (.if_icmp .ne 7, 3) := by decide +kernel
theorem dX5_inMemory_21 : decode cX5_inMemory 21 = .ok (.iconst 1, 1) := by decide +kernel
theorem dX5_inMemory_22 : decode cX5_inMemory 22 = .ok (.goto 4, 3) := by decide +kernel
theorem dX5_inMemory_25 : decode cX5_inMemory 25 = .ok (.iconst 0, 1) := by decide +kernel
theorem dX5_inMemory_26 : decode cX5_inMemory 26 = .ok (.iadd, 1) := by decide +kernel
theorem dX5_inMemory_27 : decode cX5_inMemory 27 = .ok (.istore_n 1, 1) := by decide +kernel
theorem dX5_inMemory_28 : decode cX5_inMemory 28 = .ok (.iinc 2 1, 3) := by decide +kernel
theorem dX5_inMemory_31 : decode cX5_inMemory 31 = .ok (.goto (-27), 3) := by decide +kernel
theorem dX5_inMemory_34 : decode cX5_inMemory 34 = .ok (.iload_n 1, 1) := by decide +kernel
theorem dX5_inMemory_35 : decode cX5_inMemory 35 = .ok (.ireturn, 1) := by decide +kernel
theorem dX5_spills_0 : decode cX5_spills 0 = .ok (.aload_n 0, 1) := by decide +kernel
theorem dX5_spills_1 : decode cX5_spills 1 = .ok (.invokevirtual 155, 3) := by decide +kernel
theorem dX5_spills_4 : decode cX5_spills 4 = .ok (.aload_n 0, 1) := by decide +kernel
theorem dX5_spills_5 : decode cX5_spills 5 = .ok (.getfield 34, 3) := by decide +kernel
theorem dX5_spills_8 : decode cX5_spills 8 = .ok (.if_icmp .le 71, 3) := by decide +kernel
theorem dX5_spills_11 : decode cX5_spills 11 = .ok (.iconst (-1), 1) := by decide +kernel
theorem dX5_spills_12 : decode cX5_spills 12 = .ok (.istore_n 1, 1) := by decide +kernel
theorem dX5_spills_13 : decode cX5_spills 13 = .ok (.iconst 0, 1) := by decide +kernel
theorem dX5_spills_14 : decode cX5_spills 14 = .ok (.istore_n 2, 1) := by decide +kernel
theorem dX5_spills_15 : decode cX5_spills 15 = .ok (.iload_n 2, 1) := by decide +kernel
theorem dX5_spills_16 : decode cX5_spills 16 = .ok (.bipush 100, 2) := by decide +kernel
theorem dX5_spills_18 : decode cX5_spills 18 = .ok (.if_icmp .ge 41, 3) := by decide +kernel
theorem dX5_spills_21 : decode cX5_spills 21 = .ok (.aload_n 0, 1) := by decide +kernel
theorem dX5_spills_22 : decode cX5_spills 22 = .ok (.getfield 69, 3) := by decide +kernel
theorem dX5_spills_25 : decode cX5_spills 25 = .ok (.iload_n 2, 1) := by decide +kernel
theorem dX5_spills_26 : decode cX5_spills 26 = .ok (.iaload, 1) := by decide +kernel
theorem dX5_spills_27 : decode cX5_spills 27 = .ok (.iconst 2, 1) := by decide +kernel
theorem dX5_spills_28 : decode cX5_spills 28 = .ok (.if_icmp .ne 25, 3) := by decide +kernel
theorem dX5_spills_31 : decode cX5_spills 31 = .ok (.iload_n 1, 1) := by decide +kernel
theorem dX5_spills_32 : decode cX5_spills 32 = .ok (.iconst (-1), 1) := by decide +kernel
theorem dX5_spills_33 : decode cX5_spills 33 = .ok (.if_icmp .eq 18, 3) := by decide +kernel
theorem dX5_spills_36 : decode cX5_spills 36 = .ok (.aload_n 0, 1) := by decide +kernel
theorem dX5_spills_37 : decode cX5_spills 37 = .ok (.getfield 72, 3) := by decide +kernel
theorem dX5_spills_40 : decode cX5_spills 40 = .ok (.iload_n 2, 1) := by decide +kernel
theorem dX5_spills_41 : decode cX5_spills 41 = .ok (.iaload, 1) := by decide +kernel
theorem dX5_spills_42 : decode cX5_spills 42 = .ok (.aload_n 0, 1) := by decide +kernel
theorem dX5_spills_43 : decode cX5_spills 43 = .ok (.getfield 72, 3) := by decide +kernel
theorem dX5_spills_46 : decode cX5_spills 46 = .ok (.iload_n 1, 1) := by decide +kernel
theorem dX5_spills_47 : decode cX5_spills 47 = .ok (.iaload, 1) := by decide +kernel
theorem dX5_spills_48 : decode cX5_spills 48 = .ok (.if_icmp .ge 5, 3) := by decide +kernel
theorem dX5_spills_51 : decode cX5_spills 51 = .ok (.iload_n 2, 1) := by decide +kernel
theorem dX5_spills_52 : decode cX5_spills 52 = .ok (.istore_n 1, 1) := by decide +kernel
theorem dX5_spills_53 : decode cX5_spills 53 = .ok (.iinc 2 1, 3) := by decide +kernel
theorem dX5_spills_56 : decode cX5_spills 56 = .ok (.goto (-41), 3) := by decide +kernel
theorem dX5_spills_59 : decode cX5_spills 59 = .ok (.aload_n 0, 1) := by decide +kernel
theorem dX5_spills_60 : decode cX5_spills 60 = .ok (.getfield 69, 3) := by decide +kernel
theorem dX5_spills_63 : decode cX5_spills 63 = .ok (.iload_n 1, 1) := by decide +kernel
theorem dX5_spills_64 : decode cX5_spills 64 = .ok (.iconst 3, 1) := by decide +kernel
theorem dX5_spills_65 : decode cX5_spills 65 = .ok (.iastore, 1) := by decide +kernel
theorem dX5_spills_66 : decode cX5_spills 66 = .ok (.aload_n 0, 1) := by decide +kernel
theorem dX5_spills_67 : decode cX5_spills 67 = .ok (.dup, 1) := by decide +kernel
theorem dX5_spills_68 : decode cX5_spills 68 = .ok (.getfield 109, 3) := by decide +kernel
theorem dX5_spills_71 : decode cX5_spills 71 = .ok (.iconst 1, 1) := by decide +kernel
theorem dX5_spills_72 : decode cX5_spills 72 = .ok (.iadd, 1) := by decide +kernel
theorem dX5_spills_73 : decode cX5_spills 73 = .ok (.putfield 109, 3) := by decide +kernel
theorem dX5_spills_76 : decode cX5_spills 76 = .ok (.goto (-76), 3) := by decide +kernel
theorem dX5_spills_79 : decode cX5_spills 79 = .ok (.return_, 1) := by decide +kernel
theorem dX5_isCheaper_0 : decode cX5_isCheaper 0 = .ok (.iconst 4, 1) := by decide +kernel
theorem dX5_isCheaper_1 : decode cX5_isCheaper 1 = .ok (.iload_n 1, 1) := by decide +kernel
theorem dX5_isCheaper_2 : decode cX5_isCheaper 2 = .ok (.imul, 1) := by decide +kernel
theorem dX5_isCheaper_3 : decode cX5_isCheaper 3 = .ok (.iload_n 2, 1) := by decide +kernel
theorem dX5_isCheaper_4 : decode cX5_isCheaper 4 = .ok (.iadd, 1) := by decide +kernel
theorem dX5_isCheaper_5 : decode cX5_isCheaper 5 = .ok (.istore 4, 2) := by decide +kernel
theorem dX5_isCheaper_7 : decode cX5_isCheaper 7 = .ok (.iconst 4, 1) := by decide +kernel
theorem dX5_isCheaper_8 : decode cX5_isCheaper 8 = .ok (.iload_n 1, 1) := by decide +kernel
theorem dX5_isCheaper_9 : decode cX5_isCheaper 9 = .ok (.imul, 1) := by decide +kernel
theorem dX5_isCheaper_10 : decode cX5_isCheaper 10 = .ok (.iload_n 3, 1) := by decide +kernel
theorem dX5_isCheaper_11 : decode cX5_isCheaper 11 = .ok (.iadd, 1) := by decide +kernel
theorem dX5_isCheaper_12 : decode cX5_isCheaper 12 = .ok (.istore 5, 2) := by decide +kernel
theorem dX5_isCheaper_14 : decode cX5_isCheaper 14 = .ok (.aload_n 0, 1) := by decide +kernel
theorem dX5_isCheaper_15 : decode cX5_isCheaper 15 = .ok (.getfield 28, 3) := by decide +kernel
theorem dX5_isCheaper_18 : decode cX5_isCheaper 18 = .ok (.iload 4, 2) := by decide +kernel
theorem dX5_isCheaper_20 : decode cX5_isCheaper 20 = .ok (.iaload, 1) := by decide +kernel
theorem dX5_isCheaper_21 : decode cX5_isCheaper 21 = .ok (.i2l, 1) := by decide +kernel
theorem dX5_isCheaper_22 : decode cX5_isCheaper 22 = .ok (.aload_n 0, 1) := by decide +kernel
theorem dX5_isCheaper_23 : decode cX5_isCheaper 23 = .ok (.getfield 54, 3) := by decide +kernel
theorem dX5_isCheaper_26 : decode cX5_isCheaper 26 = .ok (.iload 4, 2) := by decide +kernel
theorem dX5_isCheaper_28 : decode cX5_isCheaper 28 = .ok (.iaload, 1) := by decide +kernel
theorem dX5_isCheaper_29 : decode cX5_isCheaper 29 = .ok (.iconst 2, 1) := by decide +kernel
theorem dX5_isCheaper_30 : decode cX5_isCheaper 30 = .ok (.iadd, 1) := by decide +kernel
theorem dX5_isCheaper_31 : decode cX5_isCheaper 31 = .ok (.i2l, 1) := by decide +kernel
theorem dX5_isCheaper_32 : decode cX5_isCheaper 32 = .ok (.lmul, 1) := by decide +kernel
theorem dX5_isCheaper_33 : decode cX5_isCheaper 33 = .ok (.aload_n 0, 1) := by decide +kernel
theorem dX5_isCheaper_34 : decode cX5_isCheaper 34 = .ok (.getfield 57, 3) := by decide +kernel
theorem dX5_isCheaper_37 : decode cX5_isCheaper 37 = .ok (.iload 5, 2) := by decide +kernel
theorem dX5_isCheaper_39 : decode cX5_isCheaper 39 = .ok (.iaload, 1) := by decide +kernel
theorem dX5_isCheaper_40 : decode cX5_isCheaper 40 = .ok (.iconst 1, 1) := by decide +kernel
theorem dX5_isCheaper_41 : decode cX5_isCheaper 41 = .ok (.iadd, 1) := by decide +kernel
theorem dX5_isCheaper_42 : decode cX5_isCheaper 42 = .ok (.i2l, 1) := by decide +kernel
theorem dX5_isCheaper_43 : decode cX5_isCheaper 43 = .ok (.lmul, 1) := by decide +kernel
theorem dX5_isCheaper_44 : decode cX5_isCheaper 44 = .ok (.lstore 6, 2) := by decide +kernel
theorem dX5_isCheaper_46 : decode cX5_isCheaper 46 = .ok (.aload_n 0, 1) := by decide +kernel
theorem dX5_isCheaper_47 : decode cX5_isCheaper 47 = .ok (.getfield 28, 3) := by decide +kernel
theorem dX5_isCheaper_50 : decode cX5_isCheaper 50 = .ok (.iload 5, 2) := by decide +kernel
theorem dX5_isCheaper_52 : decode cX5_isCheaper 52 = .ok (.iaload, 1) := by decide +kernel
theorem dX5_isCheaper_53 : decode cX5_isCheaper 53 = .ok (.i2l, 1) := by decide +kernel
theorem dX5_isCheaper_54 : decode cX5_isCheaper 54 = .ok (.aload_n 0, 1) := by decide +kernel
theorem dX5_isCheaper_55 : decode cX5_isCheaper 55 = .ok (.getfield 54, 3) := by decide +kernel
theorem dX5_isCheaper_58 : decode cX5_isCheaper 58 = .ok (.iload 5, 2) := by decide +kernel
theorem dX5_isCheaper_60 : decode cX5_isCheaper 60 = .ok (.iaload, 1) := by decide +kernel
theorem dX5_isCheaper_61 : decode cX5_isCheaper 61 = .ok (.iconst 2, 1) := by decide +kernel
theorem dX5_isCheaper_62 : decode cX5_isCheaper 62 = .ok (.iadd, 1) := by decide +kernel
theorem dX5_isCheaper_63 : decode cX5_isCheaper 63 = .ok (.i2l, 1) := by decide +kernel
theorem dX5_isCheaper_64 : decode cX5_isCheaper 64 = .ok (.lmul, 1) := by decide +kernel
theorem dX5_isCheaper_65 : decode cX5_isCheaper 65 = .ok (.aload_n 0, 1) := by decide +kernel
theorem dX5_isCheaper_66 : decode cX5_isCheaper 66 = .ok (.getfield 57, 3) := by decide +kernel
theorem dX5_isCheaper_69 : decode cX5_isCheaper 69 = .ok (.iload 4, 2) := by decide +kernel
theorem dX5_isCheaper_71 : decode cX5_isCheaper 71 = .ok (.iaload, 1) := by decide +kernel
theorem dX5_isCheaper_72 : decode cX5_isCheaper 72 = .ok (.iconst 1, 1) := by decide +kernel
theorem dX5_isCheaper_73 : decode cX5_isCheaper 73 = .ok (.iadd, 1) := by decide +kernel
theorem dX5_isCheaper_74 : decode cX5_isCheaper 74 = .ok (.i2l, 1) := by decide +kernel
theorem dX5_isCheaper_75 : decode cX5_isCheaper 75 = .ok (.lmul, 1) := by decide +kernel
theorem dX5_isCheaper_76 : decode cX5_isCheaper 76 = .ok (.lstore 8, 2) := by decide +kernel
theorem dX5_isCheaper_78 : decode cX5_isCheaper 78 = .ok (.lload 6, 2) := by decide +kernel
theorem dX5_isCheaper_80 : decode cX5_isCheaper 80 = .ok (.lload 8, 2) := by decide +kernel
theorem dX5_isCheaper_82 : decode cX5_isCheaper 82 = .ok (.lcmp, 1) := by decide +kernel
theorem dX5_isCheaper_83 : decode cX5_isCheaper 83 = .ok (.ifCond .lt 16, 3) := by decide +kernel
theorem dX5_isCheaper_86 : decode cX5_isCheaper 86 = .ok (.lload 6, 2) := by decide +kernel
theorem dX5_isCheaper_88 : decode cX5_isCheaper 88 = .ok (.lload 8, 2) := by decide +kernel
theorem dX5_isCheaper_90 : decode cX5_isCheaper 90 = .ok (.lcmp, 1) := by decide +kernel
theorem dX5_isCheaper_91 : decode cX5_isCheaper 91 = .ok (.ifCond .ne 12, 3) := by decide +kernel
theorem dX5_isCheaper_94 : decode cX5_isCheaper 94 = .ok (.iload_n 2, 1) := by decide +kernel
theorem dX5_isCheaper_95 : decode cX5_isCheaper 95 = .ok (.iload_n 3, 1) := by decide +kernel
theorem dX5_isCheaper_96 : decode cX5_isCheaper 96 = .ok (.if_icmp .ge 7, 3) := by decide +kernel
theorem dX5_isCheaper_99 : decode cX5_isCheaper 99 = .ok (.iconst 1, 1) := by decide +kernel
theorem dX5_isCheaper_100 : decode cX5_isCheaper 100 = .ok (.goto 4, 3) := by decide +kernel
theorem dX5_isCheaper_103 : decode cX5_isCheaper 103 = .ok (.iconst 0, 1) := by decide +kernel
theorem dX5_isCheaper_104 : decode cX5_isCheaper 104 = .ok (.ireturn, 1) := by decide +kernel
theorem dX5_turns_0 : decode cX5_turns 0 = .ok (.aload_n 0, 1) := by decide +kernel
theorem dX5_turns_1 : decode cX5_turns 1 = .ok (.getfield 50, 3) := by decide +kernel
theorem dX5_turns_4 : decode cX5_turns 4 = .ok (.iload_n 1, 1) := by decide +kernel
theorem dX5_turns_5 : decode cX5_turns 5 = .ok (.baload, 1) := by decide +kernel
theorem dX5_turns_6 : decode cX5_turns 6 = .ok (.ifCond .eq 4, 3) := by decide +kernel
theorem dX5_turns_9 : decode cX5_turns 9 = .ok (.return_, 1) := by decide +kernel
theorem dX5_turns_10 : decode cX5_turns 10 = .ok (.iconst 0, 1) := by decide +kernel
theorem dX5_turns_11 : decode cX5_turns 11 = .ok (.istore_n 2, 1) := by decide +kernel
theorem dX5_turns_12 : decode cX5_turns 12 = .ok (.iconst 1, 1) := by decide +kernel
theorem dX5_turns_13 : decode cX5_turns 13 = .ok (.istore_n 3, 1) := by decide +kernel
theorem dX5_turns_14 : decode cX5_turns 14 = .ok (.iload_n 3, 1) := by decide +kernel
theorem dX5_turns_15 : decode cX5_turns 15 = .ok (.aload_n 0, 1) := by decide +kernel
theorem dX5_turns_16 : decode cX5_turns 16 = .ok (.getfield 41, 3) := by decide +kernel
theorem dX5_turns_19 : decode cX5_turns 19 = .ok (.iload_n 1, 1) := by decide +kernel
theorem dX5_turns_20 : decode cX5_turns 20 = .ok (.iaload, 1) := by decide +kernel
theorem dX5_turns_21 : decode cX5_turns 21 = .ok (.if_icmp .ge 85, 3) := by decide +kernel
theorem dX5_turns_24 : decode cX5_turns 24 = .ok (.iconst 4, 1) := by decide +kernel
theorem dX5_turns_25 : decode cX5_turns 25 = .ok (.iload_n 1, 1) := by decide +kernel
theorem dX5_turns_26 : decode cX5_turns 26 = .ok (.imul, 1) := by decide +kernel
theorem dX5_turns_27 : decode cX5_turns 27 = .ok (.iload_n 3, 1) := by decide +kernel
theorem dX5_turns_28 : decode cX5_turns 28 = .ok (.iadd, 1) := by decide +kernel
theorem dX5_turns_29 : decode cX5_turns 29 = .ok (.istore 4, 2) := by decide +kernel
theorem dX5_turns_31 : decode cX5_turns 31 = .ok (.aload_n 0, 1) := by decide +kernel
theorem dX5_turns_32 : decode cX5_turns 32 = .ok (.getfield 47, 3) := by decide +kernel
theorem dX5_turns_35 : decode cX5_turns 35 = .ok (.iload 4, 2) := by decide +kernel
theorem dX5_turns_37 : decode cX5_turns 37 = .ok (.iaload, 1) := by decide +kernel
theorem dX5_turns_38 : decode cX5_turns 38 = .ok (.istore 5, 2) := by decide +kernel
theorem dX5_turns_40 : decode cX5_turns 40 = .ok (.iload 4, 2) := by decide +kernel
theorem dX5_turns_42 : decode cX5_turns 42 = .ok (.iconst 4, 1) := by decide +kernel
theorem dX5_turns_43 : decode cX5_turns 43 = .ok (.iload_n 1, 1) := by decide +kernel
theorem dX5_turns_44 : decode cX5_turns 44 = .ok (.imul, 1) := by decide +kernel
theorem dX5_turns_45 : decode cX5_turns 45 = .ok (.if_icmp .le 46, 3) := by decide +kernel
theorem dX5_turns_48 : decode cX5_turns 48 = .ok (.aload_n 0, 1) := by decide +kernel
theorem dX5_turns_49 : decode cX5_turns 49 = .ok (.iload_n 1, 1) := by decide +kernel
theorem dX5_turns_50 : decode cX5_turns 50 = .ok (.iload 5, 2) := by decide +kernel
theorem dX5_turns_52 : decode cX5_turns 52 = .ok (.aload_n 0, 1) := by decide +kernel
theorem dX5_turns_53 : decode cX5_turns 53 = .ok (.getfield 47, 3) := by decide +kernel
theorem dX5_turns_56 : decode cX5_turns 56 = .ok (.iload 4, 2) := by decide +kernel
theorem dX5_turns_58 : decode cX5_turns 58 = .ok (.iconst 1, 1) := by decide +kernel
theorem dX5_turns_59 : decode cX5_turns 59 = .ok (.isub, 1) := by decide +kernel
theorem dX5_turns_60 : decode cX5_turns 60 = .ok (.iaload, 1) := by decide +kernel
theorem dX5_turns_61 : decode cX5_turns 61 = .ok (.invokevirtual 158, 3) := by decide +kernel
theorem dX5_turns_64 : decode cX5_turns 64 = .ok (.ifCond .eq 27, 3) := by decide +kernel
theorem dX5_turns_67 : decode cX5_turns 67 = .ok (.aload_n 0, 1) := by decide +kernel
theorem dX5_turns_68 : decode cX5_turns 68 = .ok (.getfield 47, 3) := by decide +kernel
theorem dX5_turns_71 : decode cX5_turns 71 = .ok (.iload 4, 2) := by decide +kernel
theorem dX5_turns_73 : decode cX5_turns 73 = .ok (.aload_n 0, 1) := by decide +kernel
theorem dX5_turns_74 : decode cX5_turns 74 = .ok (.getfield 47, 3) := by decide +kernel
theorem dX5_turns_77 : decode cX5_turns 77 = .ok (.iload 4, 2) := by decide +kernel
theorem dX5_turns_79 : decode cX5_turns 79 = .ok (.iconst 1, 1) := by decide +kernel
theorem dX5_turns_80 : decode cX5_turns 80 = .ok (.isub, 1) := by decide +kernel
theorem dX5_turns_81 : decode cX5_turns 81 = .ok (.iaload, 1) := by decide +kernel
theorem dX5_turns_82 : decode cX5_turns 82 = .ok (.iastore, 1) := by decide +kernel
theorem dX5_turns_83 : decode cX5_turns 83 = .ok (.iinc 4 (-1), 3) := by decide +kernel
theorem dX5_turns_86 : decode cX5_turns 86 = .ok (.iconst 1, 1) := by decide +kernel
theorem dX5_turns_87 : decode cX5_turns 87 = .ok (.istore_n 2, 1) := by decide +kernel
theorem dX5_turns_88 : decode cX5_turns 88 = .ok (.goto (-48), 3) := by decide +kernel
theorem dX5_turns_91 : decode cX5_turns 91 = .ok (.aload_n 0, 1) := by decide +kernel
theorem dX5_turns_92 : decode cX5_turns 92 = .ok (.getfield 47, 3) := by decide +kernel
theorem dX5_turns_95 : decode cX5_turns 95 = .ok (.iload 4, 2) := by decide +kernel
theorem dX5_turns_97 : decode cX5_turns 97 = .ok (.iload 5, 2) := by decide +kernel
theorem dX5_turns_99 : decode cX5_turns 99 = .ok (.iastore, 1) := by decide +kernel
theorem dX5_turns_100 : decode cX5_turns 100 = .ok (.iinc 3 1, 3) := by decide +kernel
theorem dX5_turns_103 : decode cX5_turns 103 = .ok (.goto (-89), 3) := by decide +kernel
theorem dX5_turns_106 : decode cX5_turns 106 = .ok (.iload_n 2, 1) := by decide +kernel
theorem dX5_turns_107 : decode cX5_turns 107 = .ok (.ifCond .eq 13, 3) := by decide +kernel
theorem dX5_turns_110 : decode cX5_turns 110 = .ok (.aload_n 0, 1) := by decide +kernel
theorem dX5_turns_111 : decode cX5_turns 111 = .ok (.dup, 1) := by decide +kernel
theorem dX5_turns_112 : decode cX5_turns 112 = .ok (.getfield 118, 3) := by decide +kernel
theorem dX5_turns_115 : decode cX5_turns 115 = .ok (.iconst 1, 1) := by decide +kernel
theorem dX5_turns_116 : decode cX5_turns 116 = .ok (.iadd, 1) := by decide +kernel
theorem dX5_turns_117 : decode cX5_turns 117 = .ok (.putfield 118, 3) := by decide +kernel
theorem dX5_turns_120 : decode cX5_turns 120 = .ok (.return_, 1) := by decide +kernel
theorem dX5_go_0 : decode cX5_go 0 = .ok (.aload_n 0, 1) := by decide +kernel
theorem dX5_go_1 : decode cX5_go 1 = .ok (.getfield 89, 3) := by decide +kernel
theorem dX5_go_4 : decode cX5_go 4 = .ok (.iconst 1, 1) := by decide +kernel
theorem dX5_go_5 : decode cX5_go 5 = .ok (.if_icmp .ne 14, 3) := by decide +kernel
theorem dX5_go_8 : decode cX5_go 8 = .ok (.iload_n 1, 1) := by decide +kernel
theorem dX5_go_9 : decode cX5_go 9 = .ok (.iconst 0, 1) := by decide +kernel
theorem dX5_go_10 : decode cX5_go 10 = .ok (.sipush 200, 3) := by decide +kernel
theorem dX5_go_13 : decode cX5_go 13 = .ok (.invokestatic 81, 3) := by decide +kernel
theorem dX5_go_16 : decode cX5_go 16 = .ok (.ifCond .ne 5, 3) := by decide +kernel
theorem dX5_go_19 : decode cX5_go 19 = .ok (.iconst (-1), 1) := by decide +kernel
theorem dX5_go_20 : decode cX5_go 20 = .ok (.ireturn, 1) := by decide +kernel
theorem dX5_go_21 : decode cX5_go 21 = .ok (.iconst 0, 1) := by decide +kernel
theorem dX5_go_22 : decode cX5_go 22 = .ok (.istore_n 2, 1) := by decide +kernel
theorem dX5_go_23 : decode cX5_go 23 = .ok (.iload_n 2, 1) := by decide +kernel
theorem dX5_go_24 : decode cX5_go 24 = .ok (.iload_n 1, 1) := by decide +kernel
theorem dX5_go_25 : decode cX5_go 25 = .ok (.if_icmp .ge 75, 3) := by decide +kernel
theorem dX5_go_28 : decode cX5_go 28 = .ok (.aload_n 0, 1) := by decide +kernel
theorem dX5_go_29 : decode cX5_go 29 = .ok (.getfield 89, 3) := by decide +kernel
theorem dX5_go_32 : decode cX5_go 32 = .ok (.iconst 1, 1) := by decide +kernel
theorem dX5_go_33 : decode cX5_go 33 = .ok (.if_icmp .ne 67, 3) := by decide +kernel
theorem dX5_go_36 : decode cX5_go 36 = .ok (.aload_n 0, 1) := by decide +kernel
theorem dX5_go_37 : decode cX5_go 37 = .ok (.iconst 0, 1) := by decide +kernel
theorem dX5_go_38 : decode cX5_go 38 = .ok (.invokevirtual 128, 3) := by decide +kernel
theorem dX5_go_41 : decode cX5_go 41 = .ok (.ifCond .eq 41, 3) := by decide +kernel
theorem dX5_go_44 : decode cX5_go 44 = .ok (.aload_n 0, 1) := by decide +kernel
theorem dX5_go_45 : decode cX5_go 45 = .ok (.iconst 1, 1) := by decide +kernel
theorem dX5_go_46 : decode cX5_go 46 = .ok (.invokevirtual 128, 3) := by decide +kernel
theorem dX5_go_49 : decode cX5_go 49 = .ok (.ifCond .eq 33, 3) := by decide +kernel
theorem dX5_go_52 : decode cX5_go 52 = .ok (.aload_n 0, 1) := by decide +kernel
theorem dX5_go_53 : decode cX5_go 53 = .ok (.invokevirtual 131, 3) := by decide +kernel
theorem dX5_go_56 : decode cX5_go 56 = .ok (.istore_n 3, 1) := by decide +kernel
theorem dX5_go_57 : decode cX5_go 57 = .ok (.aload_n 0, 1) := by decide +kernel
theorem dX5_go_58 : decode cX5_go 58 = .ok (.iload_n 3, 1) := by decide +kernel
theorem dX5_go_59 : decode cX5_go 59 = .ok (.bipush 50, 2) := by decide +kernel
theorem dX5_go_61 : decode cX5_go 61 = .ok (.idiv, 1) := by decide +kernel
theorem dX5_go_62 : decode cX5_go 62 = .ok (.iload_n 3, 1) := by decide +kernel
theorem dX5_go_63 : decode cX5_go 63 = .ok (.bipush 50, 2) := by decide +kernel
theorem dX5_go_65 : decode cX5_go 65 = .ok (.irem, 1) := by decide +kernel
theorem dX5_go_66 : decode cX5_go 66 = .ok (.invokevirtual 148, 3) := by decide +kernel
theorem dX5_go_69 : decode cX5_go 69 = .ok (.aload_n 0, 1) := by decide +kernel
theorem dX5_go_70 : decode cX5_go 70 = .ok (.dup, 1) := by decide +kernel
theorem dX5_go_71 : decode cX5_go 71 = .ok (.getfield 106, 3) := by decide +kernel
theorem dX5_go_74 : decode cX5_go 74 = .ok (.iconst 2, 1) := by decide +kernel
theorem dX5_go_75 : decode cX5_go 75 = .ok (.iadd, 1) := by decide +kernel
theorem dX5_go_76 : decode cX5_go 76 = .ok (.putfield 106, 3) := by decide +kernel
theorem dX5_go_79 : decode cX5_go 79 = .ok (.goto 11, 3) := by decide +kernel
theorem dX5_go_82 : decode cX5_go 82 = .ok (.aload_n 0, 1) := by decide +kernel
theorem dX5_go_83 : decode cX5_go 83 = .ok (.aload_n 0, 1) := by decide +kernel
theorem dX5_go_84 : decode cX5_go 84 = .ok (.invokevirtual 161, 3) := by decide +kernel
theorem dX5_go_87 : decode cX5_go 87 = .ok (.invokevirtual 164, 3) := by decide +kernel
theorem dX5_go_90 : decode cX5_go 90 = .ok (.iinc 2 1, 3) := by decide +kernel
theorem dX5_go_93 : decode cX5_go 93 = .ok (.aload_n 0, 1) := by decide +kernel
theorem dX5_go_94 : decode cX5_go 94 = .ok (.invokevirtual 121, 3) := by decide +kernel
theorem dX5_go_97 : decode cX5_go 97 = .ok (.goto (-74), 3) := by decide +kernel
theorem dX5_go_100 : decode cX5_go 100 = .ok (.iload_n 2, 1) := by decide +kernel
theorem dX5_go_101 : decode cX5_go 101 = .ok (.ireturn, 1) := by decide +kernel
theorem dX5_memory_0 : decode cX5_memory 0 = .ok (.iload_n 1, 1) := by decide +kernel
theorem dX5_memory_1 : decode cX5_memory 1 = .ok (.iconst 0, 1) := by decide +kernel
theorem dX5_memory_2 : decode cX5_memory 2 = .ok (.bipush 100, 2) := by decide +kernel
theorem dX5_memory_4 : decode cX5_memory 4 = .ok (.invokestatic 81, 3) := by decide +kernel
theorem dX5_memory_7 : decode cX5_memory 7 = .ok (.ifCond .ne 5, 3) := by decide +kernel
theorem dX5_memory_10 : decode cX5_memory 10 = .ok (.iconst 0, 1) := by decide +kernel
theorem dX5_memory_11 : decode cX5_memory 11 = .ok (.ireturn, 1) := by decide +kernel
theorem dX5_memory_12 : decode cX5_memory 12 = .ok (.aload_n 0, 1) := by decide +kernel
theorem dX5_memory_13 : decode cX5_memory 13 = .ok (.iload_n 1, 1) := by decide +kernel
theorem dX5_memory_14 : decode cX5_memory 14 = .ok (.putfield 34, 3) := by decide +kernel
theorem dX5_memory_17 : decode cX5_memory 17 = .ok (.aload_n 0, 1) := by decide +kernel
theorem dX5_memory_18 : decode cX5_memory 18 = .ok (.invokevirtual 152, 3) := by decide +kernel
theorem dX5_memory_21 : decode cX5_memory 21 = .ok (.iconst 1, 1) := by decide +kernel
theorem dX5_memory_22 : decode cX5_memory 22 = .ok (.ireturn, 1) := by decide +kernel
theorem dX5_force_0 : decode cX5_force 0 = .ok (.iload_n 1, 1) := by decide +kernel
theorem dX5_force_1 : decode cX5_force 1 = .ok (.iconst (-1), 1) := by decide +kernel
theorem dX5_force_2 : decode cX5_force 2 = .ok (.iconst 1, 1) := by decide +kernel
theorem dX5_force_3 : decode cX5_force 3 = .ok (.invokestatic 81, 3) := by decide +kernel
theorem dX5_force_6 : decode cX5_force 6 = .ok (.ifCond .ne 5, 3) := by decide +kernel
theorem dX5_force_9 : decode cX5_force 9 = .ok (.iconst 0, 1) := by decide +kernel
theorem dX5_force_10 : decode cX5_force 10 = .ok (.ireturn, 1) := by decide +kernel
theorem dX5_force_11 : decode cX5_force 11 = .ok (.aload_n 0, 1) := by decide +kernel
theorem dX5_force_12 : decode cX5_force 12 = .ok (.iload_n 1, 1) := by decide +kernel
theorem dX5_force_13 : decode cX5_force 13 = .ok (.putfield 38, 3) := by decide +kernel
theorem dX5_force_16 : decode cX5_force 16 = .ok (.iconst 1, 1) := by decide +kernel
theorem dX5_force_17 : decode cX5_force 17 = .ok (.ireturn, 1) := by decide +kernel
theorem dX5_order_0 : decode cX5_order 0 = .ok (.iload_n 1, 1) := by decide +kernel
theorem dX5_order_1 : decode cX5_order 1 = .ok (.invokestatic 85, 3) := by decide +kernel
theorem dX5_order_4 : decode cX5_order 4 = .ok (.ifCond .eq 16, 3) := by decide +kernel
theorem dX5_order_7 : decode cX5_order 7 = .ok (.aload_n 0, 1) := by decide +kernel
theorem dX5_order_8 : decode cX5_order 8 = .ok (.getfield 89, 3) := by decide +kernel
theorem dX5_order_11 : decode cX5_order 11 = .ok (.iconst 1, 1) := by decide +kernel
theorem dX5_order_12 : decode cX5_order 12 = .ok (.if_icmp .ne 8, 3) := by decide +kernel
theorem dX5_order_15 : decode cX5_order 15 = .ok (.iload_n 2, 1) := by decide +kernel
theorem dX5_order_16 : decode cX5_order 16 = .ok (.iconst (-1), 1) := by decide +kernel
theorem dX5_order_17 : decode cX5_order 17 = .ok (.if_icmp .ge 5, 3) := by decide +kernel
theorem dX5_order_20 : decode cX5_order 20 = .ok (.iconst 0, 1) := by decide +kernel
theorem dX5_order_21 : decode cX5_order 21 = .ok (.ireturn, 1) := by decide +kernel
theorem dX5_order_22 : decode cX5_order 22 = .ok (.iload_n 2, 1) := by decide +kernel
theorem dX5_order_23 : decode cX5_order 23 = .ok (.iconst (-1), 1) := by decide +kernel
theorem dX5_order_24 : decode cX5_order 24 = .ok (.if_icmp .ne 12, 3) := by decide +kernel
theorem dX5_order_27 : decode cX5_order 27 = .ok (.aload_n 0, 1) := by decide +kernel
theorem dX5_order_28 : decode cX5_order 28 = .ok (.getfield 50, 3) := by decide +kernel
theorem dX5_order_31 : decode cX5_order 31 = .ok (.iload_n 1, 1) := by decide +kernel
theorem dX5_order_32 : decode cX5_order 32 = .ok (.iconst 0, 1) := by decide +kernel
theorem dX5_order_33 : decode cX5_order 33 = .ok (.bastore, 1) := by decide +kernel
theorem dX5_order_34 : decode cX5_order 34 = .ok (.iconst 1, 1) := by decide +kernel
theorem dX5_order_35 : decode cX5_order 35 = .ok (.ireturn, 1) := by decide +kernel
theorem dX5_order_36 : decode cX5_order 36 = .ok (.iload_n 2, 1) := by decide +kernel
theorem dX5_order_37 : decode cX5_order 37 = .ok (.istore_n 3, 1) := by decide +kernel
theorem dX5_order_38 : decode cX5_order 38 = .ok (.iconst 0, 1) := by decide +kernel
theorem dX5_order_39 : decode cX5_order 39 = .ok (.istore 4, 2) := by decide +kernel
theorem dX5_order_41 : decode cX5_order 41 = .ok (.iconst 0, 1) := by decide +kernel
theorem dX5_order_42 : decode cX5_order 42 = .ok (.istore 5, 2) := by decide +kernel
theorem dX5_order_44 : decode cX5_order 44 = .ok (.iload 5, 2) := by decide +kernel
theorem dX5_order_46 : decode cX5_order 46 = .ok (.aload_n 0, 1) := by decide +kernel
theorem dX5_order_47 : decode cX5_order 47 = .ok (.getfield 41, 3) := by decide +kernel
theorem dX5_order_50 : decode cX5_order 50 = .ok (.iload_n 1, 1) := by decide +kernel
theorem dX5_order_51 : decode cX5_order 51 = .ok (.iaload, 1) := by decide +kernel
theorem dX5_order_52 : decode cX5_order 52 = .ok (.if_icmp .ge 40, 3) := by decide +kernel
theorem dX5_order_55 : decode cX5_order 55 = .ok (.iload_n 3, 1) := by decide +kernel
theorem dX5_order_56 : decode cX5_order 56 = .ok (.bipush 10, 2) := by decide +kernel
theorem dX5_order_58 : decode cX5_order 58 = .ok (.irem, 1) := by decide +kernel
theorem dX5_order_59 : decode cX5_order 59 = .ok (.aload_n 0, 1) := by decide +kernel
theorem dX5_order_60 : decode cX5_order 60 = .ok (.getfield 41, 3) := by decide +kernel
theorem dX5_order_63 : decode cX5_order 63 = .ok (.iload_n 1, 1) := by decide +kernel
theorem dX5_order_64 : decode cX5_order 64 = .ok (.iaload, 1) := by decide +kernel
theorem dX5_order_65 : decode cX5_order 65 = .ok (.if_icmp .lt 5, 3) := by decide +kernel
theorem dX5_order_68 : decode cX5_order 68 = .ok (.iconst 0, 1) := by decide +kernel
theorem dX5_order_69 : decode cX5_order 69 = .ok (.ireturn, 1) := by decide +kernel
theorem dX5_order_70 : decode cX5_order 70 = .ok (.iload 4, 2) := by decide +kernel
theorem dX5_order_72 : decode cX5_order 72 = .ok (.iconst 1, 1) := by decide +kernel
theorem dX5_order_73 : decode cX5_order 73 = .ok (.iload_n 3, 1) := by decide +kernel
theorem dX5_order_74 : decode cX5_order 74 = .ok (.bipush 10, 2) := by decide +kernel
theorem dX5_order_76 : decode cX5_order 76 = .ok (.irem, 1) := by decide +kernel
theorem dX5_order_77 : decode cX5_order 77 = .ok (.ishl, 1) := by decide +kernel
theorem dX5_order_78 : decode cX5_order 78 = .ok (.ior, 1) := by decide +kernel
theorem dX5_order_79 : decode cX5_order 79 = .ok (.istore 4, 2) := by decide +kernel
theorem dX5_order_81 : decode cX5_order 81 = .ok (.iload_n 3, 1) := by decide +kernel
theorem dX5_order_82 : decode cX5_order 82 = .ok (.bipush 10, 2) := by decide +kernel
theorem dX5_order_84 : decode cX5_order 84 = .ok (.idiv, 1) := by decide +kernel
theorem dX5_order_85 : decode cX5_order 85 = .ok (.istore_n 3, 1) := by decide +kernel
theorem dX5_order_86 : decode cX5_order 86 = .ok (.iinc 5 1, 3) := by decide +kernel
theorem dX5_order_89 : decode cX5_order 89 = .ok (.goto (-45), 3) := by decide +kernel
theorem dX5_order_92 : decode cX5_order 92 = .ok (.iload_n 3, 1) := by decide +kernel
theorem dX5_order_93 : decode cX5_order 93 = .ok (.ifCond .ne 18, 3) := by decide +kernel
theorem dX5_order_96 : decode cX5_order 96 = .ok (.iload 4, 2) := by decide +kernel
theorem dX5_order_98 : decode cX5_order 98 = .ok (.iconst 1, 1) := by decide +kernel
theorem dX5_order_99 : decode cX5_order 99 = .ok (.aload_n 0, 1) := by decide +kernel
theorem dX5_order_100 : decode cX5_order 100 = .ok (.getfield 41, 3) := by decide +kernel
theorem dX5_order_103 : decode cX5_order 103 = .ok (.iload_n 1, 1) := by decide +kernel
theorem dX5_order_104 : decode cX5_order 104 = .ok (.iaload, 1) := by decide +kernel
theorem dX5_order_105 : decode cX5_order 105 = .ok (.ishl, 1) := by decide +kernel
theorem dX5_order_106 : decode cX5_order 106 = .ok (.iconst 1, 1) := by decide +kernel
theorem dX5_order_107 : decode cX5_order 107 = .ok (.isub, 1) := by decide +kernel
theorem dX5_order_108 : decode cX5_order 108 = .ok (.if_icmp .eq 5, 3) := by decide +kernel
theorem dX5_order_111 : decode cX5_order 111 = .ok (.iconst 0, 1) := by decide +kernel
theorem dX5_order_112 : decode cX5_order 112 = .ok (.ireturn, 1) := by decide +kernel
theorem dX5_order_113 : decode cX5_order 113 = .ok (.iload_n 2, 1) := by decide +kernel
theorem dX5_order_114 : decode cX5_order 114 = .ok (.istore_n 3, 1) := by decide +kernel
theorem dX5_order_115 : decode cX5_order 115 = .ok (.iconst 0, 1) := by decide +kernel
theorem dX5_order_116 : decode cX5_order 116 = .ok (.istore 5, 2) := by decide +kernel
theorem dX5_order_118 : decode cX5_order 118 = .ok (.iload 5, 2) := by decide +kernel
theorem dX5_order_120 : decode cX5_order 120 = .ok (.aload_n 0, 1) := by decide +kernel
theorem dX5_order_121 : decode cX5_order 121 = .ok (.getfield 41, 3) := by decide +kernel
theorem dX5_order_124 : decode cX5_order 124 = .ok (.iload_n 1, 1) := by decide +kernel
theorem dX5_order_125 : decode cX5_order 125 = .ok (.iaload, 1) := by decide +kernel
theorem dX5_order_126 : decode cX5_order 126 = .ok (.if_icmp .ge 29, 3) := by decide +kernel
theorem dX5_order_129 : decode cX5_order 129 = .ok (.aload_n 0, 1) := by decide +kernel
theorem dX5_order_130 : decode cX5_order 130 = .ok (.getfield 47, 3) := by decide +kernel
theorem dX5_order_133 : decode cX5_order 133 = .ok (.iconst 4, 1) := by decide +kernel
theorem dX5_order_134 : decode cX5_order 134 = .ok (.iload_n 1, 1) := by decide +kernel
theorem dX5_order_135 : decode cX5_order 135 = .ok (.imul, 1) := by decide +kernel
theorem dX5_order_136 : decode cX5_order 136 = .ok (.iload 5, 2) := by decide +kernel
theorem dX5_order_138 : decode cX5_order 138 = .ok (.iadd, 1) := by decide +kernel
theorem dX5_order_139 : decode cX5_order 139 = .ok (.iload_n 3, 1) := by decide +kernel
theorem dX5_order_140 : decode cX5_order 140 = .ok (.bipush 10, 2) := by decide +kernel
theorem dX5_order_142 : decode cX5_order 142 = .ok (.irem, 1) := by decide +kernel
theorem dX5_order_143 : decode cX5_order 143 = .ok (.iastore, 1) := by decide +kernel
theorem dX5_order_144 : decode cX5_order 144 = .ok (.iload_n 3, 1) := by decide +kernel
theorem dX5_order_145 : decode cX5_order 145 = .ok (.bipush 10, 2) := by decide +kernel
theorem dX5_order_147 : decode cX5_order 147 = .ok (.idiv, 1) := by decide +kernel
theorem dX5_order_148 : decode cX5_order 148 = .ok (.istore_n 3, 1) := by decide +kernel
theorem dX5_order_149 : decode cX5_order 149 = .ok (.iinc 5 1, 3) := by decide +kernel
theorem dX5_order_152 : decode cX5_order 152 = .ok (.goto (-34), 3) := by decide +kernel
theorem dX5_order_155 : decode cX5_order 155 = .ok (.aload_n 0, 1) := by decide +kernel
theorem dX5_order_156 : decode cX5_order 156 = .ok (.getfield 50, 3) := by decide +kernel
theorem dX5_order_159 : decode cX5_order 159 = .ok (.iload_n 1, 1) := by decide +kernel
theorem dX5_order_160 : decode cX5_order 160 = .ok (.iconst 1, 1) := by decide +kernel
theorem dX5_order_161 : decode cX5_order 161 = .ok (.bastore, 1) := by decide +kernel
theorem dX5_order_162 : decode cX5_order 162 = .ok (.iconst 1, 1) := by decide +kernel
theorem dX5_order_163 : decode cX5_order 163 = .ok (.ireturn, 1) := by decide +kernel
theorem dX5_ordered_0 : decode cX5_ordered 0 = .ok (.iload_n 1, 1) := by decide +kernel
theorem dX5_ordered_1 : decode cX5_ordered 1 = .ok (.invokestatic 85, 3) := by decide +kernel
theorem dX5_ordered_4 : decode cX5_ordered 4 = .ok (.ifCond .eq 39, 3) := by decide +kernel
theorem dX5_ordered_7 : decode cX5_ordered 7 = .ok (.aload_n 0, 1) := by decide +kernel
theorem dX5_ordered_8 : decode cX5_ordered 8 = .ok (.getfield 96, 3) := by decide +kernel
theorem dX5_ordered_11 : decode cX5_ordered 11 = .ok (.ifCond .eq 32, 3) := by decide +kernel
theorem dX5_ordered_14 : decode cX5_ordered 14 = .ok (.iload_n 2, 1) := by decide +kernel
theorem dX5_ordered_15 : decode cX5_ordered 15 = .ok (.iconst 0, 1) := by decide +kernel
theorem dX5_ordered_16 : decode cX5_ordered 16 = .ok (.aload_n 0, 1) := by decide +kernel
theorem dX5_ordered_17 : decode cX5_ordered 17 = .ok (.getfield 41, 3) := by decide +kernel
theorem dX5_ordered_20 : decode cX5_ordered 20 = .ok (.iload_n 1, 1) := by decide +kernel
theorem dX5_ordered_21 : decode cX5_ordered 21 = .ok (.iaload, 1) := by decide +kernel
theorem dX5_ordered_22 : decode cX5_ordered 22 = .ok (.iconst 1, 1) := by decide +kernel
theorem dX5_ordered_23 : decode cX5_ordered 23 = .ok (.isub, 1) := by decide +kernel
theorem dX5_ordered_24 : decode cX5_ordered 24 = .ok (.invokestatic 81, 3) := by decide +kernel
theorem dX5_ordered_27 : decode cX5_ordered 27 = .ok (.ifCond .eq 16, 3) := by decide +kernel
theorem dX5_ordered_30 : decode cX5_ordered 30 = .ok (.aload_n 0, 1) := by decide +kernel
theorem dX5_ordered_31 : decode cX5_ordered 31 = .ok (.getfield 47, 3) := by decide +kernel
theorem dX5_ordered_34 : decode cX5_ordered 34 = .ok (.iconst 4, 1) := by decide +kernel
theorem dX5_ordered_35 : decode cX5_ordered 35 = .ok (.iload_n 1, 1) := by decide +kernel
theorem dX5_ordered_36 : decode cX5_ordered 36 = .ok (.imul, 1) := by decide +kernel
theorem dX5_ordered_37 : decode cX5_ordered 37 = .ok (.iload_n 2, 1) := by decide +kernel
theorem dX5_ordered_38 : decode cX5_ordered 38 = .ok (.iadd, 1) := by decide +kernel
theorem dX5_ordered_39 : decode cX5_ordered 39 = .ok (.iaload, 1) := by decide +kernel
theorem dX5_ordered_40 : decode cX5_ordered 40 = .ok (.goto 4, 3) := by decide +kernel
theorem dX5_ordered_43 : decode cX5_ordered 43 = .ok (.iconst (-1), 1) := by decide +kernel
theorem dX5_ordered_44 : decode cX5_ordered 44 = .ok (.ireturn, 1) := by decide +kernel
theorem dX5_told_0 : decode cX5_told 0 = .ok (.iload_n 1, 1) := by decide +kernel
theorem dX5_told_1 : decode cX5_told 1 = .ok (.invokestatic 85, 3) := by decide +kernel
theorem dX5_told_4 : decode cX5_told 4 = .ok (.ifCond .eq 19, 3) := by decide +kernel
theorem dX5_told_7 : decode cX5_told 7 = .ok (.iload_n 2, 1) := by decide +kernel
theorem dX5_told_8 : decode cX5_told 8 = .ok (.iconst 0, 1) := by decide +kernel
theorem dX5_told_9 : decode cX5_told 9 = .ok (.aload_n 0, 1) := by decide +kernel
theorem dX5_told_10 : decode cX5_told 10 = .ok (.getfield 16, 3) := by decide +kernel
theorem dX5_told_13 : decode cX5_told 13 = .ok (.iload_n 1, 1) := by decide +kernel
theorem dX5_told_14 : decode cX5_told 14 = .ok (.iaload, 1) := by decide +kernel
theorem dX5_told_15 : decode cX5_told 15 = .ok (.iconst 1, 1) := by decide +kernel
theorem dX5_told_16 : decode cX5_told 16 = .ok (.isub, 1) := by decide +kernel
theorem dX5_told_17 : decode cX5_told 17 = .ok (.invokestatic 81, 3) := by decide +kernel
theorem dX5_told_20 : decode cX5_told 20 = .ok (.ifCond .ne 5, 3) := by decide +kernel
theorem dX5_told_23 : decode cX5_told 23 = .ok (.iconst (-1), 1) := by decide +kernel
theorem dX5_told_24 : decode cX5_told 24 = .ok (.ireturn, 1) := by decide +kernel
theorem dX5_told_25 : decode cX5_told 25 = .ok (.iconst 4, 1) := by decide +kernel
theorem dX5_told_26 : decode cX5_told 26 = .ok (.iload_n 1, 1) := by decide +kernel
theorem dX5_told_27 : decode cX5_told 27 = .ok (.imul, 1) := by decide +kernel
theorem dX5_told_28 : decode cX5_told 28 = .ok (.iload_n 2, 1) := by decide +kernel
theorem dX5_told_29 : decode cX5_told 29 = .ok (.iadd, 1) := by decide +kernel
theorem dX5_told_30 : decode cX5_told 30 = .ok (.istore 4, 2) := by decide +kernel
theorem dX5_told_32 : decode cX5_told 32 = .ok (.iload_n 3, 1) := by decide +kernel
theorem dX5_told_33 : decode cX5_told 33 = .ok (.tableswitch 51 0 2 #[27, 35, 43], 27) := by decide +kernel
theorem dX5_told_60 : decode cX5_told 60 = .ok (.aload_n 0, 1) := by decide +kernel
theorem dX5_told_61 : decode cX5_told 61 = .ok (.getfield 54, 3) := by decide +kernel
theorem dX5_told_64 : decode cX5_told 64 = .ok (.iload 4, 2) := by decide +kernel
theorem dX5_told_66 : decode cX5_told 66 = .ok (.iaload, 1) := by decide +kernel
theorem dX5_told_67 : decode cX5_told 67 = .ok (.ireturn, 1) := by decide +kernel
theorem dX5_told_68 : decode cX5_told 68 = .ok (.aload_n 0, 1) := by decide +kernel
theorem dX5_told_69 : decode cX5_told 69 = .ok (.getfield 57, 3) := by decide +kernel
theorem dX5_told_72 : decode cX5_told 72 = .ok (.iload 4, 2) := by decide +kernel
theorem dX5_told_74 : decode cX5_told 74 = .ok (.iaload, 1) := by decide +kernel
theorem dX5_told_75 : decode cX5_told 75 = .ok (.ireturn, 1) := by decide +kernel
theorem dX5_told_76 : decode cX5_told 76 = .ok (.aload_n 0, 1) := by decide +kernel
theorem dX5_told_77 : decode cX5_told 77 = .ok (.getfield 28, 3) := by decide +kernel
theorem dX5_told_80 : decode cX5_told 80 = .ok (.iload 4, 2) := by decide +kernel
theorem dX5_told_82 : decode cX5_told 82 = .ok (.iaload, 1) := by decide +kernel
theorem dX5_told_83 : decode cX5_told 83 = .ok (.ireturn, 1) := by decide +kernel
theorem dX5_told_84 : decode cX5_told 84 = .ok (.iconst (-1), 1) := by decide +kernel
theorem dX5_told_85 : decode cX5_told 85 = .ok (.ireturn, 1) := by decide +kernel
theorem dX5_given_0 : decode cX5_given 0 = .ok (.iload_n 1, 1) := by decide +kernel
theorem dX5_given_1 : decode cX5_given 1 = .ok (.iconst 0, 1) := by decide +kernel
theorem dX5_given_2 : decode cX5_given 2 = .ok (.aload_n 0, 1) := by decide +kernel
theorem dX5_given_3 : decode cX5_given 3 = .ok (.getfield 103, 3) := by decide +kernel
theorem dX5_given_6 : decode cX5_given 6 = .ok (.iconst 1, 1) := by decide +kernel
theorem dX5_given_7 : decode cX5_given 7 = .ok (.isub, 1) := by decide +kernel
theorem dX5_given_8 : decode cX5_given 8 = .ok (.invokestatic 81, 3) := by decide +kernel
theorem dX5_given_11 : decode cX5_given 11 = .ok (.ifCond .eq 10, 3) := by decide +kernel
theorem dX5_given_14 : decode cX5_given 14 = .ok (.iload_n 2, 1) := by decide +kernel
theorem dX5_given_15 : decode cX5_given 15 = .ok (.invokestatic 85, 3) := by decide +kernel
theorem dX5_given_18 : decode cX5_given 18 = .ok (.ifCond .ne 5, 3) := by decide +kernel
theorem dX5_given_21 : decode cX5_given 21 = .ok (.iconst (-1), 1) := by decide +kernel
theorem dX5_given_22 : decode cX5_given 22 = .ok (.ireturn, 1) := by decide +kernel
theorem dX5_given_23 : decode cX5_given 23 = .ok (.iload_n 2, 1) := by decide +kernel
theorem dX5_given_24 : decode cX5_given 24 = .ok (.ifCond .ne 15, 3) := by decide +kernel
theorem dX5_given_27 : decode cX5_given 27 = .ok (.aload_n 0, 1) := by decide +kernel
theorem dX5_given_28 : decode cX5_given 28 = .ok (.getfield 78, 3) := by decide +kernel
theorem dX5_given_31 : decode cX5_given 31 = .ok (.iload_n 1, 1) := by decide +kernel
theorem dX5_given_32 : decode cX5_given 32 = .ok (.iaload, 1) := by decide +kernel
theorem dX5_given_33 : decode cX5_given 33 = .ok (.bipush 50, 2) := by decide +kernel
theorem dX5_given_35 : decode cX5_given 35 = .ok (.idiv, 1) := by decide +kernel
theorem dX5_given_36 : decode cX5_given 36 = .ok (.goto 12, 3) := by decide +kernel
theorem dX5_given_39 : decode cX5_given 39 = .ok (.aload_n 0, 1) := by decide +kernel
theorem dX5_given_40 : decode cX5_given 40 = .ok (.getfield 78, 3) := by decide +kernel
theorem dX5_given_43 : decode cX5_given 43 = .ok (.iload_n 1, 1) := by decide +kernel
theorem dX5_given_44 : decode cX5_given 44 = .ok (.iaload, 1) := by decide +kernel
theorem dX5_given_45 : decode cX5_given 45 = .ok (.bipush 50, 2) := by decide +kernel
theorem dX5_given_47 : decode cX5_given 47 = .ok (.irem, 1) := by decide +kernel
theorem dX5_given_48 : decode cX5_given 48 = .ok (.ireturn, 1) := by decide +kernel
theorem dX5_where_0 : decode cX5_where 0 = .ok (.iload_n 1, 1) := by decide +kernel
theorem dX5_where_1 : decode cX5_where 1 = .ok (.invokestatic 85, 3) := by decide +kernel
theorem dX5_where_4 : decode cX5_where 4 = .ok (.ifCond .eq 33, 3) := by decide +kernel
theorem dX5_where_7 : decode cX5_where 7 = .ok (.iload_n 2, 1) := by decide +kernel
theorem dX5_where_8 : decode cX5_where 8 = .ok (.iconst 0, 1) := by decide +kernel
theorem dX5_where_9 : decode cX5_where 9 = .ok (.aload_n 0, 1) := by decide +kernel
theorem dX5_where_10 : decode cX5_where 10 = .ok (.getfield 7, 3) := by decide +kernel
theorem dX5_where_13 : decode cX5_where 13 = .ok (.iload_n 1, 1) := by decide +kernel
theorem dX5_where_14 : decode cX5_where 14 = .ok (.iaload, 1) := by decide +kernel
theorem dX5_where_15 : decode cX5_where 15 = .ok (.iconst 1, 1) := by decide +kernel
theorem dX5_where_16 : decode cX5_where 16 = .ok (.isub, 1) := by decide +kernel
theorem dX5_where_17 : decode cX5_where 17 = .ok (.invokestatic 81, 3) := by decide +kernel
theorem dX5_where_20 : decode cX5_where 20 = .ok (.ifCond .eq 17, 3) := by decide +kernel
theorem dX5_where_23 : decode cX5_where 23 = .ok (.aload_n 0, 1) := by decide +kernel
theorem dX5_where_24 : decode cX5_where 24 = .ok (.getfield 69, 3) := by decide +kernel
theorem dX5_where_27 : decode cX5_where 27 = .ok (.bipush 50, 2) := by decide +kernel
theorem dX5_where_29 : decode cX5_where 29 = .ok (.iload_n 1, 1) := by decide +kernel
theorem dX5_where_30 : decode cX5_where 30 = .ok (.imul, 1) := by decide +kernel
theorem dX5_where_31 : decode cX5_where 31 = .ok (.iload_n 2, 1) := by decide +kernel
theorem dX5_where_32 : decode cX5_where 32 = .ok (.iadd, 1) := by decide +kernel
theorem dX5_where_33 : decode cX5_where 33 = .ok (.iaload, 1) := by decide +kernel
theorem dX5_where_34 : decode cX5_where 34 = .ok (.goto 4, 3) := by decide +kernel
theorem dX5_where_37 : decode cX5_where 37 = .ok (.iconst (-1), 1) := by decide +kernel
theorem dX5_where_38 : decode cX5_where 38 = .ok (.ireturn, 1) := by decide +kernel
theorem dX5_sum_0 : decode cX5_sum 0 = .ok (.iload_n 1, 1) := by decide +kernel
theorem dX5_sum_1 : decode cX5_sum 1 = .ok (.invokestatic 85, 3) := by decide +kernel
theorem dX5_sum_4 : decode cX5_sum 4 = .ok (.ifCond .eq 12, 3) := by decide +kernel
theorem dX5_sum_7 : decode cX5_sum 7 = .ok (.iload_n 2, 1) := by decide +kernel
theorem dX5_sum_8 : decode cX5_sum 8 = .ok (.iconst 0, 1) := by decide +kernel
theorem dX5_sum_9 : decode cX5_sum 9 = .ok (.iconst 2, 1) := by decide +kernel
theorem dX5_sum_10 : decode cX5_sum 10 = .ok (.invokestatic 81, 3) := by decide +kernel
theorem dX5_sum_13 : decode cX5_sum 13 = .ok (.ifCond .ne 5, 3) := by decide +kernel
theorem dX5_sum_16 : decode cX5_sum 16 = .ok (.iconst (-1), 1) := by decide +kernel
theorem dX5_sum_17 : decode cX5_sum 17 = .ok (.ireturn, 1) := by decide +kernel
theorem dX5_sum_18 : decode cX5_sum 18 = .ok (.iconst 0, 1) := by decide +kernel
theorem dX5_sum_19 : decode cX5_sum 19 = .ok (.istore_n 3, 1) := by decide +kernel
theorem dX5_sum_20 : decode cX5_sum 20 = .ok (.iconst 0, 1) := by decide +kernel
theorem dX5_sum_21 : decode cX5_sum 21 = .ok (.istore 4, 2) := by decide +kernel
theorem dX5_sum_23 : decode cX5_sum 23 = .ok (.iload 4, 2) := by decide +kernel
theorem dX5_sum_25 : decode cX5_sum 25 = .ok (.aload_n 0, 1) := by decide +kernel
theorem dX5_sum_26 : decode cX5_sum 26 = .ok (.getfield 103, 3) := by decide +kernel
theorem dX5_sum_29 : decode cX5_sum 29 = .ok (.if_icmp .ge 25, 3) := by decide +kernel
theorem dX5_sum_32 : decode cX5_sum 32 = .ok (.iload_n 3, 1) := by decide +kernel
theorem dX5_sum_33 : decode cX5_sum 33 = .ok (.aload_n 0, 1) := by decide +kernel
theorem dX5_sum_34 : decode cX5_sum 34 = .ok (.iload_n 1, 1) := by decide +kernel
theorem dX5_sum_35 : decode cX5_sum 35 = .ok (.aload_n 0, 1) := by decide +kernel
theorem dX5_sum_36 : decode cX5_sum 36 = .ok (.iload 4, 2) := by decide +kernel
theorem dX5_sum_38 : decode cX5_sum 38 = .ok (.iload_n 1, 1) := by decide +kernel
theorem dX5_sum_39 : decode cX5_sum 39 = .ok (.invokevirtual 167, 3) := by decide +kernel
theorem dX5_sum_42 : decode cX5_sum 42 = .ok (.iload_n 2, 1) := by decide +kernel
theorem dX5_sum_43 : decode cX5_sum 43 = .ok (.invokevirtual 92, 3) := by decide +kernel
theorem dX5_sum_46 : decode cX5_sum 46 = .ok (.iadd, 1) := by decide +kernel
theorem dX5_sum_47 : decode cX5_sum 47 = .ok (.istore_n 3, 1) := by decide +kernel
theorem dX5_sum_48 : decode cX5_sum 48 = .ok (.iinc 4 1, 3) := by decide +kernel
theorem dX5_sum_51 : decode cX5_sum 51 = .ok (.goto (-28), 3) := by decide +kernel
theorem dX5_sum_54 : decode cX5_sum 54 = .ok (.iload_n 3, 1) := by decide +kernel
theorem dX5_sum_55 : decode cX5_sum 55 = .ok (.ireturn, 1) := by decide +kernel
theorem dX5_passesAll_0 : decode cX5_passesAll 0 = .ok (.iconst 0, 1) := by decide +kernel
theorem dX5_passesAll_1 : decode cX5_passesAll 1 = .ok (.istore_n 3, 1) := by decide +kernel
theorem dX5_passesAll_2 : decode cX5_passesAll 2 = .ok (.iload_n 3, 1) := by decide +kernel
theorem dX5_passesAll_3 : decode cX5_passesAll 3 = .ok (.aload_n 0, 1) := by decide +kernel
theorem dX5_passesAll_4 : decode cX5_passesAll 4 = .ok (.getfield 16, 3) := by decide +kernel
theorem dX5_passesAll_7 : decode cX5_passesAll 7 = .ok (.iload_n 1, 1) := by decide +kernel
theorem dX5_passesAll_8 : decode cX5_passesAll 8 = .ok (.iaload, 1) := by decide +kernel
theorem dX5_passesAll_9 : decode cX5_passesAll 9 = .ok (.if_icmp .ge 21, 3) := by decide +kernel
theorem dX5_passesAll_12 : decode cX5_passesAll 12 = .ok (.aload_n 0, 1) := by decide +kernel
theorem dX5_passesAll_13 : decode cX5_passesAll 13 = .ok (.iload_n 1, 1) := by decide +kernel
theorem dX5_passesAll_14 : decode cX5_passesAll 14 = .ok (.iload_n 2, 1) := by decide +kernel
theorem dX5_passesAll_15 : decode cX5_passesAll 15 = .ok (.iload_n 3, 1) := by decide +kernel
theorem dX5_passesAll_16 : decode cX5_passesAll 16 = .ok (.invokevirtual 135, 3) := by decide +kernel
theorem dX5_passesAll_19 : decode cX5_passesAll 19 = .ok (.ifCond .ne 5, 3) := by decide +kernel
theorem dX5_passesAll_22 : decode cX5_passesAll 22 = .ok (.iconst 0, 1) := by decide +kernel
theorem dX5_passesAll_23 : decode cX5_passesAll 23 = .ok (.ireturn, 1) := by decide +kernel
theorem dX5_passesAll_24 : decode cX5_passesAll 24 = .ok (.iinc 3 1, 3) := by decide +kernel
theorem dX5_passesAll_27 : decode cX5_passesAll 27 = .ok (.goto (-25), 3) := by decide +kernel
theorem dX5_passesAll_30 : decode cX5_passesAll 30 = .ok (.iconst 1, 1) := by decide +kernel
theorem dX5_passesAll_31 : decode cX5_passesAll 31 = .ok (.ireturn, 1) := by decide +kernel
theorem dX5_plain_0 : decode cX5_plain 0 = .ok (.iconst 0, 1) := by decide +kernel
theorem dX5_plain_1 : decode cX5_plain 1 = .ok (.istore_n 1, 1) := by decide +kernel
theorem dX5_plain_2 : decode cX5_plain 2 = .ok (.iconst 0, 1) := by decide +kernel
theorem dX5_plain_3 : decode cX5_plain 3 = .ok (.istore_n 2, 1) := by decide +kernel
theorem dX5_plain_4 : decode cX5_plain 4 = .ok (.iload_n 2, 1) := by decide +kernel
theorem dX5_plain_5 : decode cX5_plain 5 = .ok (.aload_n 0, 1) := by decide +kernel
theorem dX5_plain_6 : decode cX5_plain 6 = .ok (.getfield 7, 3) := by decide +kernel
theorem dX5_plain_9 : decode cX5_plain 9 = .ok (.iconst 0, 1) := by decide +kernel
theorem dX5_plain_10 : decode cX5_plain 10 = .ok (.iaload, 1) := by decide +kernel
theorem dX5_plain_11 : decode cX5_plain 11 = .ok (.if_icmp .ge 65, 3) := by decide +kernel
theorem dX5_plain_14 : decode cX5_plain 14 = .ok (.aload_n 0, 1) := by decide +kernel
theorem dX5_plain_15 : decode cX5_plain 15 = .ok (.iconst 0, 1) := by decide +kernel
theorem dX5_plain_16 : decode cX5_plain 16 = .ok (.iload_n 2, 1) := by decide +kernel
theorem dX5_plain_17 : decode cX5_plain 17 = .ok (.invokevirtual 169, 3) := by decide +kernel
theorem dX5_plain_20 : decode cX5_plain 20 = .ok (.ifCond .ne 6, 3) := by decide +kernel
theorem dX5_plain_23 : decode cX5_plain 23 = .ok (.goto 47, 3) := by decide +kernel
theorem dX5_plain_26 : decode cX5_plain 26 = .ok (.iconst 0, 1) := by decide +kernel
theorem dX5_plain_27 : decode cX5_plain 27 = .ok (.istore_n 3, 1) := by decide +kernel
theorem dX5_plain_28 : decode cX5_plain 28 = .ok (.iload_n 3, 1) := by decide +kernel
theorem dX5_plain_29 : decode cX5_plain 29 = .ok (.aload_n 0, 1) := by decide +kernel
theorem dX5_plain_30 : decode cX5_plain 30 = .ok (.getfield 7, 3) := by decide +kernel
theorem dX5_plain_33 : decode cX5_plain 33 = .ok (.iconst 1, 1) := by decide +kernel
theorem dX5_plain_34 : decode cX5_plain 34 = .ok (.iaload, 1) := by decide +kernel
theorem dX5_plain_35 : decode cX5_plain 35 = .ok (.if_icmp .ge 35, 3) := by decide +kernel
theorem dX5_plain_38 : decode cX5_plain 38 = .ok (.iload_n 1, 1) := by decide +kernel
theorem dX5_plain_39 : decode cX5_plain 39 = .ok (.aload_n 0, 1) := by decide +kernel
theorem dX5_plain_40 : decode cX5_plain 40 = .ok (.iload_n 2, 1) := by decide +kernel
theorem dX5_plain_41 : decode cX5_plain 41 = .ok (.iload_n 3, 1) := by decide +kernel
theorem dX5_plain_42 : decode cX5_plain 42 = .ok (.invokevirtual 124, 3) := by decide +kernel
theorem dX5_plain_45 : decode cX5_plain 45 = .ok (.ifCond .eq 16, 3) := by decide +kernel
theorem dX5_plain_48 : decode cX5_plain 48 = .ok (.aload_n 0, 1) := by decide +kernel
theorem dX5_plain_49 : decode cX5_plain 49 = .ok (.iconst 1, 1) := by decide +kernel
theorem dX5_plain_50 : decode cX5_plain 50 = .ok (.iload_n 3, 1) := by decide +kernel
theorem dX5_plain_51 : decode cX5_plain 51 = .ok (.invokevirtual 169, 3) := by decide +kernel
theorem dX5_plain_54 : decode cX5_plain 54 = .ok (.ifCond .eq 7, 3) := by decide +kernel
theorem dX5_plain_57 : decode cX5_plain 57 = .ok (.iconst 1, 1) := by decide +kernel
theorem dX5_plain_58 : decode cX5_plain 58 = .ok (.goto 4, 3) := by decide +kernel
theorem dX5_plain_61 : decode cX5_plain 61 = .ok (.iconst 0, 1) := by decide +kernel
theorem dX5_plain_62 : decode cX5_plain 62 = .ok (.iadd, 1) := by decide +kernel
theorem dX5_plain_63 : decode cX5_plain 63 = .ok (.istore_n 1, 1) := by decide +kernel
theorem dX5_plain_64 : decode cX5_plain 64 = .ok (.iinc 3 1, 3) := by decide +kernel
theorem dX5_plain_67 : decode cX5_plain 67 = .ok (.goto (-39), 3) := by decide +kernel
theorem dX5_plain_70 : decode cX5_plain 70 = .ok (.iinc 2 1, 3) := by decide +kernel
theorem dX5_plain_73 : decode cX5_plain 73 = .ok (.goto (-69), 3) := by decide +kernel
theorem dX5_plain_76 : decode cX5_plain 76 = .ok (.iload_n 1, 1) := by decide +kernel
theorem dX5_plain_77 : decode cX5_plain 77 = .ok (.ireturn, 1) := by decide +kernel
theorem dX5_costOf_0 : decode cX5_costOf 0 = .ok (.aload_n 0, 1) := by decide +kernel
theorem dX5_costOf_1 : decode cX5_costOf 1 = .ok (.getfield 41, 3) := by decide +kernel
theorem dX5_costOf_4 : decode cX5_costOf 4 = .ok (.iload_n 1, 1) := by decide +kernel
theorem dX5_costOf_5 : decode cX5_costOf 5 = .ok (.iaload, 1) := by decide +kernel
theorem dX5_costOf_6 : decode cX5_costOf 6 = .ok (.istore_n 3, 1) := by decide +kernel
theorem dX5_costOf_7 : decode cX5_costOf 7 = .ok (.iconst 0, 1) := by decide +kernel
theorem dX5_costOf_8 : decode cX5_costOf 8 = .ok (.istore 4, 2) := by decide +kernel
theorem dX5_costOf_10 : decode cX5_costOf 10 = .ok (.iconst 0, 1) := by decide +kernel
theorem dX5_costOf_11 : decode cX5_costOf 11 = .ok (.istore 5, 2) := by decide +kernel
theorem dX5_costOf_13 : decode cX5_costOf 13 = .ok (.iload 5, 2) := by decide +kernel
theorem dX5_costOf_15 : decode cX5_costOf 15 = .ok (.iload_n 3, 1) := by decide +kernel
theorem dX5_costOf_16 : decode cX5_costOf 16 = .ok (.if_icmp .ge 24, 3) := by decide +kernel
theorem dX5_costOf_19 : decode cX5_costOf 19 = .ok (.iload 4, 2) := by decide +kernel
theorem dX5_costOf_21 : decode cX5_costOf 21 = .ok (.iconst 1, 1) := by decide +kernel
theorem dX5_costOf_22 : decode cX5_costOf 22 = .ok (.iload_n 2, 1) := by decide +kernel
theorem dX5_costOf_23 : decode cX5_costOf 23 = .ok (.iconst 2, 1) := by decide +kernel
theorem dX5_costOf_24 : decode cX5_costOf 24 = .ok (.iload 5, 2) := by decide +kernel
theorem dX5_costOf_26 : decode cX5_costOf 26 = .ok (.imul, 1) := by decide +kernel
theorem dX5_costOf_27 : decode cX5_costOf 27 = .ok (.ishr, 1) := by decide +kernel
theorem dX5_costOf_28 : decode cX5_costOf 28 = .ok (.iconst 3, 1) := by decide +kernel
theorem dX5_costOf_29 : decode cX5_costOf 29 = .ok (.iand, 1) := by decide +kernel
theorem dX5_costOf_30 : decode cX5_costOf 30 = .ok (.ishl, 1) := by decide +kernel
theorem dX5_costOf_31 : decode cX5_costOf 31 = .ok (.ior, 1) := by decide +kernel
theorem dX5_costOf_32 : decode cX5_costOf 32 = .ok (.istore 4, 2) := by decide +kernel
theorem dX5_costOf_34 : decode cX5_costOf 34 = .ok (.iinc 5 1, 3) := by decide +kernel
theorem dX5_costOf_37 : decode cX5_costOf 37 = .ok (.goto (-24), 3) := by decide +kernel
theorem dX5_costOf_40 : decode cX5_costOf 40 = .ok (.iload 4, 2) := by decide +kernel
theorem dX5_costOf_42 : decode cX5_costOf 42 = .ok (.iconst 1, 1) := by decide +kernel
theorem dX5_costOf_43 : decode cX5_costOf 43 = .ok (.iload_n 3, 1) := by decide +kernel
theorem dX5_costOf_44 : decode cX5_costOf 44 = .ok (.ishl, 1) := by decide +kernel
theorem dX5_costOf_45 : decode cX5_costOf 45 = .ok (.iconst 1, 1) := by decide +kernel
theorem dX5_costOf_46 : decode cX5_costOf 46 = .ok (.isub, 1) := by decide +kernel
theorem dX5_costOf_47 : decode cX5_costOf 47 = .ok (.if_icmp .eq 5, 3) := by decide +kernel
theorem dX5_costOf_50 : decode cX5_costOf 50 = .ok (.iconst (-1), 1) := by decide +kernel
theorem dX5_costOf_51 : decode cX5_costOf 51 = .ok (.ireturn, 1) := by decide +kernel
theorem dX5_costOf_52 : decode cX5_costOf 52 = .ok (.iconst 0, 1) := by decide +kernel
theorem dX5_costOf_53 : decode cX5_costOf 53 = .ok (.istore 5, 2) := by decide +kernel
theorem dX5_costOf_55 : decode cX5_costOf 55 = .ok (.iconst 0, 1) := by decide +kernel
theorem dX5_costOf_56 : decode cX5_costOf 56 = .ok (.istore 6, 2) := by decide +kernel
theorem dX5_costOf_58 : decode cX5_costOf 58 = .ok (.iload 6, 2) := by decide +kernel
theorem dX5_costOf_60 : decode cX5_costOf 60 = .ok (.aload_n 0, 1) := by decide +kernel
theorem dX5_costOf_61 : decode cX5_costOf 61 = .ok (.getfield 44, 3) := by decide +kernel
theorem dX5_costOf_64 : decode cX5_costOf 64 = .ok (.iload_n 1, 1) := by decide +kernel
theorem dX5_costOf_65 : decode cX5_costOf 65 = .ok (.iaload, 1) := by decide +kernel
theorem dX5_costOf_66 : decode cX5_costOf 66 = .ok (.if_icmp .ge 69, 3) := by decide +kernel
theorem dX5_costOf_69 : decode cX5_costOf 69 = .ok (.iconst 1, 1) := by decide +kernel
theorem dX5_costOf_70 : decode cX5_costOf 70 = .ok (.istore 7, 2) := by decide +kernel
theorem dX5_costOf_72 : decode cX5_costOf 72 = .ok (.iconst 0, 1) := by decide +kernel
theorem dX5_costOf_73 : decode cX5_costOf 73 = .ok (.istore 8, 2) := by decide +kernel
theorem dX5_costOf_75 : decode cX5_costOf 75 = .ok (.iload 8, 2) := by decide +kernel
theorem dX5_costOf_77 : decode cX5_costOf 77 = .ok (.iload_n 3, 1) := by decide +kernel
theorem dX5_costOf_78 : decode cX5_costOf 78 = .ok (.if_icmp .ge 51, 3) := by decide +kernel
theorem dX5_costOf_81 : decode cX5_costOf 81 = .ok (.iload 7, 2) := by decide +kernel
theorem dX5_costOf_83 : decode cX5_costOf 83 = .ok (.ifCond .eq 46, 3) := by decide +kernel
theorem dX5_costOf_86 : decode cX5_costOf 86 = .ok (.iload_n 2, 1) := by decide +kernel
theorem dX5_costOf_87 : decode cX5_costOf 87 = .ok (.iconst 2, 1) := by decide +kernel
theorem dX5_costOf_88 : decode cX5_costOf 88 = .ok (.iload 8, 2) := by decide +kernel
theorem dX5_costOf_90 : decode cX5_costOf 90 = .ok (.imul, 1) := by decide +kernel
theorem dX5_costOf_91 : decode cX5_costOf 91 = .ok (.ishr, 1) := by decide +kernel
theorem dX5_costOf_92 : decode cX5_costOf 92 = .ok (.iconst 3, 1) := by decide +kernel
theorem dX5_costOf_93 : decode cX5_costOf 93 = .ok (.iand, 1) := by decide +kernel
theorem dX5_costOf_94 : decode cX5_costOf 94 = .ok (.istore 9, 2) := by decide +kernel
theorem dX5_costOf_96 : decode cX5_costOf 96 = .ok (.iload 5, 2) := by decide +kernel
theorem dX5_costOf_98 : decode cX5_costOf 98 = .ok (.aload_n 0, 1) := by decide +kernel
theorem dX5_costOf_99 : decode cX5_costOf 99 = .ok (.getfield 28, 3) := by decide +kernel
theorem dX5_costOf_102 : decode cX5_costOf 102 = .ok (.iconst 4, 1) := by decide +kernel
theorem dX5_costOf_103 : decode cX5_costOf 103 = .ok (.iload_n 1, 1) := by decide +kernel
theorem dX5_costOf_104 : decode cX5_costOf 104 = .ok (.imul, 1) := by decide +kernel
theorem dX5_costOf_105 : decode cX5_costOf 105 = .ok (.iload 9, 2) := by decide +kernel
theorem dX5_costOf_107 : decode cX5_costOf 107 = .ok (.iadd, 1) := by decide +kernel
theorem dX5_costOf_108 : decode cX5_costOf 108 = .ok (.iaload, 1) := by decide +kernel
theorem dX5_costOf_109 : decode cX5_costOf 109 = .ok (.iadd, 1) := by decide +kernel
theorem dX5_costOf_110 : decode cX5_costOf 110 = .ok (.istore 5, 2) := by decide +kernel
theorem dX5_costOf_112 : decode cX5_costOf 112 = .ok (.aload_n 0, 1) := by decide +kernel
theorem dX5_costOf_113 : decode cX5_costOf 113 = .ok (.iload_n 1, 1) := by decide +kernel
theorem dX5_costOf_114 : decode cX5_costOf 114 = .ok (.iload 6, 2) := by decide +kernel
theorem dX5_costOf_116 : decode cX5_costOf 116 = .ok (.iload 9, 2) := by decide +kernel
theorem dX5_costOf_118 : decode cX5_costOf 118 = .ok (.invokevirtual 135, 3) := by decide +kernel
theorem dX5_costOf_121 : decode cX5_costOf 121 = .ok (.istore 7, 2) := by decide +kernel
theorem dX5_costOf_123 : decode cX5_costOf 123 = .ok (.iinc 8 1, 3) := by decide +kernel
theorem dX5_costOf_126 : decode cX5_costOf 126 = .ok (.goto (-51), 3) := by decide +kernel
theorem dX5_costOf_129 : decode cX5_costOf 129 = .ok (.iinc 6 1, 3) := by decide +kernel
theorem dX5_costOf_132 : decode cX5_costOf 132 = .ok (.goto (-74), 3) := by decide +kernel
theorem dX5_costOf_135 : decode cX5_costOf 135 = .ok (.iload 5, 2) := by decide +kernel
theorem dX5_costOf_137 : decode cX5_costOf 137 = .ok (.ireturn, 1) := by decide +kernel
theorem dX5_fixed_0 : decode cX5_fixed 0 = .ok (.iload_n 1, 1) := by decide +kernel
theorem dX5_fixed_1 : decode cX5_fixed 1 = .ok (.invokestatic 85, 3) := by decide +kernel
theorem dX5_fixed_4 : decode cX5_fixed 4 = .ok (.ifCond .ne 5, 3) := by decide +kernel
theorem dX5_fixed_7 : decode cX5_fixed 7 = .ok (.iconst (-1), 1) := by decide +kernel
theorem dX5_fixed_8 : decode cX5_fixed 8 = .ok (.ireturn, 1) := by decide +kernel
theorem dX5_fixed_9 : decode cX5_fixed 9 = .ok (.iconst (-1), 1) := by decide +kernel
theorem dX5_fixed_10 : decode cX5_fixed 10 = .ok (.istore_n 2, 1) := by decide +kernel
theorem dX5_fixed_11 : decode cX5_fixed 11 = .ok (.iconst 0, 1) := by decide +kernel
theorem dX5_fixed_12 : decode cX5_fixed 12 = .ok (.istore_n 3, 1) := by decide +kernel
theorem dX5_fixed_13 : decode cX5_fixed 13 = .ok (.iload_n 3, 1) := by decide +kernel
theorem dX5_fixed_14 : decode cX5_fixed 14 = .ok (.iconst 1, 1) := by decide +kernel
theorem dX5_fixed_15 : decode cX5_fixed 15 = .ok (.iconst 2, 1) := by decide +kernel
theorem dX5_fixed_16 : decode cX5_fixed 16 = .ok (.aload_n 0, 1) := by decide +kernel
theorem dX5_fixed_17 : decode cX5_fixed 17 = .ok (.getfield 41, 3) := by decide +kernel
theorem dX5_fixed_20 : decode cX5_fixed 20 = .ok (.iload_n 1, 1) := by decide +kernel
theorem dX5_fixed_21 : decode cX5_fixed 21 = .ok (.iaload, 1) := by decide +kernel
theorem dX5_fixed_22 : decode cX5_fixed 22 = .ok (.imul, 1) := by decide +kernel
theorem dX5_fixed_23 : decode cX5_fixed 23 = .ok (.ishl, 1) := by decide +kernel
theorem dX5_fixed_24 : decode cX5_fixed 24 = .ok (.if_icmp .ge 37, 3) := by decide +kernel
theorem dX5_fixed_27 : decode cX5_fixed 27 = .ok (.aload_n 0, 1) := by decide +kernel
theorem dX5_fixed_28 : decode cX5_fixed 28 = .ok (.iload_n 1, 1) := by decide +kernel
theorem dX5_fixed_29 : decode cX5_fixed 29 = .ok (.iload_n 3, 1) := by decide +kernel
theorem dX5_fixed_30 : decode cX5_fixed 30 = .ok (.invokevirtual 172, 3) := by decide +kernel
theorem dX5_fixed_33 : decode cX5_fixed 33 = .ok (.istore 4, 2) := by decide +kernel
theorem dX5_fixed_35 : decode cX5_fixed 35 = .ok (.iload 4, 2) := by decide +kernel
theorem dX5_fixed_37 : decode cX5_fixed 37 = .ok (.iconst (-1), 1) := by decide +kernel
theorem dX5_fixed_38 : decode cX5_fixed 38 = .ok (.if_icmp .eq 17, 3) := by decide +kernel
theorem dX5_fixed_41 : decode cX5_fixed 41 = .ok (.iload_n 2, 1) := by decide +kernel
theorem dX5_fixed_42 : decode cX5_fixed 42 = .ok (.iconst (-1), 1) := by decide +kernel
theorem dX5_fixed_43 : decode cX5_fixed 43 = .ok (.if_icmp .eq 9, 3) := by decide +kernel
theorem dX5_fixed_46 : decode cX5_fixed 46 = .ok (.iload 4, 2) := by decide +kernel
theorem dX5_fixed_48 : decode cX5_fixed 48 = .ok (.iload_n 2, 1) := by decide +kernel
theorem dX5_fixed_49 : decode cX5_fixed 49 = .ok (.if_icmp .ge 6, 3) := by decide +kernel
theorem dX5_fixed_52 : decode cX5_fixed 52 = .ok (.iload 4, 2) := by decide +kernel
theorem dX5_fixed_54 : decode cX5_fixed 54 = .ok (.istore_n 2, 1) := by decide +kernel
theorem dX5_fixed_55 : decode cX5_fixed 55 = .ok (.iinc 3 1, 3) := by decide +kernel
theorem dX5_fixed_58 : decode cX5_fixed 58 = .ok (.goto (-45), 3) := by decide +kernel
theorem dX5_fixed_61 : decode cX5_fixed 61 = .ok (.iload_n 2, 1) := by decide +kernel
theorem dX5_fixed_62 : decode cX5_fixed 62 = .ok (.ireturn, 1) := by decide +kernel
theorem dX5_cost_0 : decode cX5_cost 0 = .ok (.iload_n 1, 1) := by decide +kernel
theorem dX5_cost_1 : decode cX5_cost 1 = .ok (.invokestatic 85, 3) := by decide +kernel
theorem dX5_cost_4 : decode cX5_cost 4 = .ok (.ifCond .eq 12, 3) := by decide +kernel
theorem dX5_cost_7 : decode cX5_cost 7 = .ok (.aload_n 0, 1) := by decide +kernel
theorem dX5_cost_8 : decode cX5_cost 8 = .ok (.getfield 60, 3) := by decide +kernel
theorem dX5_cost_11 : decode cX5_cost 11 = .ok (.iload_n 1, 1) := by decide +kernel
theorem dX5_cost_12 : decode cX5_cost 12 = .ok (.iaload, 1) := by decide +kernel
theorem dX5_cost_13 : decode cX5_cost 13 = .ok (.goto 4, 3) := by decide +kernel
theorem dX5_cost_16 : decode cX5_cost 16 = .ok (.iconst (-1), 1) := by decide +kernel
theorem dX5_cost_17 : decode cX5_cost 17 = .ok (.ireturn, 1) := by decide +kernel
theorem dX5_count_0 : decode cX5_count 0 = .ok (.iload_n 1, 1) := by decide +kernel
theorem dX5_count_1 : decode cX5_count 1 = .ok (.tableswitch 109 0 9 #[55, 60, 65, 70, 75, 80, 87, 94, 99, 104], 55) := by decide +kernel
theorem dX5_count_56 : decode cX5_count 56 = .ok (.aload_n 0, 1) := by decide +kernel
theorem dX5_count_57 : decode cX5_count 57 = .ok (.getfield 89, 3) := by decide +kernel
theorem dX5_count_60 : decode cX5_count 60 = .ok (.ireturn, 1) := by decide +kernel
theorem dX5_count_61 : decode cX5_count 61 = .ok (.aload_n 0, 1) := by decide +kernel
theorem dX5_count_62 : decode cX5_count 62 = .ok (.getfield 106, 3) := by decide +kernel
theorem dX5_count_65 : decode cX5_count 65 = .ok (.ireturn, 1) := by decide +kernel
theorem dX5_count_66 : decode cX5_count 66 = .ok (.aload_n 0, 1) := by decide +kernel
theorem dX5_count_67 : decode cX5_count 67 = .ok (.getfield 103, 3) := by decide +kernel
theorem dX5_count_70 : decode cX5_count 70 = .ok (.ireturn, 1) := by decide +kernel
theorem dX5_count_71 : decode cX5_count 71 = .ok (.aload_n 0, 1) := by decide +kernel
theorem dX5_count_72 : decode cX5_count 72 = .ok (.invokevirtual 155, 3) := by decide +kernel
theorem dX5_count_75 : decode cX5_count 75 = .ok (.ireturn, 1) := by decide +kernel
theorem dX5_count_76 : decode cX5_count 76 = .ok (.aload_n 0, 1) := by decide +kernel
theorem dX5_count_77 : decode cX5_count 77 = .ok (.getfield 109, 3) := by decide +kernel
theorem dX5_count_80 : decode cX5_count 80 = .ok (.ireturn, 1) := by decide +kernel
theorem dX5_count_81 : decode cX5_count 81 = .ok (.aload_n 0, 1) := by decide +kernel
theorem dX5_count_82 : decode cX5_count 82 = .ok (.getfield 44, 3) := by decide +kernel
theorem dX5_count_85 : decode cX5_count 85 = .ok (.iconst 0, 1) := by decide +kernel
theorem dX5_count_86 : decode cX5_count 86 = .ok (.iaload, 1) := by decide +kernel
theorem dX5_count_87 : decode cX5_count 87 = .ok (.ireturn, 1) := by decide +kernel
theorem dX5_count_88 : decode cX5_count 88 = .ok (.aload_n 0, 1) := by decide +kernel
theorem dX5_count_89 : decode cX5_count 89 = .ok (.getfield 44, 3) := by decide +kernel
theorem dX5_count_92 : decode cX5_count 92 = .ok (.iconst 1, 1) := by decide +kernel
theorem dX5_count_93 : decode cX5_count 93 = .ok (.iaload, 1) := by decide +kernel
theorem dX5_count_94 : decode cX5_count 94 = .ok (.ireturn, 1) := by decide +kernel
theorem dX5_count_95 : decode cX5_count 95 = .ok (.aload_n 0, 1) := by decide +kernel
theorem dX5_count_96 : decode cX5_count 96 = .ok (.getfield 115, 3) := by decide +kernel
theorem dX5_count_99 : decode cX5_count 99 = .ok (.ireturn, 1) := by decide +kernel
theorem dX5_count_100 : decode cX5_count 100 = .ok (.aload_n 0, 1) := by decide +kernel
theorem dX5_count_101 : decode cX5_count 101 = .ok (.getfield 118, 3) := by decide +kernel
theorem dX5_count_104 : decode cX5_count 104 = .ok (.ireturn, 1) := by decide +kernel
theorem dX5_count_105 : decode cX5_count 105 = .ok (.aload_n 0, 1) := by decide +kernel
theorem dX5_count_106 : decode cX5_count 106 = .ok (.getfield 34, 3) := by decide +kernel
theorem dX5_count_109 : decode cX5_count 109 = .ok (.ireturn, 1) := by decide +kernel
theorem dX5_count_110 : decode cX5_count 110 = .ok (.iconst (-1), 1) := by decide +kernel
theorem dX5_count_111 : decode cX5_count 111 = .ok (.ireturn, 1) := by decide +kernel
end
section
theorem dX4_init_0 : decode cX4_init 0 = .ok (.aload_n 0, 1) := by decide +kernel
theorem dX4_init_1 : decode cX4_init 1 = .ok (.invokespecial 3, 3) := by decide +kernel
theorem dX4_init_4 : decode cX4_init 4 = .ok (.new 9, 3) := by decide +kernel
theorem dX4_init_7 : decode cX4_init 7 = .ok (.dup, 1) := by decide +kernel
theorem dX4_init_8 : decode cX4_init 8 = .ok (.invokespecial 11, 3) := by decide +kernel
theorem dX4_init_11 : decode cX4_init 11 = .ok (.astore_n 1, 1) := by decide +kernel
theorem dX4_init_12 : decode cX4_init 12 = .ok (.new 9, 3) := by decide +kernel
theorem dX4_init_15 : decode cX4_init 15 = .ok (.dup, 1) := by decide +kernel
theorem dX4_init_16 : decode cX4_init 16 = .ok (.invokespecial 11, 3) := by decide +kernel
theorem dX4_init_19 : decode cX4_init 19 = .ok (.astore_n 2, 1) := by decide +kernel
theorem dX4_init_20 : decode cX4_init 20 = .ok (.aload_n 0, 1) := by decide +kernel
theorem dX4_init_21 : decode cX4_init 21 = .ok (.iconst 2, 1) := by decide +kernel
theorem dX4_init_22 : decode cX4_init 22 = .ok (.anewarray 9, 3) := by decide +kernel
theorem dX4_init_25 : decode cX4_init 25 = .ok (.dup, 1) := by decide +kernel
theorem dX4_init_26 : decode cX4_init 26 = .ok (.iconst 0, 1) := by decide +kernel
theorem dX4_init_27 : decode cX4_init 27 = .ok (.aload_n 1, 1) := by decide +kernel
theorem dX4_init_28 : decode cX4_init 28 = .ok (.aastore, 1) := by decide +kernel
theorem dX4_init_29 : decode cX4_init 29 = .ok (.dup, 1) := by decide +kernel
theorem dX4_init_30 : decode cX4_init 30 = .ok (.iconst 1, 1) := by decide +kernel
theorem dX4_init_31 : decode cX4_init 31 = .ok (.aload_n 2, 1) := by decide +kernel
theorem dX4_init_32 : decode cX4_init 32 = .ok (.aastore, 1) := by decide +kernel
theorem dX4_init_33 : decode cX4_init 33 = .ok (.putfield 12, 3) := by decide +kernel
theorem dX4_init_36 : decode cX4_init 36 = .ok (.aload_n 0, 1) := by decide +kernel
theorem dX4_init_37 : decode cX4_init 37 = .ok (.iconst 2, 1) := by decide +kernel
theorem dX4_init_38 : decode cX4_init 38 = .ok (.anewarray 16, 3) := by decide +kernel
theorem dX4_init_41 : decode cX4_init 41 = .ok (.dup, 1) := by decide +kernel
theorem dX4_init_42 : decode cX4_init 42 = .ok (.iconst 0, 1) := by decide +kernel
theorem dX4_init_43 : decode cX4_init 43 = .ok (.new 16, 3) := by decide +kernel
theorem dX4_init_46 : decode cX4_init 46 = .ok (.dup, 1) := by decide +kernel
theorem dX4_init_47 : decode cX4_init 47 = .ok (.aload_n 1, 1) := by decide +kernel
theorem dX4_init_48 : decode cX4_init 48 = .ok (.invokespecial 18, 3) := by decide +kernel
theorem dX4_init_51 : decode cX4_init 51 = .ok (.aastore, 1) := by decide +kernel
theorem dX4_init_52 : decode cX4_init 52 = .ok (.dup, 1) := by decide +kernel
theorem dX4_init_53 : decode cX4_init 53 = .ok (.iconst 1, 1) := by decide +kernel
theorem dX4_init_54 : decode cX4_init 54 = .ok (.new 16, 3) := by decide +kernel
theorem dX4_init_57 : decode cX4_init 57 = .ok (.dup, 1) := by decide +kernel
theorem dX4_init_58 : decode cX4_init 58 = .ok (.aload_n 2, 1) := by decide +kernel
theorem dX4_init_59 : decode cX4_init 59 = .ok (.invokespecial 18, 3) := by decide +kernel
theorem dX4_init_62 : decode cX4_init 62 = .ok (.aastore, 1) := by decide +kernel
theorem dX4_init_63 : decode cX4_init 63 = .ok (.putfield 21, 3) := by decide +kernel
theorem dX4_init_66 : decode cX4_init 66 = .ok (.aload_n 0, 1) := by decide +kernel
theorem dX4_init_67 : decode cX4_init 67 = .ok (.iconst 2, 1) := by decide +kernel
theorem dX4_init_68 : decode cX4_init 68 = .ok (.newarray .int, 2) := by decide +kernel
theorem dX4_init_70 : decode cX4_init 70 = .ok (.putfield 25, 3) := by decide +kernel
theorem dX4_init_73 : decode cX4_init 73 = .ok (.aload_n 0, 1) := by decide +kernel
theorem dX4_init_74 : decode cX4_init 74 = .ok (.new 29, 3) := by decide +kernel
theorem dX4_init_77 : decode cX4_init 77 = .ok (.dup, 1) := by decide +kernel
theorem dX4_init_78 : decode cX4_init 78 = .ok (.invokespecial 31, 3) := by decide +kernel
theorem dX4_init_81 : decode cX4_init 81 = .ok (.putfield 32, 3) := by decide +kernel
theorem dX4_init_84 : decode cX4_init 84 = .ok (.aload_n 0, 1) := by decide +kernel
theorem dX4_init_85 : decode cX4_init 85 = .ok (.new 36, 3) := by decide +kernel
theorem dX4_init_88 : decode cX4_init 88 = .ok (.dup, 1) := by decide +kernel
theorem dX4_init_89 : decode cX4_init 89 = .ok (.invokespecial 38, 3) := by decide +kernel
theorem dX4_init_92 : decode cX4_init 92 = .ok (.putfield 39, 3) := by decide +kernel
theorem dX4_init_95 : decode cX4_init 95 = .ok (.aload_n 0, 1) := by decide +kernel
theorem dX4_init_96 : decode cX4_init 96 = .ok (.bipush 100, 2) := by decide +kernel
theorem dX4_init_98 : decode cX4_init 98 = .ok (.newarray .int, 2) := by decide +kernel
theorem dX4_init_100 : decode cX4_init 100 = .ok (.putfield 43, 3) := by decide +kernel
theorem dX4_init_103 : decode cX4_init 103 = .ok (.aload_n 0, 1) := by decide +kernel
theorem dX4_init_104 : decode cX4_init 104 = .ok (.iconst 0, 1) := by decide +kernel
theorem dX4_init_105 : decode cX4_init 105 = .ok (.putfield 46, 3) := by decide +kernel
theorem dX4_init_108 : decode cX4_init 108 = .ok (.aload_n 0, 1) := by decide +kernel
theorem dX4_init_109 : decode cX4_init 109 = .ok (.iconst (-1), 1) := by decide +kernel
theorem dX4_init_110 : decode cX4_init 110 = .ok (.putfield 50, 3) := by decide +kernel
theorem dX4_init_113 : decode cX4_init 113 = .ok (.return_, 1) := by decide +kernel
theorem dX4_row_0 : decode cX4_row 0 = .ok (.aload_n 0, 1) := by decide +kernel
theorem dX4_row_1 : decode cX4_row 1 = .ok (.getfield 46, 3) := by decide +kernel
theorem dX4_row_4 : decode cX4_row 4 = .ok (.iconst 1, 1) := by decide +kernel
theorem dX4_row_5 : decode cX4_row 5 = .ok (.if_icmp .eq 32, 3) := by decide +kernel
theorem dX4_row_8 : decode cX4_row 8 = .ok (.iload_n 1, 1) := by decide +kernel
theorem dX4_row_9 : decode cX4_row 9 = .ok (.invokestatic 53, 3) := by decide +kernel
theorem dX4_row_12 : decode cX4_row 12 = .ok (.ifCond .eq 25, 3) := by decide +kernel
theorem dX4_row_15 : decode cX4_row 15 = .ok (.iload_n 2, 1) := by decide +kernel
theorem dX4_row_16 : decode cX4_row 16 = .ok (.invokestatic 57, 3) := by decide +kernel
theorem dX4_row_19 : decode cX4_row 19 = .ok (.ifCond .eq 18, 3) := by decide +kernel
theorem dX4_row_22 : decode cX4_row 22 = .ok (.iload_n 3, 1) := by decide +kernel
theorem dX4_row_23 : decode cX4_row 23 = .ok (.invokestatic 57, 3) := by decide +kernel
theorem dX4_row_26 : decode cX4_row 26 = .ok (.ifCond .eq 11, 3) := by decide +kernel
theorem dX4_row_29 : decode cX4_row 29 = .ok (.iload 4, 2) := by decide +kernel
theorem dX4_row_31 : decode cX4_row 31 = .ok (.invokestatic 57, 3) := by decide +kernel
theorem dX4_row_34 : decode cX4_row 34 = .ok (.ifCond .ne 5, 3) := by decide +kernel
theorem dX4_row_37 : decode cX4_row 37 = .ok (.iconst (-1), 1) := by decide +kernel
theorem dX4_row_38 : decode cX4_row 38 = .ok (.ireturn, 1) := by decide +kernel
theorem dX4_row_39 : decode cX4_row 39 = .ok (.aload_n 0, 1) := by decide +kernel
theorem dX4_row_40 : decode cX4_row 40 = .ok (.getfield 12, 3) := by decide +kernel
theorem dX4_row_43 : decode cX4_row 43 = .ok (.iload_n 1, 1) := by decide +kernel
theorem dX4_row_44 : decode cX4_row 44 = .ok (.aaload, 1) := by decide +kernel
theorem dX4_row_45 : decode cX4_row 45 = .ok (.iload_n 2, 1) := by decide +kernel
theorem dX4_row_46 : decode cX4_row 46 = .ok (.iload_n 3, 1) := by decide +kernel
theorem dX4_row_47 : decode cX4_row 47 = .ok (.iload 4, 2) := by decide +kernel
theorem dX4_row_49 : decode cX4_row 49 = .ok (.invokevirtual 60, 3) := by decide +kernel
theorem dX4_row_52 : decode cX4_row 52 = .ok (.ireturn, 1) := by decide +kernel
theorem dX4_test_0 : decode cX4_test 0 = .ok (.aload_n 0, 1) := by decide +kernel
theorem dX4_test_1 : decode cX4_test 1 = .ok (.getfield 46, 3) := by decide +kernel
theorem dX4_test_4 : decode cX4_test 4 = .ok (.iconst 1, 1) := by decide +kernel
theorem dX4_test_5 : decode cX4_test 5 = .ok (.if_icmp .eq 21, 3) := by decide +kernel
theorem dX4_test_8 : decode cX4_test 8 = .ok (.iload_n 1, 1) := by decide +kernel
theorem dX4_test_9 : decode cX4_test 9 = .ok (.invokestatic 53, 3) := by decide +kernel
theorem dX4_test_12 : decode cX4_test 12 = .ok (.ifCond .eq 14, 3) := by decide +kernel
theorem dX4_test_15 : decode cX4_test 15 = .ok (.iload_n 3, 1) := by decide +kernel
theorem dX4_test_16 : decode cX4_test 16 = .ok (.iconst 1, 1) := by decide +kernel
theorem dX4_test_17 : decode cX4_test 17 = .ok (.if_icmp .lt 9, 3) := by decide +kernel
theorem dX4_test_20 : decode cX4_test 20 = .ok (.iload_n 3, 1) := by decide +kernel
theorem dX4_test_21 : decode cX4_test 21 = .ok (.bipush 50, 2) := by decide +kernel
theorem dX4_test_23 : decode cX4_test 23 = .ok (.if_icmp .le 5, 3) := by decide +kernel
theorem dX4_test_26 : decode cX4_test 26 = .ok (.iconst (-1), 1) := by decide +kernel
theorem dX4_test_27 : decode cX4_test 27 = .ok (.ireturn, 1) := by decide +kernel
theorem dX4_test_28 : decode cX4_test 28 = .ok (.iload_n 2, 1) := by decide +kernel
theorem dX4_test_29 : decode cX4_test 29 = .ok (.sipush 1000, 3) := by decide +kernel
theorem dX4_test_32 : decode cX4_test 32 = .ok (.idiv, 1) := by decide +kernel
theorem dX4_test_33 : decode cX4_test 33 = .ok (.istore 4, 2) := by decide +kernel
theorem dX4_test_35 : decode cX4_test 35 = .ok (.iload_n 2, 1) := by decide +kernel
theorem dX4_test_36 : decode cX4_test 36 = .ok (.bipush 100, 2) := by decide +kernel
theorem dX4_test_38 : decode cX4_test 38 = .ok (.idiv, 1) := by decide +kernel
theorem dX4_test_39 : decode cX4_test 39 = .ok (.bipush 10, 2) := by decide +kernel
theorem dX4_test_41 : decode cX4_test 41 = .ok (.irem, 1) := by decide +kernel
theorem dX4_test_42 : decode cX4_test 42 = .ok (.istore 5, 2) := by decide +kernel
theorem dX4_test_44 : decode cX4_test 44 = .ok (.iload_n 2, 1) := by decide +kernel
theorem dX4_test_45 : decode cX4_test 45 = .ok (.ifCond .lt 17, 3) := by decide +kernel
theorem dX4_test_48 : decode cX4_test 48 = .ok (.iload 4, 2) := by decide +kernel
theorem dX4_test_50 : decode cX4_test 50 = .ok (.invokestatic 64, 3) := by decide +kernel
theorem dX4_test_53 : decode cX4_test 53 = .ok (.ifCond .eq 9, 3) := by decide +kernel
theorem dX4_test_56 : decode cX4_test 56 = .ok (.iload 5, 2) := by decide +kernel
theorem dX4_test_58 : decode cX4_test 58 = .ok (.iconst 3, 1) := by decide +kernel
theorem dX4_test_59 : decode cX4_test 59 = .ok (.if_icmp .lt 5, 3) := by decide +kernel
theorem dX4_test_62 : decode cX4_test 62 = .ok (.iconst (-1), 1) := by decide +kernel
theorem dX4_test_63 : decode cX4_test 63 = .ok (.ireturn, 1) := by decide +kernel
theorem dX4_test_64 : decode cX4_test 64 = .ok (.aload_n 0, 1) := by decide +kernel
theorem dX4_test_65 : decode cX4_test 65 = .ok (.getfield 12, 3) := by decide +kernel
theorem dX4_test_68 : decode cX4_test 68 = .ok (.iload_n 1, 1) := by decide +kernel
theorem dX4_test_69 : decode cX4_test 69 = .ok (.aaload, 1) := by decide +kernel
theorem dX4_test_70 : decode cX4_test 70 = .ok (.iload 4, 2) := by decide +kernel
theorem dX4_test_72 : decode cX4_test 72 = .ok (.iload 5, 2) := by decide +kernel
theorem dX4_test_74 : decode cX4_test 74 = .ok (.iload_n 2, 1) := by decide +kernel
theorem dX4_test_75 : decode cX4_test 75 = .ok (.bipush 100, 2) := by decide +kernel
theorem dX4_test_77 : decode cX4_test 77 = .ok (.irem, 1) := by decide +kernel
theorem dX4_test_78 : decode cX4_test 78 = .ok (.iload_n 3, 1) := by decide +kernel
theorem dX4_test_79 : decode cX4_test 79 = .ok (.invokevirtual 67, 3) := by decide +kernel
theorem dX4_test_82 : decode cX4_test 82 = .ok (.ireturn, 1) := by decide +kernel
theorem dX4_join_0 : decode cX4_join 0 = .ok (.aload_n 0, 1) := by decide +kernel
theorem dX4_join_1 : decode cX4_join 1 = .ok (.getfield 46, 3) := by decide +kernel
theorem dX4_join_4 : decode cX4_join 4 = .ok (.iconst 1, 1) := by decide +kernel
theorem dX4_join_5 : decode cX4_join 5 = .ok (.if_icmp .eq 17, 3) := by decide +kernel
theorem dX4_join_8 : decode cX4_join 8 = .ok (.iload_n 1, 1) := by decide +kernel
theorem dX4_join_9 : decode cX4_join 9 = .ok (.invokestatic 64, 3) := by decide +kernel
theorem dX4_join_12 : decode cX4_join 12 = .ok (.ifCond .eq 10, 3) := by decide +kernel
theorem dX4_join_15 : decode cX4_join 15 = .ok (.iload_n 2, 1) := by decide +kernel
theorem dX4_join_16 : decode cX4_join 16 = .ok (.invokestatic 64, 3) := by decide +kernel
theorem dX4_join_19 : decode cX4_join 19 = .ok (.ifCond .ne 5, 3) := by decide +kernel
theorem dX4_join_22 : decode cX4_join 22 = .ok (.iconst 0, 1) := by decide +kernel
theorem dX4_join_23 : decode cX4_join 23 = .ok (.ireturn, 1) := by decide +kernel
theorem dX4_join_24 : decode cX4_join 24 = .ok (.aload_n 0, 1) := by decide +kernel
theorem dX4_join_25 : decode cX4_join 25 = .ok (.getfield 25, 3) := by decide +kernel
theorem dX4_join_28 : decode cX4_join 28 = .ok (.iconst 0, 1) := by decide +kernel
theorem dX4_join_29 : decode cX4_join 29 = .ok (.iload_n 1, 1) := by decide +kernel
theorem dX4_join_30 : decode cX4_join 30 = .ok (.iastore, 1) := by decide +kernel
theorem dX4_join_31 : decode cX4_join 31 = .ok (.aload_n 0, 1) := by decide +kernel
theorem dX4_join_32 : decode cX4_join 32 = .ok (.getfield 25, 3) := by decide +kernel
theorem dX4_join_35 : decode cX4_join 35 = .ok (.iconst 1, 1) := by decide +kernel
theorem dX4_join_36 : decode cX4_join 36 = .ok (.iload_n 2, 1) := by decide +kernel
theorem dX4_join_37 : decode cX4_join 37 = .ok (.iastore, 1) := by decide +kernel
theorem dX4_join_38 : decode cX4_join 38 = .ok (.iconst 1, 1) := by decide +kernel
theorem dX4_join_39 : decode cX4_join 39 = .ok (.ireturn, 1) := by decide +kernel
theorem dX4_ask_0 : decode cX4_ask 0 = .ok (.aload_n 0, 1) := by decide +kernel
theorem dX4_ask_1 : decode cX4_ask 1 = .ok (.getfield 46, 3) := by decide +kernel
theorem dX4_ask_4 : decode cX4_ask 4 = .ok (.iconst 1, 1) := by decide +kernel
theorem dX4_ask_5 : decode cX4_ask 5 = .ok (.if_icmp .ne 5, 3) := by decide +kernel
theorem dX4_ask_8 : decode cX4_ask 8 = .ok (.iconst 0, 1) := by decide +kernel
theorem dX4_ask_9 : decode cX4_ask 9 = .ok (.ireturn, 1) := by decide +kernel
theorem dX4_ask_10 : decode cX4_ask 10 = .ok (.aload_n 0, 1) := by decide +kernel
theorem dX4_ask_11 : decode cX4_ask 11 = .ok (.getfield 21, 3) := by decide +kernel
theorem dX4_ask_14 : decode cX4_ask 14 = .ok (.iconst 0, 1) := by decide +kernel
theorem dX4_ask_15 : decode cX4_ask 15 = .ok (.aaload, 1) := by decide +kernel
theorem dX4_ask_16 : decode cX4_ask 16 = .ok (.invokevirtual 71, 3) := by decide +kernel
theorem dX4_ask_19 : decode cX4_ask 19 = .ok (.aload_n 0, 1) := by decide +kernel
theorem dX4_ask_20 : decode cX4_ask 20 = .ok (.getfield 21, 3) := by decide +kernel
theorem dX4_ask_23 : decode cX4_ask 23 = .ok (.iconst 1, 1) := by decide +kernel
theorem dX4_ask_24 : decode cX4_ask 24 = .ok (.aaload, 1) := by decide +kernel
theorem dX4_ask_25 : decode cX4_ask 25 = .ok (.invokevirtual 71, 3) := by decide +kernel
theorem dX4_ask_28 : decode cX4_ask 28 = .ok (.aload_n 0, 1) := by decide +kernel
theorem dX4_ask_29 : decode cX4_ask 29 = .ok (.getfield 32, 3) := by decide +kernel
theorem dX4_ask_32 : decode cX4_ask 32 = .ok (.invokevirtual 74, 3) := by decide +kernel
theorem dX4_ask_35 : decode cX4_ask 35 = .ok (.aload_n 0, 1) := by decide +kernel
theorem dX4_ask_36 : decode cX4_ask 36 = .ok (.getfield 39, 3) := by decide +kernel
theorem dX4_ask_39 : decode cX4_ask 39 = .ok (.invokevirtual 77, 3) := by decide +kernel
theorem dX4_ask_42 : decode cX4_ask 42 = .ok (.aload_n 0, 1) := by decide +kernel
theorem dX4_ask_43 : decode cX4_ask 43 = .ok (.iconst (-1), 1) := by decide +kernel
theorem dX4_ask_44 : decode cX4_ask 44 = .ok (.putfield 78, 3) := by decide +kernel
theorem dX4_ask_47 : decode cX4_ask 47 = .ok (.aload_n 0, 1) := by decide +kernel
theorem dX4_ask_48 : decode cX4_ask 48 = .ok (.iconst 0, 1) := by decide +kernel
theorem dX4_ask_49 : decode cX4_ask 49 = .ok (.putfield 81, 3) := by decide +kernel
theorem dX4_ask_52 : decode cX4_ask 52 = .ok (.aload_n 0, 1) := by decide +kernel
theorem dX4_ask_53 : decode cX4_ask 53 = .ok (.iconst 0, 1) := by decide +kernel
theorem dX4_ask_54 : decode cX4_ask 54 = .ok (.putfield 84, 3) := by decide +kernel
theorem dX4_ask_57 : decode cX4_ask 57 = .ok (.aload_n 0, 1) := by decide +kernel
theorem dX4_ask_58 : decode cX4_ask 58 = .ok (.iconst 0, 1) := by decide +kernel
theorem dX4_ask_59 : decode cX4_ask 59 = .ok (.putfield 87, 3) := by decide +kernel
theorem dX4_ask_62 : decode cX4_ask 62 = .ok (.aload_n 0, 1) := by decide +kernel
theorem dX4_ask_63 : decode cX4_ask 63 = .ok (.iconst 0, 1) := by decide +kernel
theorem dX4_ask_64 : decode cX4_ask 64 = .ok (.putfield 90, 3) := by decide +kernel
theorem dX4_ask_67 : decode cX4_ask 67 = .ok (.aload_n 0, 1) := by decide +kernel
theorem dX4_ask_68 : decode cX4_ask 68 = .ok (.iconst 0, 1) := by decide +kernel
theorem dX4_ask_69 : decode cX4_ask 69 = .ok (.putfield 93, 3) := by decide +kernel
theorem dX4_ask_72 : decode cX4_ask 72 = .ok (.aload_n 0, 1) := by decide +kernel
theorem dX4_ask_73 : decode cX4_ask 73 = .ok (.iconst 1, 1) := by decide +kernel
theorem dX4_ask_74 : decode cX4_ask 74 = .ok (.putfield 46, 3) := by decide +kernel
theorem dX4_ask_77 : decode cX4_ask 77 = .ok (.aload_n 0, 1) := by decide +kernel
theorem dX4_ask_78 : decode cX4_ask 78 = .ok (.invokevirtual 96, 3) := by decide +kernel
theorem dX4_ask_81 : decode cX4_ask 81 = .ok (.iconst 1, 1) := by decide +kernel
theorem dX4_ask_82 : decode cX4_ask 82 = .ok (.ireturn, 1) := by decide +kernel
theorem dX4_stop_0 : decode cX4_stop 0 = .ok (.aload_n 0, 1) := by decide +kernel
theorem dX4_stop_1 : decode cX4_stop 1 = .ok (.getfield 46, 3) := by decide +kernel
theorem dX4_stop_4 : decode cX4_stop 4 = .ok (.iconst 1, 1) := by decide +kernel
theorem dX4_stop_5 : decode cX4_stop 5 = .ok (.if_icmp .eq 5, 3) := by decide +kernel
theorem dX4_stop_8 : decode cX4_stop 8 = .ok (.iconst 0, 1) := by decide +kernel
theorem dX4_stop_9 : decode cX4_stop 9 = .ok (.ireturn, 1) := by decide +kernel
theorem dX4_stop_10 : decode cX4_stop 10 = .ok (.aload_n 0, 1) := by decide +kernel
theorem dX4_stop_11 : decode cX4_stop 11 = .ok (.iconst 0, 1) := by decide +kernel
theorem dX4_stop_12 : decode cX4_stop 12 = .ok (.putfield 46, 3) := by decide +kernel
theorem dX4_stop_15 : decode cX4_stop 15 = .ok (.iconst 1, 1) := by decide +kernel
theorem dX4_stop_16 : decode cX4_stop 16 = .ok (.ireturn, 1) := by decide +kernel
theorem dX4_go_0 : decode cX4_go 0 = .ok (.aload_n 0, 1) := by decide +kernel
theorem dX4_go_1 : decode cX4_go 1 = .ok (.getfield 46, 3) := by decide +kernel
theorem dX4_go_4 : decode cX4_go 4 = .ok (.iconst 1, 1) := by decide +kernel
theorem dX4_go_5 : decode cX4_go 5 = .ok (.if_icmp .ne 14, 3) := by decide +kernel
theorem dX4_go_8 : decode cX4_go 8 = .ok (.iload_n 1, 1) := by decide +kernel
theorem dX4_go_9 : decode cX4_go 9 = .ok (.ifCond .lt 10, 3) := by decide +kernel
theorem dX4_go_12 : decode cX4_go 12 = .ok (.iload_n 1, 1) := by decide +kernel
theorem dX4_go_13 : decode cX4_go 13 = .ok (.sipush 200, 3) := by decide +kernel
theorem dX4_go_16 : decode cX4_go 16 = .ok (.if_icmp .le 5, 3) := by decide +kernel
theorem dX4_go_19 : decode cX4_go 19 = .ok (.iconst (-1), 1) := by decide +kernel
theorem dX4_go_20 : decode cX4_go 20 = .ok (.ireturn, 1) := by decide +kernel
theorem dX4_go_21 : decode cX4_go 21 = .ok (.iconst 0, 1) := by decide +kernel
theorem dX4_go_22 : decode cX4_go 22 = .ok (.istore_n 2, 1) := by decide +kernel
theorem dX4_go_23 : decode cX4_go 23 = .ok (.iload_n 2, 1) := by decide +kernel
theorem dX4_go_24 : decode cX4_go 24 = .ok (.iload_n 1, 1) := by decide +kernel
theorem dX4_go_25 : decode cX4_go 25 = .ok (.if_icmp .ge 21, 3) := by decide +kernel
theorem dX4_go_28 : decode cX4_go 28 = .ok (.aload_n 0, 1) := by decide +kernel
theorem dX4_go_29 : decode cX4_go 29 = .ok (.getfield 46, 3) := by decide +kernel
theorem dX4_go_32 : decode cX4_go 32 = .ok (.iconst 1, 1) := by decide +kernel
theorem dX4_go_33 : decode cX4_go 33 = .ok (.if_icmp .ne 13, 3) := by decide +kernel
theorem dX4_go_36 : decode cX4_go 36 = .ok (.aload_n 0, 1) := by decide +kernel
theorem dX4_go_37 : decode cX4_go 37 = .ok (.invokevirtual 99, 3) := by decide +kernel
theorem dX4_go_40 : decode cX4_go 40 = .ok (.iinc 2 1, 3) := by decide +kernel
theorem dX4_go_43 : decode cX4_go 43 = .ok (.goto (-20), 3) := by decide +kernel
theorem dX4_go_46 : decode cX4_go 46 = .ok (.iload_n 2, 1) := by decide +kernel
theorem dX4_go_47 : decode cX4_go 47 = .ok (.ireturn, 1) := by decide +kernel
theorem dX4_memory_0 : decode cX4_memory 0 = .ok (.iload_n 1, 1) := by decide +kernel
theorem dX4_memory_1 : decode cX4_memory 1 = .ok (.ifCond .lt 9, 3) := by decide +kernel
theorem dX4_memory_4 : decode cX4_memory 4 = .ok (.iload_n 1, 1) := by decide +kernel
theorem dX4_memory_5 : decode cX4_memory 5 = .ok (.bipush 100, 2) := by decide +kernel
theorem dX4_memory_7 : decode cX4_memory 7 = .ok (.if_icmp .le 5, 3) := by decide +kernel
theorem dX4_memory_10 : decode cX4_memory 10 = .ok (.iconst 0, 1) := by decide +kernel
theorem dX4_memory_11 : decode cX4_memory 11 = .ok (.ireturn, 1) := by decide +kernel
theorem dX4_memory_12 : decode cX4_memory 12 = .ok (.aload_n 0, 1) := by decide +kernel
theorem dX4_memory_13 : decode cX4_memory 13 = .ok (.getfield 32, 3) := by decide +kernel
theorem dX4_memory_16 : decode cX4_memory 16 = .ok (.iload_n 1, 1) := by decide +kernel
theorem dX4_memory_17 : decode cX4_memory 17 = .ok (.putfield 102, 3) := by decide +kernel
theorem dX4_memory_20 : decode cX4_memory 20 = .ok (.aload_n 0, 1) := by decide +kernel
theorem dX4_memory_21 : decode cX4_memory 21 = .ok (.invokevirtual 105, 3) := by decide +kernel
theorem dX4_memory_24 : decode cX4_memory 24 = .ok (.iconst 1, 1) := by decide +kernel
theorem dX4_memory_25 : decode cX4_memory 25 = .ok (.ireturn, 1) := by decide +kernel
theorem dX4_force_0 : decode cX4_force 0 = .ok (.iload_n 1, 1) := by decide +kernel
theorem dX4_force_1 : decode cX4_force 1 = .ok (.iconst (-1), 1) := by decide +kernel
theorem dX4_force_2 : decode cX4_force 2 = .ok (.if_icmp .eq 12, 3) := by decide +kernel
theorem dX4_force_5 : decode cX4_force 5 = .ok (.iload_n 1, 1) := by decide +kernel
theorem dX4_force_6 : decode cX4_force 6 = .ok (.invokestatic 53, 3) := by decide +kernel
theorem dX4_force_9 : decode cX4_force 9 = .ok (.ifCond .ne 5, 3) := by decide +kernel
theorem dX4_force_12 : decode cX4_force 12 = .ok (.iconst 0, 1) := by decide +kernel
theorem dX4_force_13 : decode cX4_force 13 = .ok (.ireturn, 1) := by decide +kernel
theorem dX4_force_14 : decode cX4_force 14 = .ok (.aload_n 0, 1) := by decide +kernel
theorem dX4_force_15 : decode cX4_force 15 = .ok (.iload_n 1, 1) := by decide +kernel
theorem dX4_force_16 : decode cX4_force 16 = .ok (.putfield 50, 3) := by decide +kernel
theorem dX4_force_19 : decode cX4_force 19 = .ok (.iconst 1, 1) := by decide +kernel
theorem dX4_force_20 : decode cX4_force 20 = .ok (.ireturn, 1) := by decide +kernel
theorem dX4_order_0 : decode cX4_order 0 = .ok (.aload_n 0, 1) := by decide +kernel
theorem dX4_order_1 : decode cX4_order 1 = .ok (.getfield 46, 3) := by decide +kernel
theorem dX4_order_4 : decode cX4_order 4 = .ok (.iconst 1, 1) := by decide +kernel
theorem dX4_order_5 : decode cX4_order 5 = .ok (.if_icmp .ne 10, 3) := by decide +kernel
theorem dX4_order_8 : decode cX4_order 8 = .ok (.iload_n 1, 1) := by decide +kernel
theorem dX4_order_9 : decode cX4_order 9 = .ok (.invokestatic 53, 3) := by decide +kernel
theorem dX4_order_12 : decode cX4_order 12 = .ok (.ifCond .ne 5, 3) := by decide +kernel
theorem dX4_order_15 : decode cX4_order 15 = .ok (.iconst 0, 1) := by decide +kernel
theorem dX4_order_16 : decode cX4_order 16 = .ok (.ireturn, 1) := by decide +kernel
theorem dX4_order_17 : decode cX4_order 17 = .ok (.aload_n 0, 1) := by decide +kernel
theorem dX4_order_18 : decode cX4_order 18 = .ok (.getfield 21, 3) := by decide +kernel
theorem dX4_order_21 : decode cX4_order 21 = .ok (.iload_n 1, 1) := by decide +kernel
theorem dX4_order_22 : decode cX4_order 22 = .ok (.aaload, 1) := by decide +kernel
theorem dX4_order_23 : decode cX4_order 23 = .ok (.astore_n 3, 1) := by decide +kernel
theorem dX4_order_24 : decode cX4_order 24 = .ok (.iload_n 2, 1) := by decide +kernel
theorem dX4_order_25 : decode cX4_order 25 = .ok (.iconst (-1), 1) := by decide +kernel
theorem dX4_order_26 : decode cX4_order 26 = .ok (.if_icmp .ne 10, 3) := by decide +kernel
theorem dX4_order_29 : decode cX4_order 29 = .ok (.aload_n 3, 1) := by decide +kernel
theorem dX4_order_30 : decode cX4_order 30 = .ok (.iconst 0, 1) := by decide +kernel
theorem dX4_order_31 : decode cX4_order 31 = .ok (.putfield 108, 3) := by decide +kernel
theorem dX4_order_34 : decode cX4_order 34 = .ok (.iconst 1, 1) := by decide +kernel
theorem dX4_order_35 : decode cX4_order 35 = .ok (.ireturn, 1) := by decide +kernel
theorem dX4_order_36 : decode cX4_order 36 = .ok (.aload_n 3, 1) := by decide +kernel
theorem dX4_order_37 : decode cX4_order 37 = .ok (.iload_n 2, 1) := by decide +kernel
theorem dX4_order_38 : decode cX4_order 38 = .ok (.invokevirtual 112, 3) := by decide +kernel
theorem dX4_order_41 : decode cX4_order 41 = .ok (.ireturn, 1) := by decide +kernel
theorem dX4_ordered_0 : decode cX4_ordered 0 = .ok (.iload_n 1, 1) := by decide +kernel
theorem dX4_ordered_1 : decode cX4_ordered 1 = .ok (.invokestatic 53, 3) := by decide +kernel
theorem dX4_ordered_4 : decode cX4_ordered 4 = .ok (.ifCond .eq 20, 3) := by decide +kernel
theorem dX4_ordered_7 : decode cX4_ordered 7 = .ok (.iload_n 2, 1) := by decide +kernel
theorem dX4_ordered_8 : decode cX4_ordered 8 = .ok (.ifCond .lt 16, 3) := by decide +kernel
theorem dX4_ordered_11 : decode cX4_ordered 11 = .ok (.iload_n 2, 1) := by decide +kernel
theorem dX4_ordered_12 : decode cX4_ordered 12 = .ok (.aload_n 0, 1) := by decide +kernel
theorem dX4_ordered_13 : decode cX4_ordered 13 = .ok (.getfield 21, 3) := by decide +kernel
theorem dX4_ordered_16 : decode cX4_ordered 16 = .ok (.iload_n 1, 1) := by decide +kernel
theorem dX4_ordered_17 : decode cX4_ordered 17 = .ok (.aaload, 1) := by decide +kernel
theorem dX4_ordered_18 : decode cX4_ordered 18 = .ok (.getfield 115, 3) := by decide +kernel
theorem dX4_ordered_21 : decode cX4_ordered 21 = .ok (.if_icmp .lt 5, 3) := by decide +kernel
theorem dX4_ordered_24 : decode cX4_ordered 24 = .ok (.iconst (-1), 1) := by decide +kernel
theorem dX4_ordered_25 : decode cX4_ordered 25 = .ok (.ireturn, 1) := by decide +kernel
theorem dX4_ordered_26 : decode cX4_ordered 26 = .ok (.aload_n 0, 1) := by decide +kernel
theorem dX4_ordered_27 : decode cX4_ordered 27 = .ok (.getfield 21, 3) := by decide +kernel
theorem dX4_ordered_30 : decode cX4_ordered 30 = .ok (.iload_n 1, 1) := by decide +kernel
theorem dX4_ordered_31 : decode cX4_ordered 31 = .ok (.aaload, 1) := by decide +kernel
theorem dX4_ordered_32 : decode cX4_ordered 32 = .ok (.getfield 118, 3) := by decide +kernel
theorem dX4_ordered_35 : decode cX4_ordered 35 = .ok (.iload_n 2, 1) := by decide +kernel
theorem dX4_ordered_36 : decode cX4_ordered 36 = .ok (.iaload, 1) := by decide +kernel
theorem dX4_ordered_37 : decode cX4_ordered 37 = .ok (.ireturn, 1) := by decide +kernel
theorem dX4_told_0 : decode cX4_told 0 = .ok (.iload_n 1, 1) := by decide +kernel
theorem dX4_told_1 : decode cX4_told 1 = .ok (.invokestatic 53, 3) := by decide +kernel
theorem dX4_told_4 : decode cX4_told 4 = .ok (.ifCond .eq 20, 3) := by decide +kernel
theorem dX4_told_7 : decode cX4_told 7 = .ok (.iload_n 2, 1) := by decide +kernel
theorem dX4_told_8 : decode cX4_told 8 = .ok (.ifCond .lt 16, 3) := by decide +kernel
theorem dX4_told_11 : decode cX4_told 11 = .ok (.iload_n 2, 1) := by decide +kernel
theorem dX4_told_12 : decode cX4_told 12 = .ok (.aload_n 0, 1) := by decide +kernel
theorem dX4_told_13 : decode cX4_told 13 = .ok (.getfield 12, 3) := by decide +kernel
theorem dX4_told_16 : decode cX4_told 16 = .ok (.iload_n 1, 1) := by decide +kernel
theorem dX4_told_17 : decode cX4_told 17 = .ok (.aaload, 1) := by decide +kernel
theorem dX4_told_18 : decode cX4_told 18 = .ok (.getfield 121, 3) := by decide +kernel
theorem dX4_told_21 : decode cX4_told 21 = .ok (.if_icmp .lt 5, 3) := by decide +kernel
theorem dX4_told_24 : decode cX4_told 24 = .ok (.iconst (-1), 1) := by decide +kernel
theorem dX4_told_25 : decode cX4_told 25 = .ok (.ireturn, 1) := by decide +kernel
theorem dX4_told_26 : decode cX4_told 26 = .ok (.iload_n 3, 1) := by decide +kernel
theorem dX4_told_27 : decode cX4_told 27 = .ok (.tableswitch 61 0 2 #[25, 37, 49], 25) := by decide +kernel
theorem dX4_told_52 : decode cX4_told 52 = .ok (.aload_n 0, 1) := by decide +kernel
theorem dX4_told_53 : decode cX4_told 53 = .ok (.getfield 21, 3) := by decide +kernel
theorem dX4_told_56 : decode cX4_told 56 = .ok (.iload_n 1, 1) := by decide +kernel
theorem dX4_told_57 : decode cX4_told 57 = .ok (.aaload, 1) := by decide +kernel
theorem dX4_told_58 : decode cX4_told 58 = .ok (.getfield 122, 3) := by decide +kernel
theorem dX4_told_61 : decode cX4_told 61 = .ok (.iload_n 2, 1) := by decide +kernel
theorem dX4_told_62 : decode cX4_told 62 = .ok (.iaload, 1) := by decide +kernel
theorem dX4_told_63 : decode cX4_told 63 = .ok (.ireturn, 1) := by decide +kernel
theorem dX4_told_64 : decode cX4_told 64 = .ok (.aload_n 0, 1) := by decide +kernel
theorem dX4_told_65 : decode cX4_told 65 = .ok (.getfield 21, 3) := by decide +kernel
theorem dX4_told_68 : decode cX4_told 68 = .ok (.iload_n 1, 1) := by decide +kernel
theorem dX4_told_69 : decode cX4_told 69 = .ok (.aaload, 1) := by decide +kernel
theorem dX4_told_70 : decode cX4_told 70 = .ok (.getfield 125, 3) := by decide +kernel
theorem dX4_told_73 : decode cX4_told 73 = .ok (.iload_n 2, 1) := by decide +kernel
theorem dX4_told_74 : decode cX4_told 74 = .ok (.iaload, 1) := by decide +kernel
theorem dX4_told_75 : decode cX4_told 75 = .ok (.ireturn, 1) := by decide +kernel
theorem dX4_told_76 : decode cX4_told 76 = .ok (.aload_n 0, 1) := by decide +kernel
theorem dX4_told_77 : decode cX4_told 77 = .ok (.getfield 12, 3) := by decide +kernel
theorem dX4_told_80 : decode cX4_told 80 = .ok (.iload_n 1, 1) := by decide +kernel
theorem dX4_told_81 : decode cX4_told 81 = .ok (.aaload, 1) := by decide +kernel
theorem dX4_told_82 : decode cX4_told 82 = .ok (.getfield 128, 3) := by decide +kernel
theorem dX4_told_85 : decode cX4_told 85 = .ok (.iload_n 2, 1) := by decide +kernel
theorem dX4_told_86 : decode cX4_told 86 = .ok (.iaload, 1) := by decide +kernel
theorem dX4_told_87 : decode cX4_told 87 = .ok (.ireturn, 1) := by decide +kernel
theorem dX4_told_88 : decode cX4_told 88 = .ok (.iconst (-1), 1) := by decide +kernel
theorem dX4_told_89 : decode cX4_told 89 = .ok (.ireturn, 1) := by decide +kernel
theorem dX4_given_0 : decode cX4_given 0 = .ok (.iload_n 2, 1) := by decide +kernel
theorem dX4_given_1 : decode cX4_given 1 = .ok (.invokestatic 53, 3) := by decide +kernel
theorem dX4_given_4 : decode cX4_given 4 = .ok (.ifCond .eq 18, 3) := by decide +kernel
theorem dX4_given_7 : decode cX4_given 7 = .ok (.iload_n 1, 1) := by decide +kernel
theorem dX4_given_8 : decode cX4_given 8 = .ok (.ifCond .lt 14, 3) := by decide +kernel
theorem dX4_given_11 : decode cX4_given 11 = .ok (.iload_n 1, 1) := by decide +kernel
theorem dX4_given_12 : decode cX4_given 12 = .ok (.aload_n 0, 1) := by decide +kernel
theorem dX4_given_13 : decode cX4_given 13 = .ok (.getfield 39, 3) := by decide +kernel
theorem dX4_given_16 : decode cX4_given 16 = .ok (.getfield 131, 3) := by decide +kernel
theorem dX4_given_19 : decode cX4_given 19 = .ok (.if_icmp .lt 5, 3) := by decide +kernel
theorem dX4_given_22 : decode cX4_given 22 = .ok (.iconst (-1), 1) := by decide +kernel
theorem dX4_given_23 : decode cX4_given 23 = .ok (.ireturn, 1) := by decide +kernel
theorem dX4_given_24 : decode cX4_given 24 = .ok (.aload_n 0, 1) := by decide +kernel
theorem dX4_given_25 : decode cX4_given 25 = .ok (.getfield 39, 3) := by decide +kernel
theorem dX4_given_28 : decode cX4_given 28 = .ok (.iload_n 1, 1) := by decide +kernel
theorem dX4_given_29 : decode cX4_given 29 = .ok (.iload_n 2, 1) := by decide +kernel
theorem dX4_given_30 : decode cX4_given 30 = .ok (.invokevirtual 134, 3) := by decide +kernel
theorem dX4_given_33 : decode cX4_given 33 = .ok (.ireturn, 1) := by decide +kernel
theorem dX4_where_0 : decode cX4_where 0 = .ok (.iload_n 1, 1) := by decide +kernel
theorem dX4_where_1 : decode cX4_where 1 = .ok (.invokestatic 53, 3) := by decide +kernel
theorem dX4_where_4 : decode cX4_where 4 = .ok (.ifCond .eq 20, 3) := by decide +kernel
theorem dX4_where_7 : decode cX4_where 7 = .ok (.iload_n 2, 1) := by decide +kernel
theorem dX4_where_8 : decode cX4_where 8 = .ok (.ifCond .lt 16, 3) := by decide +kernel
theorem dX4_where_11 : decode cX4_where 11 = .ok (.iload_n 2, 1) := by decide +kernel
theorem dX4_where_12 : decode cX4_where 12 = .ok (.aload_n 0, 1) := by decide +kernel
theorem dX4_where_13 : decode cX4_where 13 = .ok (.getfield 12, 3) := by decide +kernel
theorem dX4_where_16 : decode cX4_where 16 = .ok (.iload_n 1, 1) := by decide +kernel
theorem dX4_where_17 : decode cX4_where 17 = .ok (.aaload, 1) := by decide +kernel
theorem dX4_where_18 : decode cX4_where 18 = .ok (.getfield 138, 3) := by decide +kernel
theorem dX4_where_21 : decode cX4_where 21 = .ok (.if_icmp .lt 5, 3) := by decide +kernel
theorem dX4_where_24 : decode cX4_where 24 = .ok (.iconst (-1), 1) := by decide +kernel
theorem dX4_where_25 : decode cX4_where 25 = .ok (.ireturn, 1) := by decide +kernel
theorem dX4_where_26 : decode cX4_where 26 = .ok (.aload_n 0, 1) := by decide +kernel
theorem dX4_where_27 : decode cX4_where 27 = .ok (.getfield 21, 3) := by decide +kernel
theorem dX4_where_30 : decode cX4_where 30 = .ok (.iload_n 1, 1) := by decide +kernel
theorem dX4_where_31 : decode cX4_where 31 = .ok (.aaload, 1) := by decide +kernel
theorem dX4_where_32 : decode cX4_where 32 = .ok (.getfield 141, 3) := by decide +kernel
theorem dX4_where_35 : decode cX4_where 35 = .ok (.iload_n 2, 1) := by decide +kernel
theorem dX4_where_36 : decode cX4_where 36 = .ok (.iaload, 1) := by decide +kernel
theorem dX4_where_37 : decode cX4_where 37 = .ok (.ireturn, 1) := by decide +kernel
theorem dX4_sum_0 : decode cX4_sum 0 = .ok (.iload_n 1, 1) := by decide +kernel
theorem dX4_sum_1 : decode cX4_sum 1 = .ok (.invokestatic 53, 3) := by decide +kernel
theorem dX4_sum_4 : decode cX4_sum 4 = .ok (.ifCond .eq 10, 3) := by decide +kernel
theorem dX4_sum_7 : decode cX4_sum 7 = .ok (.iload_n 2, 1) := by decide +kernel
theorem dX4_sum_8 : decode cX4_sum 8 = .ok (.invokestatic 64, 3) := by decide +kernel
theorem dX4_sum_11 : decode cX4_sum 11 = .ok (.ifCond .ne 5, 3) := by decide +kernel
theorem dX4_sum_14 : decode cX4_sum 14 = .ok (.iconst (-1), 1) := by decide +kernel
theorem dX4_sum_15 : decode cX4_sum 15 = .ok (.ireturn, 1) := by decide +kernel
theorem dX4_sum_16 : decode cX4_sum 16 = .ok (.iconst 0, 1) := by decide +kernel
theorem dX4_sum_17 : decode cX4_sum 17 = .ok (.istore_n 3, 1) := by decide +kernel
theorem dX4_sum_18 : decode cX4_sum 18 = .ok (.iconst 0, 1) := by decide +kernel
theorem dX4_sum_19 : decode cX4_sum 19 = .ok (.istore 4, 2) := by decide +kernel
theorem dX4_sum_21 : decode cX4_sum 21 = .ok (.iload 4, 2) := by decide +kernel
theorem dX4_sum_23 : decode cX4_sum 23 = .ok (.aload_n 0, 1) := by decide +kernel
theorem dX4_sum_24 : decode cX4_sum 24 = .ok (.getfield 39, 3) := by decide +kernel
theorem dX4_sum_27 : decode cX4_sum 27 = .ok (.getfield 131, 3) := by decide +kernel
theorem dX4_sum_30 : decode cX4_sum 30 = .ok (.if_icmp .ge 32, 3) := by decide +kernel
theorem dX4_sum_33 : decode cX4_sum 33 = .ok (.iload_n 3, 1) := by decide +kernel
theorem dX4_sum_34 : decode cX4_sum 34 = .ok (.aload_n 0, 1) := by decide +kernel
theorem dX4_sum_35 : decode cX4_sum 35 = .ok (.getfield 12, 3) := by decide +kernel
theorem dX4_sum_38 : decode cX4_sum 38 = .ok (.iload_n 1, 1) := by decide +kernel
theorem dX4_sum_39 : decode cX4_sum 39 = .ok (.aaload, 1) := by decide +kernel
theorem dX4_sum_40 : decode cX4_sum 40 = .ok (.aload_n 0, 1) := by decide +kernel
theorem dX4_sum_41 : decode cX4_sum 41 = .ok (.getfield 39, 3) := by decide +kernel
theorem dX4_sum_44 : decode cX4_sum 44 = .ok (.iload 4, 2) := by decide +kernel
theorem dX4_sum_46 : decode cX4_sum 46 = .ok (.iload_n 1, 1) := by decide +kernel
theorem dX4_sum_47 : decode cX4_sum 47 = .ok (.invokevirtual 134, 3) := by decide +kernel
theorem dX4_sum_50 : decode cX4_sum 50 = .ok (.iload_n 2, 1) := by decide +kernel
theorem dX4_sum_51 : decode cX4_sum 51 = .ok (.invokevirtual 144, 3) := by decide +kernel
theorem dX4_sum_54 : decode cX4_sum 54 = .ok (.iadd, 1) := by decide +kernel
theorem dX4_sum_55 : decode cX4_sum 55 = .ok (.istore_n 3, 1) := by decide +kernel
theorem dX4_sum_56 : decode cX4_sum 56 = .ok (.iinc 4 1, 3) := by decide +kernel
theorem dX4_sum_59 : decode cX4_sum 59 = .ok (.goto (-38), 3) := by decide +kernel
theorem dX4_sum_62 : decode cX4_sum 62 = .ok (.iload_n 3, 1) := by decide +kernel
theorem dX4_sum_63 : decode cX4_sum 63 = .ok (.ireturn, 1) := by decide +kernel
theorem dX4_plain_0 : decode cX4_plain 0 = .ok (.aload_n 0, 1) := by decide +kernel
theorem dX4_plain_1 : decode cX4_plain 1 = .ok (.getfield 43, 3) := by decide +kernel
theorem dX4_plain_4 : decode cX4_plain 4 = .ok (.iconst 0, 1) := by decide +kernel
theorem dX4_plain_5 : decode cX4_plain 5 = .ok (.invokestatic 147, 3) := by decide +kernel
theorem dX4_plain_8 : decode cX4_plain 8 = .ok (.iconst 0, 1) := by decide +kernel
theorem dX4_plain_9 : decode cX4_plain 9 = .ok (.istore_n 1, 1) := by decide +kernel
theorem dX4_plain_10 : decode cX4_plain 10 = .ok (.iload_n 1, 1) := by decide +kernel
theorem dX4_plain_11 : decode cX4_plain 11 = .ok (.aload_n 0, 1) := by decide +kernel
theorem dX4_plain_12 : decode cX4_plain 12 = .ok (.getfield 12, 3) := by decide +kernel
theorem dX4_plain_15 : decode cX4_plain 15 = .ok (.iconst 1, 1) := by decide +kernel
theorem dX4_plain_16 : decode cX4_plain 16 = .ok (.aaload, 1) := by decide +kernel
theorem dX4_plain_17 : decode cX4_plain 17 = .ok (.getfield 138, 3) := by decide +kernel
theorem dX4_plain_20 : decode cX4_plain 20 = .ok (.if_icmp .ge 37, 3) := by decide +kernel
theorem dX4_plain_23 : decode cX4_plain 23 = .ok (.aload_n 0, 1) := by decide +kernel
theorem dX4_plain_24 : decode cX4_plain 24 = .ok (.getfield 12, 3) := by decide +kernel
theorem dX4_plain_27 : decode cX4_plain 27 = .ok (.iconst 1, 1) := by decide +kernel
theorem dX4_plain_28 : decode cX4_plain 28 = .ok (.aaload, 1) := by decide +kernel
theorem dX4_plain_29 : decode cX4_plain 29 = .ok (.iload_n 1, 1) := by decide +kernel
theorem dX4_plain_30 : decode cX4_plain 30 = .ok (.invokevirtual 153, 3) := by decide +kernel
theorem dX4_plain_33 : decode cX4_plain 33 = .ok (.ifCond .eq 18, 3) := by decide +kernel
theorem dX4_plain_36 : decode cX4_plain 36 = .ok (.aload_n 0, 1) := by decide +kernel
theorem dX4_plain_37 : decode cX4_plain 37 = .ok (.getfield 43, 3) := by decide +kernel
theorem dX4_plain_40 : decode cX4_plain 40 = .ok (.aload_n 0, 1) := by decide +kernel
theorem dX4_plain_41 : decode cX4_plain 41 = .ok (.iconst 1, 1) := by decide +kernel
theorem dX4_plain_42 : decode cX4_plain 42 = .ok (.iload_n 1, 1) := by decide +kernel
theorem dX4_plain_43 : decode cX4_plain 43 = .ok (.invokevirtual 156, 3) := by decide +kernel
theorem dX4_plain_46 : decode cX4_plain 46 = .ok (.dup2, 1) := by decide +kernel
theorem dX4_plain_47 : decode cX4_plain 47 = .ok (.iaload, 1) := by decide +kernel
theorem dX4_plain_48 : decode cX4_plain 48 = .ok (.iconst 1, 1) := by decide +kernel
theorem dX4_plain_49 : decode cX4_plain 49 = .ok (.iadd, 1) := by decide +kernel
theorem dX4_plain_50 : decode cX4_plain 50 = .ok (.iastore, 1) := by decide +kernel
theorem dX4_plain_51 : decode cX4_plain 51 = .ok (.iinc 1 1, 3) := by decide +kernel
theorem dX4_plain_54 : decode cX4_plain 54 = .ok (.goto (-44), 3) := by decide +kernel
theorem dX4_plain_57 : decode cX4_plain 57 = .ok (.iconst 0, 1) := by decide +kernel
theorem dX4_plain_58 : decode cX4_plain 58 = .ok (.istore_n 1, 1) := by decide +kernel
theorem dX4_plain_59 : decode cX4_plain 59 = .ok (.iconst 0, 1) := by decide +kernel
theorem dX4_plain_60 : decode cX4_plain 60 = .ok (.istore_n 2, 1) := by decide +kernel
theorem dX4_plain_61 : decode cX4_plain 61 = .ok (.iload_n 2, 1) := by decide +kernel
theorem dX4_plain_62 : decode cX4_plain 62 = .ok (.aload_n 0, 1) := by decide +kernel
theorem dX4_plain_63 : decode cX4_plain 63 = .ok (.getfield 12, 3) := by decide +kernel
theorem dX4_plain_66 : decode cX4_plain 66 = .ok (.iconst 0, 1) := by decide +kernel
theorem dX4_plain_67 : decode cX4_plain 67 = .ok (.aaload, 1) := by decide +kernel
theorem dX4_plain_68 : decode cX4_plain 68 = .ok (.getfield 138, 3) := by decide +kernel
theorem dX4_plain_71 : decode cX4_plain 71 = .ok (.if_icmp .ge 36, 3) := by decide +kernel
theorem dX4_plain_74 : decode cX4_plain 74 = .ok (.aload_n 0, 1) := by decide +kernel
theorem dX4_plain_75 : decode cX4_plain 75 = .ok (.getfield 12, 3) := by decide +kernel
theorem dX4_plain_78 : decode cX4_plain 78 = .ok (.iconst 0, 1) := by decide +kernel
theorem dX4_plain_79 : decode cX4_plain 79 = .ok (.aaload, 1) := by decide +kernel
theorem dX4_plain_80 : decode cX4_plain 80 = .ok (.iload_n 2, 1) := by decide +kernel
theorem dX4_plain_81 : decode cX4_plain 81 = .ok (.invokevirtual 153, 3) := by decide +kernel
theorem dX4_plain_84 : decode cX4_plain 84 = .ok (.ifCond .eq 17, 3) := by decide +kernel
theorem dX4_plain_87 : decode cX4_plain 87 = .ok (.iload_n 1, 1) := by decide +kernel
theorem dX4_plain_88 : decode cX4_plain 88 = .ok (.aload_n 0, 1) := by decide +kernel
theorem dX4_plain_89 : decode cX4_plain 89 = .ok (.getfield 43, 3) := by decide +kernel
theorem dX4_plain_92 : decode cX4_plain 92 = .ok (.aload_n 0, 1) := by decide +kernel
theorem dX4_plain_93 : decode cX4_plain 93 = .ok (.iconst 0, 1) := by decide +kernel
theorem dX4_plain_94 : decode cX4_plain 94 = .ok (.iload_n 2, 1) := by decide +kernel
theorem dX4_plain_95 : decode cX4_plain 95 = .ok (.invokevirtual 156, 3) := by decide +kernel
theorem dX4_plain_98 : decode cX4_plain 98 = .ok (.iaload, 1) := by decide +kernel
theorem dX4_plain_99 : decode cX4_plain 99 = .ok (.iadd, 1) := by decide +kernel
theorem dX4_plain_100 : decode cX4_plain 100 = .ok (.istore_n 1, 1) := by decide +kernel
theorem dX4_plain_101 : decode cX4_plain 101 = .ok (.iinc 2 1, 3) := by decide +kernel
theorem dX4_plain_104 : decode cX4_plain 104 = .ok (.goto (-43), 3) := by decide +kernel
theorem dX4_plain_107 : decode cX4_plain 107 = .ok (.iload_n 1, 1) := by decide +kernel
theorem dX4_plain_108 : decode cX4_plain 108 = .ok (.ireturn, 1) := by decide +kernel
theorem dX4_fixed_0 : decode cX4_fixed 0 = .ok (.iload_n 1, 1) := by decide +kernel
theorem dX4_fixed_1 : decode cX4_fixed 1 = .ok (.invokestatic 53, 3) := by decide +kernel
theorem dX4_fixed_4 : decode cX4_fixed 4 = .ok (.ifCond .eq 15, 3) := by decide +kernel
theorem dX4_fixed_7 : decode cX4_fixed 7 = .ok (.aload_n 0, 1) := by decide +kernel
theorem dX4_fixed_8 : decode cX4_fixed 8 = .ok (.getfield 21, 3) := by decide +kernel
theorem dX4_fixed_11 : decode cX4_fixed 11 = .ok (.iload_n 1, 1) := by decide +kernel
theorem dX4_fixed_12 : decode cX4_fixed 12 = .ok (.aaload, 1) := by decide +kernel
theorem dX4_fixed_13 : decode cX4_fixed 13 = .ok (.invokevirtual 159, 3) := by decide +kernel
theorem dX4_fixed_16 : decode cX4_fixed 16 = .ok (.goto 4, 3) := by decide +kernel
theorem dX4_fixed_19 : decode cX4_fixed 19 = .ok (.iconst (-1), 1) := by decide +kernel
theorem dX4_fixed_20 : decode cX4_fixed 20 = .ok (.ireturn, 1) := by decide +kernel
theorem dX4_cost_0 : decode cX4_cost 0 = .ok (.iload_n 1, 1) := by decide +kernel
theorem dX4_cost_1 : decode cX4_cost 1 = .ok (.invokestatic 53, 3) := by decide +kernel
theorem dX4_cost_4 : decode cX4_cost 4 = .ok (.ifCond .eq 15, 3) := by decide +kernel
theorem dX4_cost_7 : decode cX4_cost 7 = .ok (.aload_n 0, 1) := by decide +kernel
theorem dX4_cost_8 : decode cX4_cost 8 = .ok (.getfield 21, 3) := by decide +kernel
theorem dX4_cost_11 : decode cX4_cost 11 = .ok (.iload_n 1, 1) := by decide +kernel
theorem dX4_cost_12 : decode cX4_cost 12 = .ok (.aaload, 1) := by decide +kernel
theorem dX4_cost_13 : decode cX4_cost 13 = .ok (.getfield 163, 3) := by decide +kernel
theorem dX4_cost_16 : decode cX4_cost 16 = .ok (.goto 4, 3) := by decide +kernel
theorem dX4_cost_19 : decode cX4_cost 19 = .ok (.iconst (-1), 1) := by decide +kernel
theorem dX4_cost_20 : decode cX4_cost 20 = .ok (.ireturn, 1) := by decide +kernel
theorem dX4_count_0 : decode cX4_count 0 = .ok (.iload_n 1, 1) := by decide +kernel
theorem dX4_count_1 : decode cX4_count 1 = .ok (.tableswitch 147 0 9 #[55, 60, 85, 93, 101, 109, 119, 129, 134, 139], 55) := by decide +kernel
theorem dX4_count_56 : decode cX4_count 56 = .ok (.aload_n 0, 1) := by decide +kernel
theorem dX4_count_57 : decode cX4_count 57 = .ok (.getfield 46, 3) := by decide +kernel
theorem dX4_count_60 : decode cX4_count 60 = .ok (.ireturn, 1) := by decide +kernel
theorem dX4_count_61 : decode cX4_count 61 = .ok (.aload_n 0, 1) := by decide +kernel
theorem dX4_count_62 : decode cX4_count 62 = .ok (.getfield 21, 3) := by decide +kernel
theorem dX4_count_65 : decode cX4_count 65 = .ok (.iconst 0, 1) := by decide +kernel
theorem dX4_count_66 : decode cX4_count 66 = .ok (.aaload, 1) := by decide +kernel
theorem dX4_count_67 : decode cX4_count 67 = .ok (.invokevirtual 166, 3) := by decide +kernel
theorem dX4_count_70 : decode cX4_count 70 = .ok (.aload_n 0, 1) := by decide +kernel
theorem dX4_count_71 : decode cX4_count 71 = .ok (.getfield 21, 3) := by decide +kernel
theorem dX4_count_74 : decode cX4_count 74 = .ok (.iconst 1, 1) := by decide +kernel
theorem dX4_count_75 : decode cX4_count 75 = .ok (.aaload, 1) := by decide +kernel
theorem dX4_count_76 : decode cX4_count 76 = .ok (.invokevirtual 166, 3) := by decide +kernel
theorem dX4_count_79 : decode cX4_count 79 = .ok (.iadd, 1) := by decide +kernel
theorem dX4_count_80 : decode cX4_count 80 = .ok (.aload_n 0, 1) := by decide +kernel
theorem dX4_count_81 : decode cX4_count 81 = .ok (.getfield 87, 3) := by decide +kernel
theorem dX4_count_84 : decode cX4_count 84 = .ok (.iadd, 1) := by decide +kernel
theorem dX4_count_85 : decode cX4_count 85 = .ok (.ireturn, 1) := by decide +kernel
theorem dX4_count_86 : decode cX4_count 86 = .ok (.aload_n 0, 1) := by decide +kernel
theorem dX4_count_87 : decode cX4_count 87 = .ok (.getfield 39, 3) := by decide +kernel
theorem dX4_count_90 : decode cX4_count 90 = .ok (.getfield 131, 3) := by decide +kernel
theorem dX4_count_93 : decode cX4_count 93 = .ok (.ireturn, 1) := by decide +kernel
theorem dX4_count_94 : decode cX4_count 94 = .ok (.aload_n 0, 1) := by decide +kernel
theorem dX4_count_95 : decode cX4_count 95 = .ok (.getfield 32, 3) := by decide +kernel
theorem dX4_count_98 : decode cX4_count 98 = .ok (.invokevirtual 169, 3) := by decide +kernel
theorem dX4_count_101 : decode cX4_count 101 = .ok (.ireturn, 1) := by decide +kernel
theorem dX4_count_102 : decode cX4_count 102 = .ok (.aload_n 0, 1) := by decide +kernel
theorem dX4_count_103 : decode cX4_count 103 = .ok (.getfield 32, 3) := by decide +kernel
theorem dX4_count_106 : decode cX4_count 106 = .ok (.getfield 171, 3) := by decide +kernel
theorem dX4_count_109 : decode cX4_count 109 = .ok (.ireturn, 1) := by decide +kernel
theorem dX4_count_110 : decode cX4_count 110 = .ok (.aload_n 0, 1) := by decide +kernel
theorem dX4_count_111 : decode cX4_count 111 = .ok (.getfield 21, 3) := by decide +kernel
theorem dX4_count_114 : decode cX4_count 114 = .ok (.iconst 0, 1) := by decide +kernel
theorem dX4_count_115 : decode cX4_count 115 = .ok (.aaload, 1) := by decide +kernel
theorem dX4_count_116 : decode cX4_count 116 = .ok (.getfield 174, 3) := by decide +kernel
theorem dX4_count_119 : decode cX4_count 119 = .ok (.ireturn, 1) := by decide +kernel
theorem dX4_count_120 : decode cX4_count 120 = .ok (.aload_n 0, 1) := by decide +kernel
theorem dX4_count_121 : decode cX4_count 121 = .ok (.getfield 21, 3) := by decide +kernel
theorem dX4_count_124 : decode cX4_count 124 = .ok (.iconst 1, 1) := by decide +kernel
theorem dX4_count_125 : decode cX4_count 125 = .ok (.aaload, 1) := by decide +kernel
theorem dX4_count_126 : decode cX4_count 126 = .ok (.getfield 174, 3) := by decide +kernel
theorem dX4_count_129 : decode cX4_count 129 = .ok (.ireturn, 1) := by decide +kernel
theorem dX4_count_130 : decode cX4_count 130 = .ok (.aload_n 0, 1) := by decide +kernel
theorem dX4_count_131 : decode cX4_count 131 = .ok (.getfield 81, 3) := by decide +kernel
theorem dX4_count_134 : decode cX4_count 134 = .ok (.ireturn, 1) := by decide +kernel
theorem dX4_count_135 : decode cX4_count 135 = .ok (.aload_n 0, 1) := by decide +kernel
theorem dX4_count_136 : decode cX4_count 136 = .ok (.getfield 84, 3) := by decide +kernel
theorem dX4_count_139 : decode cX4_count 139 = .ok (.ireturn, 1) := by decide +kernel
theorem dX4_count_140 : decode cX4_count 140 = .ok (.aload_n 0, 1) := by decide +kernel
theorem dX4_count_141 : decode cX4_count 141 = .ok (.getfield 32, 3) := by decide +kernel
theorem dX4_count_144 : decode cX4_count 144 = .ok (.getfield 102, 3) := by decide +kernel
theorem dX4_count_147 : decode cX4_count 147 = .ok (.ireturn, 1) := by decide +kernel
theorem dX4_count_148 : decode cX4_count 148 = .ok (.iconst (-1), 1) := by decide +kernel
theorem dX4_count_149 : decode cX4_count 149 = .ok (.ireturn, 1) := by decide +kernel
theorem dX4_isTable_0 : decode cX4_isTable 0 = .ok (.iload_n 0, 1) := by decide +kernel
theorem dX4_isTable_1 : decode cX4_isTable 1 = .ok (.ifCond .lt 12, 3) := by decide +kernel
theorem dX4_isTable_4 : decode cX4_isTable 4 = .ok (.iload_n 0, 1) := by decide +kernel
theorem dX4_isTable_5 : decode cX4_isTable 5 = .ok (.iconst 2, 1) := by decide +kernel
theorem dX4_isTable_6 : decode cX4_isTable 6 = .ok (.if_icmp .ge 7, 3) := by decide +kernel
theorem dX4_isTable_9 : decode cX4_isTable 9 = .ok (.iconst 1, 1) := by decide +kernel
theorem dX4_isTable_10 : decode cX4_isTable 10 = .ok (.goto 4, 3) := by decide +kernel
theorem dX4_isTable_13 : decode cX4_isTable 13 = .ok (.iconst 0, 1) := by decide +kernel
theorem dX4_isTable_14 : decode cX4_isTable 14 = .ok (.ireturn, 1) := by decide +kernel
theorem dX4_isColumn_0 : decode cX4_isColumn 0 = .ok (.iload_n 0, 1) := by decide +kernel
theorem dX4_isColumn_1 : decode cX4_isColumn 1 = .ok (.ifCond .lt 12, 3) := by decide +kernel
theorem dX4_isColumn_4 : decode cX4_isColumn 4 = .ok (.iload_n 0, 1) := by decide +kernel
theorem dX4_isColumn_5 : decode cX4_isColumn 5 = .ok (.iconst 3, 1) := by decide +kernel
theorem dX4_isColumn_6 : decode cX4_isColumn 6 = .ok (.if_icmp .ge 7, 3) := by decide +kernel
theorem dX4_isColumn_9 : decode cX4_isColumn 9 = .ok (.iconst 1, 1) := by decide +kernel
theorem dX4_isColumn_10 : decode cX4_isColumn 10 = .ok (.goto 4, 3) := by decide +kernel
theorem dX4_isColumn_13 : decode cX4_isColumn 13 = .ok (.iconst 0, 1) := by decide +kernel
theorem dX4_isColumn_14 : decode cX4_isColumn 14 = .ok (.ireturn, 1) := by decide +kernel
theorem dX4_isValue_0 : decode cX4_isValue 0 = .ok (.iload_n 0, 1) := by decide +kernel
theorem dX4_isValue_1 : decode cX4_isValue 1 = .ok (.ifCond .lt 13, 3) := by decide +kernel
theorem dX4_isValue_4 : decode cX4_isValue 4 = .ok (.iload_n 0, 1) := by decide +kernel
theorem dX4_isValue_5 : decode cX4_isValue 5 = .ok (.bipush 100, 2) := by decide +kernel
theorem dX4_isValue_7 : decode cX4_isValue 7 = .ok (.if_icmp .ge 7, 3) := by decide +kernel
theorem dX4_isValue_10 : decode cX4_isValue 10 = .ok (.iconst 1, 1) := by decide +kernel
theorem dX4_isValue_11 : decode cX4_isValue 11 = .ok (.goto 4, 3) := by decide +kernel
theorem dX4_isValue_14 : decode cX4_isValue 14 = .ok (.iconst 0, 1) := by decide +kernel
theorem dX4_isValue_15 : decode cX4_isValue 15 = .ok (.ireturn, 1) := by decide +kernel
theorem dX4_joinValue_0 : decode cX4_joinValue 0 = .ok (.aload_n 0, 1) := by decide +kernel
theorem dX4_joinValue_1 : decode cX4_joinValue 1 = .ok (.getfield 12, 3) := by decide +kernel
theorem dX4_joinValue_4 : decode cX4_joinValue 4 = .ok (.iload_n 1, 1) := by decide +kernel
theorem dX4_joinValue_5 : decode cX4_joinValue 5 = .ok (.aaload, 1) := by decide +kernel
theorem dX4_joinValue_6 : decode cX4_joinValue 6 = .ok (.iload_n 2, 1) := by decide +kernel
theorem dX4_joinValue_7 : decode cX4_joinValue 7 = .ok (.aload_n 0, 1) := by decide +kernel
theorem dX4_joinValue_8 : decode cX4_joinValue 8 = .ok (.getfield 25, 3) := by decide +kernel
theorem dX4_joinValue_11 : decode cX4_joinValue 11 = .ok (.iload_n 1, 1) := by decide +kernel
theorem dX4_joinValue_12 : decode cX4_joinValue 12 = .ok (.iaload, 1) := by decide +kernel
theorem dX4_joinValue_13 : decode cX4_joinValue 13 = .ok (.invokevirtual 144, 3) := by decide +kernel
theorem dX4_joinValue_16 : decode cX4_joinValue 16 = .ok (.ireturn, 1) := by decide +kernel
theorem dX4_makeStep_0 : decode cX4_makeStep 0 = .ok (.aload_n 0, 1) := by decide +kernel
theorem dX4_makeStep_1 : decode cX4_makeStep 1 = .ok (.invokevirtual 177, 3) := by decide +kernel
theorem dX4_makeStep_4 : decode cX4_makeStep 4 = .ok (.ifCond .eq 10, 3) := by decide +kernel
theorem dX4_makeStep_7 : decode cX4_makeStep 7 = .ok (.aload_n 0, 1) := by decide +kernel
theorem dX4_makeStep_8 : decode cX4_makeStep 8 = .ok (.invokevirtual 181, 3) := by decide +kernel
theorem dX4_makeStep_11 : decode cX4_makeStep 11 = .ok (.goto 11, 3) := by decide +kernel
theorem dX4_makeStep_14 : decode cX4_makeStep 14 = .ok (.aload_n 0, 1) := by decide +kernel
theorem dX4_makeStep_15 : decode cX4_makeStep 15 = .ok (.aload_n 0, 1) := by decide +kernel
theorem dX4_makeStep_16 : decode cX4_makeStep 16 = .ok (.invokevirtual 184, 3) := by decide +kernel
theorem dX4_makeStep_19 : decode cX4_makeStep 19 = .ok (.invokevirtual 187, 3) := by decide +kernel
theorem dX4_makeStep_22 : decode cX4_makeStep 22 = .ok (.aload_n 0, 1) := by decide +kernel
theorem dX4_makeStep_23 : decode cX4_makeStep 23 = .ok (.invokevirtual 96, 3) := by decide +kernel
theorem dX4_makeStep_26 : decode cX4_makeStep 26 = .ok (.return_, 1) := by decide +kernel
theorem dX4_bothAreReadOut_0 : decode cX4_bothAreReadOut 0 = .ok (.aload_n 0, 1) := by decide +kernel
theorem dX4_bothAreReadOut_1 : decode cX4_bothAreReadOut 1 = .ok (.getfield 21, 3) := by decide +kernel
theorem dX4_bothAreReadOut_4 : decode cX4_bothAreReadOut 4 = .ok (.iconst 0, 1) := by decide +kernel
theorem dX4_bothAreReadOut_5 : decode cX4_bothAreReadOut 5 = .ok (.aaload, 1) := by decide +kernel
theorem dX4_bothAreReadOut_6 : decode cX4_bothAreReadOut 6 = .ok (.invokevirtual 191, 3) := by decide +kernel
theorem dX4_bothAreReadOut_9 : decode cX4_bothAreReadOut 9 = .ok (.ifCond .eq 19, 3) := by decide +kernel
theorem dX4_bothAreReadOut_12 : decode cX4_bothAreReadOut 12 = .ok (.aload_n 0, 1) := by decide +kernel
theorem dX4_bothAreReadOut_13 : decode cX4_bothAreReadOut 13 = .ok (.getfield 21, 3) := by decide +kernel
theorem dX4_bothAreReadOut_16 : decode cX4_bothAreReadOut 16 = .ok (.iconst 1, 1) := by decide +kernel
theorem dX4_bothAreReadOut_17 : decode cX4_bothAreReadOut 17 = .ok (.aaload, 1) := by decide +kernel
theorem dX4_bothAreReadOut_18 : decode cX4_bothAreReadOut 18 = .ok (.invokevirtual 191, 3) := by decide +kernel
theorem dX4_bothAreReadOut_21 : decode cX4_bothAreReadOut 21 = .ok (.ifCond .eq 7, 3) := by decide +kernel
theorem dX4_bothAreReadOut_24 : decode cX4_bothAreReadOut 24 = .ok (.iconst 1, 1) := by decide +kernel
theorem dX4_bothAreReadOut_25 : decode cX4_bothAreReadOut 25 = .ok (.goto 4, 3) := by decide +kernel
theorem dX4_bothAreReadOut_28 : decode cX4_bothAreReadOut 28 = .ok (.iconst 0, 1) := by decide +kernel
theorem dX4_bothAreReadOut_29 : decode cX4_bothAreReadOut 29 = .ok (.ireturn, 1) := by decide +kernel
theorem dX4_tableToRead_0 : decode cX4_tableToRead 0 = .ok (.aload_n 0, 1) := by decide +kernel
theorem dX4_tableToRead_1 : decode cX4_tableToRead 1 = .ok (.getfield 21, 3) := by decide +kernel
theorem dX4_tableToRead_4 : decode cX4_tableToRead 4 = .ok (.iconst 0, 1) := by decide +kernel
theorem dX4_tableToRead_5 : decode cX4_tableToRead 5 = .ok (.aaload, 1) := by decide +kernel
theorem dX4_tableToRead_6 : decode cX4_tableToRead 6 = .ok (.invokevirtual 191, 3) := by decide +kernel
theorem dX4_tableToRead_9 : decode cX4_tableToRead 9 = .ok (.ifCond .eq 5, 3) := by decide +kernel
theorem dX4_tableToRead_12 : decode cX4_tableToRead 12 = .ok (.iconst 1, 1) := by decide +kernel
theorem dX4_tableToRead_13 : decode cX4_tableToRead 13 = .ok (.ireturn, 1) := by decide +kernel
theorem dX4_tableToRead_14 : decode cX4_tableToRead 14 = .ok (.aload_n 0, 1) := by decide +kernel
theorem dX4_tableToRead_15 : decode cX4_tableToRead 15 = .ok (.getfield 21, 3) := by decide +kernel
theorem dX4_tableToRead_18 : decode cX4_tableToRead 18 = .ok (.iconst 1, 1) := by decide +kernel
theorem dX4_tableToRead_19 : decode cX4_tableToRead 19 = .ok (.aaload, 1) := by decide +kernel
theorem dX4_tableToRead_20 : decode cX4_tableToRead 20 = .ok (.invokevirtual 191, 3) := by decide +kernel
theorem dX4_tableToRead_23 : decode cX4_tableToRead 23 = .ok (.ifCond .eq 5, 3) := by decide +kernel
theorem dX4_tableToRead_26 : decode cX4_tableToRead 26 = .ok (.iconst 0, 1) := by decide +kernel
theorem dX4_tableToRead_27 : decode cX4_tableToRead 27 = .ok (.ireturn, 1) := by decide +kernel
theorem dX4_tableToRead_28 : decode cX4_tableToRead 28 = .ok (.aload_n 0, 1) := by decide +kernel
theorem dX4_tableToRead_29 : decode cX4_tableToRead 29 = .ok (.getfield 50, 3) := by decide +kernel
theorem dX4_tableToRead_32 : decode cX4_tableToRead 32 = .ok (.iconst (-1), 1) := by decide +kernel
theorem dX4_tableToRead_33 : decode cX4_tableToRead 33 = .ok (.if_icmp .eq 8, 3) := by decide +kernel
theorem dX4_tableToRead_36 : decode cX4_tableToRead 36 = .ok (.aload_n 0, 1) := by decide +kernel
theorem dX4_tableToRead_37 : decode cX4_tableToRead 37 = .ok (.getfield 50, 3) := by decide +kernel
theorem dX4_tableToRead_40 : decode cX4_tableToRead 40 = .ok (.ireturn, 1) := by decide +kernel
theorem dX4_tableToRead_41 : decode cX4_tableToRead 41 = .ok (.aload_n 0, 1) := by decide +kernel
theorem dX4_tableToRead_42 : decode cX4_tableToRead 42 = .ok (.getfield 21, 3) := by decide +kernel
theorem dX4_tableToRead_45 : decode cX4_tableToRead 45 = .ok (.iconst 1, 1) := by decide +kernel
theorem dX4_tableToRead_46 : decode cX4_tableToRead 46 = .ok (.aaload, 1) := by decide +kernel
theorem dX4_tableToRead_47 : decode cX4_tableToRead 47 = .ok (.aload_n 0, 1) := by decide +kernel
theorem dX4_tableToRead_48 : decode cX4_tableToRead 48 = .ok (.getfield 21, 3) := by decide +kernel
theorem dX4_tableToRead_51 : decode cX4_tableToRead 51 = .ok (.iconst 0, 1) := by decide +kernel
theorem dX4_tableToRead_52 : decode cX4_tableToRead 52 = .ok (.aaload, 1) := by decide +kernel
theorem dX4_tableToRead_53 : decode cX4_tableToRead 53 = .ok (.invokevirtual 194, 3) := by decide +kernel
theorem dX4_tableToRead_56 : decode cX4_tableToRead 56 = .ok (.ifCond .eq 7, 3) := by decide +kernel
theorem dX4_tableToRead_59 : decode cX4_tableToRead 59 = .ok (.iconst 1, 1) := by decide +kernel
theorem dX4_tableToRead_60 : decode cX4_tableToRead 60 = .ok (.goto 4, 3) := by decide +kernel
theorem dX4_tableToRead_63 : decode cX4_tableToRead 63 = .ok (.iconst 0, 1) := by decide +kernel
theorem dX4_tableToRead_64 : decode cX4_tableToRead 64 = .ok (.ireturn, 1) := by decide +kernel
theorem dX4_readFrom_0 : decode cX4_readFrom 0 = .ok (.aload_n 0, 1) := by decide +kernel
theorem dX4_readFrom_1 : decode cX4_readFrom 1 = .ok (.getfield 78, 3) := by decide +kernel
theorem dX4_readFrom_4 : decode cX4_readFrom 4 = .ok (.iconst (-1), 1) := by decide +kernel
theorem dX4_readFrom_5 : decode cX4_readFrom 5 = .ok (.if_icmp .eq 21, 3) := by decide +kernel
theorem dX4_readFrom_8 : decode cX4_readFrom 8 = .ok (.aload_n 0, 1) := by decide +kernel
theorem dX4_readFrom_9 : decode cX4_readFrom 9 = .ok (.getfield 78, 3) := by decide +kernel
theorem dX4_readFrom_12 : decode cX4_readFrom 12 = .ok (.iload_n 1, 1) := by decide +kernel
theorem dX4_readFrom_13 : decode cX4_readFrom 13 = .ok (.if_icmp .eq 13, 3) := by decide +kernel
theorem dX4_readFrom_16 : decode cX4_readFrom 16 = .ok (.aload_n 0, 1) := by decide +kernel
theorem dX4_readFrom_17 : decode cX4_readFrom 17 = .ok (.dup, 1) := by decide +kernel
theorem dX4_readFrom_18 : decode cX4_readFrom 18 = .ok (.getfield 81, 3) := by decide +kernel
theorem dX4_readFrom_21 : decode cX4_readFrom 21 = .ok (.iconst 1, 1) := by decide +kernel
theorem dX4_readFrom_22 : decode cX4_readFrom 22 = .ok (.iadd, 1) := by decide +kernel
theorem dX4_readFrom_23 : decode cX4_readFrom 23 = .ok (.putfield 81, 3) := by decide +kernel
theorem dX4_readFrom_26 : decode cX4_readFrom 26 = .ok (.aload_n 0, 1) := by decide +kernel
theorem dX4_readFrom_27 : decode cX4_readFrom 27 = .ok (.iload_n 1, 1) := by decide +kernel
theorem dX4_readFrom_28 : decode cX4_readFrom 28 = .ok (.putfield 78, 3) := by decide +kernel
theorem dX4_readFrom_31 : decode cX4_readFrom 31 = .ok (.aload_n 0, 1) := by decide +kernel
theorem dX4_readFrom_32 : decode cX4_readFrom 32 = .ok (.getfield 21, 3) := by decide +kernel
theorem dX4_readFrom_35 : decode cX4_readFrom 35 = .ok (.iload_n 1, 1) := by decide +kernel
theorem dX4_readFrom_36 : decode cX4_readFrom 36 = .ok (.aaload, 1) := by decide +kernel
theorem dX4_readFrom_37 : decode cX4_readFrom 37 = .ok (.astore_n 2, 1) := by decide +kernel
theorem dX4_readFrom_38 : decode cX4_readFrom 38 = .ok (.aload_n 2, 1) := by decide +kernel
theorem dX4_readFrom_39 : decode cX4_readFrom 39 = .ok (.getfield 174, 3) := by decide +kernel
theorem dX4_readFrom_42 : decode cX4_readFrom 42 = .ok (.istore_n 3, 1) := by decide +kernel
theorem dX4_readFrom_43 : decode cX4_readFrom 43 = .ok (.aload_n 2, 1) := by decide +kernel
theorem dX4_readFrom_44 : decode cX4_readFrom 44 = .ok (.dup, 1) := by decide +kernel
theorem dX4_readFrom_45 : decode cX4_readFrom 45 = .ok (.getfield 174, 3) := by decide +kernel
theorem dX4_readFrom_48 : decode cX4_readFrom 48 = .ok (.iconst 1, 1) := by decide +kernel
theorem dX4_readFrom_49 : decode cX4_readFrom 49 = .ok (.iadd, 1) := by decide +kernel
theorem dX4_readFrom_50 : decode cX4_readFrom 50 = .ok (.putfield 174, 3) := by decide +kernel
theorem dX4_readFrom_53 : decode cX4_readFrom 53 = .ok (.aload_n 2, 1) := by decide +kernel
theorem dX4_readFrom_54 : decode cX4_readFrom 54 = .ok (.iload_n 3, 1) := by decide +kernel
theorem dX4_readFrom_55 : decode cX4_readFrom 55 = .ok (.invokevirtual 198, 3) := by decide +kernel
theorem dX4_readFrom_58 : decode cX4_readFrom 58 = .ok (.ifCond .eq 32, 3) := by decide +kernel
theorem dX4_readFrom_61 : decode cX4_readFrom 61 = .ok (.aload_n 0, 1) := by decide +kernel
theorem dX4_readFrom_62 : decode cX4_readFrom 62 = .ok (.iload_n 1, 1) := by decide +kernel
theorem dX4_readFrom_63 : decode cX4_readFrom 63 = .ok (.iload_n 3, 1) := by decide +kernel
theorem dX4_readFrom_64 : decode cX4_readFrom 64 = .ok (.invokevirtual 201, 3) := by decide +kernel
theorem dX4_readFrom_67 : decode cX4_readFrom 67 = .ok (.aload_n 2, 1) := by decide +kernel
theorem dX4_readFrom_68 : decode cX4_readFrom 68 = .ok (.getfield 141, 3) := by decide +kernel
theorem dX4_readFrom_71 : decode cX4_readFrom 71 = .ok (.iload_n 3, 1) := by decide +kernel
theorem dX4_readFrom_72 : decode cX4_readFrom 72 = .ok (.iconst 2, 1) := by decide +kernel
theorem dX4_readFrom_73 : decode cX4_readFrom 73 = .ok (.iastore, 1) := by decide +kernel
theorem dX4_readFrom_74 : decode cX4_readFrom 74 = .ok (.aload_n 0, 1) := by decide +kernel
theorem dX4_readFrom_75 : decode cX4_readFrom 75 = .ok (.getfield 32, 3) := by decide +kernel
theorem dX4_readFrom_78 : decode cX4_readFrom 78 = .ok (.iload_n 1, 1) := by decide +kernel
theorem dX4_readFrom_79 : decode cX4_readFrom 79 = .ok (.iload_n 3, 1) := by decide +kernel
theorem dX4_readFrom_80 : decode cX4_readFrom 80 = .ok (.invokevirtual 205, 3) := by decide +kernel
theorem dX4_readFrom_83 : decode cX4_readFrom 83 = .ok (.aload_n 0, 1) := by decide +kernel
theorem dX4_readFrom_84 : decode cX4_readFrom 84 = .ok (.invokevirtual 105, 3) := by decide +kernel
theorem dX4_readFrom_87 : decode cX4_readFrom 87 = .ok (.goto 10, 3) := by decide +kernel
theorem dX4_readFrom_90 : decode cX4_readFrom 90 = .ok (.aload_n 2, 1) := by decide +kernel
theorem dX4_readFrom_91 : decode cX4_readFrom 91 = .ok (.getfield 141, 3) := by decide +kernel
theorem dX4_readFrom_94 : decode cX4_readFrom 94 = .ok (.iload_n 3, 1) := by decide +kernel
theorem dX4_readFrom_95 : decode cX4_readFrom 95 = .ok (.iconst 1, 1) := by decide +kernel
theorem dX4_readFrom_96 : decode cX4_readFrom 96 = .ok (.iastore, 1) := by decide +kernel
theorem dX4_readFrom_97 : decode cX4_readFrom 97 = .ok (.aload_n 2, 1) := by decide +kernel
theorem dX4_readFrom_98 : decode cX4_readFrom 98 = .ok (.invokevirtual 208, 3) := by decide +kernel
theorem dX4_readFrom_101 : decode cX4_readFrom 101 = .ok (.ifCond .eq 20, 3) := by decide +kernel
theorem dX4_readFrom_104 : decode cX4_readFrom 104 = .ok (.aload_n 2, 1) := by decide +kernel
theorem dX4_readFrom_105 : decode cX4_readFrom 105 = .ok (.invokevirtual 211, 3) := by decide +kernel
theorem dX4_readFrom_108 : decode cX4_readFrom 108 = .ok (.ifCond .eq 13, 3) := by decide +kernel
theorem dX4_readFrom_111 : decode cX4_readFrom 111 = .ok (.aload_n 0, 1) := by decide +kernel
theorem dX4_readFrom_112 : decode cX4_readFrom 112 = .ok (.dup, 1) := by decide +kernel
theorem dX4_readFrom_113 : decode cX4_readFrom 113 = .ok (.getfield 84, 3) := by decide +kernel
theorem dX4_readFrom_116 : decode cX4_readFrom 116 = .ok (.iconst 1, 1) := by decide +kernel
theorem dX4_readFrom_117 : decode cX4_readFrom 117 = .ok (.iadd, 1) := by decide +kernel
theorem dX4_readFrom_118 : decode cX4_readFrom 118 = .ok (.putfield 84, 3) := by decide +kernel
theorem dX4_readFrom_121 : decode cX4_readFrom 121 = .ok (.return_, 1) := by decide +kernel
theorem dX4_givePairsOf_0 : decode cX4_givePairsOf 0 = .ok (.iconst 1, 1) := by decide +kernel
theorem dX4_givePairsOf_1 : decode cX4_givePairsOf 1 = .ok (.iload_n 1, 1) := by decide +kernel
theorem dX4_givePairsOf_2 : decode cX4_givePairsOf 2 = .ok (.isub, 1) := by decide +kernel
theorem dX4_givePairsOf_3 : decode cX4_givePairsOf 3 = .ok (.istore_n 3, 1) := by decide +kernel
theorem dX4_givePairsOf_4 : decode cX4_givePairsOf 4 = .ok (.aload_n 0, 1) := by decide +kernel
theorem dX4_givePairsOf_5 : decode cX4_givePairsOf 5 = .ok (.iload_n 1, 1) := by decide +kernel
theorem dX4_givePairsOf_6 : decode cX4_givePairsOf 6 = .ok (.iload_n 2, 1) := by decide +kernel
theorem dX4_givePairsOf_7 : decode cX4_givePairsOf 7 = .ok (.invokevirtual 156, 3) := by decide +kernel
theorem dX4_givePairsOf_10 : decode cX4_givePairsOf 10 = .ok (.istore 4, 2) := by decide +kernel
theorem dX4_givePairsOf_12 : decode cX4_givePairsOf 12 = .ok (.aload_n 0, 1) := by decide +kernel
theorem dX4_givePairsOf_13 : decode cX4_givePairsOf 13 = .ok (.getfield 32, 3) := by decide +kernel
theorem dX4_givePairsOf_16 : decode cX4_givePairsOf 16 = .ok (.getfield 171, 3) := by decide +kernel
theorem dX4_givePairsOf_19 : decode cX4_givePairsOf 19 = .ok (.istore 5, 2) := by decide +kernel
theorem dX4_givePairsOf_21 : decode cX4_givePairsOf 21 = .ok (.iload 5, 2) := by decide +kernel
theorem dX4_givePairsOf_23 : decode cX4_givePairsOf 23 = .ok (.aload_n 0, 1) := by decide +kernel
theorem dX4_givePairsOf_24 : decode cX4_givePairsOf 24 = .ok (.getfield 32, 3) := by decide +kernel
theorem dX4_givePairsOf_27 : decode cX4_givePairsOf 27 = .ok (.getfield 214, 3) := by decide +kernel
theorem dX4_givePairsOf_30 : decode cX4_givePairsOf 30 = .ok (.if_icmp .ge 87, 3) := by decide +kernel
theorem dX4_givePairsOf_33 : decode cX4_givePairsOf 33 = .ok (.aload_n 0, 1) := by decide +kernel
theorem dX4_givePairsOf_34 : decode cX4_givePairsOf 34 = .ok (.getfield 32, 3) := by decide +kernel
theorem dX4_givePairsOf_37 : decode cX4_givePairsOf 37 = .ok (.iload 5, 2) := by decide +kernel
theorem dX4_givePairsOf_39 : decode cX4_givePairsOf 39 = .ok (.invokevirtual 217, 3) := by decide +kernel
theorem dX4_givePairsOf_42 : decode cX4_givePairsOf 42 = .ok (.istore 6, 2) := by decide +kernel
theorem dX4_givePairsOf_44 : decode cX4_givePairsOf 44 = .ok (.aload_n 0, 1) := by decide +kernel
theorem dX4_givePairsOf_45 : decode cX4_givePairsOf 45 = .ok (.getfield 32, 3) := by decide +kernel
theorem dX4_givePairsOf_48 : decode cX4_givePairsOf 48 = .ok (.iload 5, 2) := by decide +kernel
theorem dX4_givePairsOf_50 : decode cX4_givePairsOf 50 = .ok (.invokevirtual 221, 3) := by decide +kernel
theorem dX4_givePairsOf_53 : decode cX4_givePairsOf 53 = .ok (.iload_n 3, 1) := by decide +kernel
theorem dX4_givePairsOf_54 : decode cX4_givePairsOf 54 = .ok (.if_icmp .ne 57, 3) := by decide +kernel
theorem dX4_givePairsOf_57 : decode cX4_givePairsOf 57 = .ok (.aload_n 0, 1) := by decide +kernel
theorem dX4_givePairsOf_58 : decode cX4_givePairsOf 58 = .ok (.iload_n 3, 1) := by decide +kernel
theorem dX4_givePairsOf_59 : decode cX4_givePairsOf 59 = .ok (.iload 6, 2) := by decide +kernel
theorem dX4_givePairsOf_61 : decode cX4_givePairsOf 61 = .ok (.invokevirtual 156, 3) := by decide +kernel
theorem dX4_givePairsOf_64 : decode cX4_givePairsOf 64 = .ok (.iload 4, 2) := by decide +kernel
theorem dX4_givePairsOf_66 : decode cX4_givePairsOf 66 = .ok (.if_icmp .ne 45, 3) := by decide +kernel
theorem dX4_givePairsOf_69 : decode cX4_givePairsOf 69 = .ok (.aload_n 0, 1) := by decide +kernel
theorem dX4_givePairsOf_70 : decode cX4_givePairsOf 70 = .ok (.getfield 39, 3) := by decide +kernel
theorem dX4_givePairsOf_73 : decode cX4_givePairsOf 73 = .ok (.iload_n 1, 1) := by decide +kernel
theorem dX4_givePairsOf_74 : decode cX4_givePairsOf 74 = .ok (.ifCond .ne 7, 3) := by decide +kernel
theorem dX4_givePairsOf_77 : decode cX4_givePairsOf 77 = .ok (.iload_n 2, 1) := by decide +kernel
theorem dX4_givePairsOf_78 : decode cX4_givePairsOf 78 = .ok (.goto 5, 3) := by decide +kernel
theorem dX4_givePairsOf_81 : decode cX4_givePairsOf 81 = .ok (.iload 6, 2) := by decide +kernel
theorem dX4_givePairsOf_83 : decode cX4_givePairsOf 83 = .ok (.iload_n 1, 1) := by decide +kernel
theorem dX4_givePairsOf_84 : decode cX4_givePairsOf 84 = .ok (.ifCond .ne 8, 3) := by decide +kernel
theorem dX4_givePairsOf_87 : decode cX4_givePairsOf 87 = .ok (.iload 6, 2) := by decide +kernel
theorem dX4_givePairsOf_89 : decode cX4_givePairsOf 89 = .ok (.goto 4, 3) := by decide +kernel
theorem dX4_givePairsOf_92 : decode cX4_givePairsOf 92 = .ok (.iload_n 2, 1) := by decide +kernel
theorem dX4_givePairsOf_93 : decode cX4_givePairsOf 93 = .ok (.invokevirtual 224, 3) := by decide +kernel
theorem dX4_givePairsOf_96 : decode cX4_givePairsOf 96 = .ok (.aload_n 0, 1) := by decide +kernel
theorem dX4_givePairsOf_97 : decode cX4_givePairsOf 97 = .ok (.getfield 21, 3) := by decide +kernel
theorem dX4_givePairsOf_100 : decode cX4_givePairsOf 100 = .ok (.iload_n 1, 1) := by decide +kernel
theorem dX4_givePairsOf_101 : decode cX4_givePairsOf 101 = .ok (.aaload, 1) := by decide +kernel
theorem dX4_givePairsOf_102 : decode cX4_givePairsOf 102 = .ok (.dup, 1) := by decide +kernel
theorem dX4_givePairsOf_103 : decode cX4_givePairsOf 103 = .ok (.getfield 227, 3) := by decide +kernel
theorem dX4_givePairsOf_106 : decode cX4_givePairsOf 106 = .ok (.iconst 1, 1) := by decide +kernel
theorem dX4_givePairsOf_107 : decode cX4_givePairsOf 107 = .ok (.iadd, 1) := by decide +kernel
theorem dX4_givePairsOf_108 : decode cX4_givePairsOf 108 = .ok (.putfield 227, 3) := by decide +kernel
theorem dX4_givePairsOf_111 : decode cX4_givePairsOf 111 = .ok (.iinc 5 1, 3) := by decide +kernel
theorem dX4_givePairsOf_114 : decode cX4_givePairsOf 114 = .ok (.goto (-93), 3) := by decide +kernel
theorem dX4_givePairsOf_117 : decode cX4_givePairsOf 117 = .ok (.return_, 1) := by decide +kernel
theorem dX4_spillExcess_0 : decode cX4_spillExcess 0 = .ok (.aload_n 0, 1) := by decide +kernel
theorem dX4_spillExcess_1 : decode cX4_spillExcess 1 = .ok (.getfield 32, 3) := by decide +kernel
theorem dX4_spillExcess_4 : decode cX4_spillExcess 4 = .ok (.invokevirtual 169, 3) := by decide +kernel
theorem dX4_spillExcess_7 : decode cX4_spillExcess 7 = .ok (.aload_n 0, 1) := by decide +kernel
theorem dX4_spillExcess_8 : decode cX4_spillExcess 8 = .ok (.getfield 32, 3) := by decide +kernel
theorem dX4_spillExcess_11 : decode cX4_spillExcess 11 = .ok (.getfield 102, 3) := by decide +kernel
theorem dX4_spillExcess_14 : decode cX4_spillExcess 14 = .ok (.isub, 1) := by decide +kernel
theorem dX4_spillExcess_15 : decode cX4_spillExcess 15 = .ok (.istore_n 1, 1) := by decide +kernel
theorem dX4_spillExcess_16 : decode cX4_spillExcess 16 = .ok (.iload_n 1, 1) := by decide +kernel
theorem dX4_spillExcess_17 : decode cX4_spillExcess 17 = .ok (.ifCond .le 56, 3) := by decide +kernel
theorem dX4_spillExcess_20 : decode cX4_spillExcess 20 = .ok (.aload_n 0, 1) := by decide +kernel
theorem dX4_spillExcess_21 : decode cX4_spillExcess 21 = .ok (.getfield 32, 3) := by decide +kernel
theorem dX4_spillExcess_24 : decode cX4_spillExcess 24 = .ok (.getfield 171, 3) := by decide +kernel
theorem dX4_spillExcess_27 : decode cX4_spillExcess 27 = .ok (.istore_n 2, 1) := by decide +kernel
theorem dX4_spillExcess_28 : decode cX4_spillExcess 28 = .ok (.aload_n 0, 1) := by decide +kernel
theorem dX4_spillExcess_29 : decode cX4_spillExcess 29 = .ok (.getfield 21, 3) := by decide +kernel
theorem dX4_spillExcess_32 : decode cX4_spillExcess 32 = .ok (.aload_n 0, 1) := by decide +kernel
theorem dX4_spillExcess_33 : decode cX4_spillExcess 33 = .ok (.getfield 32, 3) := by decide +kernel
theorem dX4_spillExcess_36 : decode cX4_spillExcess 36 = .ok (.iload_n 2, 1) := by decide +kernel
theorem dX4_spillExcess_37 : decode cX4_spillExcess 37 = .ok (.invokevirtual 221, 3) := by decide +kernel
theorem dX4_spillExcess_40 : decode cX4_spillExcess 40 = .ok (.aaload, 1) := by decide +kernel
theorem dX4_spillExcess_41 : decode cX4_spillExcess 41 = .ok (.getfield 141, 3) := by decide +kernel
theorem dX4_spillExcess_44 : decode cX4_spillExcess 44 = .ok (.aload_n 0, 1) := by decide +kernel
theorem dX4_spillExcess_45 : decode cX4_spillExcess 45 = .ok (.getfield 32, 3) := by decide +kernel
theorem dX4_spillExcess_48 : decode cX4_spillExcess 48 = .ok (.iload_n 2, 1) := by decide +kernel
theorem dX4_spillExcess_49 : decode cX4_spillExcess 49 = .ok (.invokevirtual 217, 3) := by decide +kernel
theorem dX4_spillExcess_52 : decode cX4_spillExcess 52 = .ok (.iconst 3, 1) := by decide +kernel
theorem dX4_spillExcess_53 : decode cX4_spillExcess 53 = .ok (.iastore, 1) := by decide +kernel
theorem dX4_spillExcess_54 : decode cX4_spillExcess 54 = .ok (.aload_n 0, 1) := by decide +kernel
theorem dX4_spillExcess_55 : decode cX4_spillExcess 55 = .ok (.getfield 32, 3) := by decide +kernel
theorem dX4_spillExcess_58 : decode cX4_spillExcess 58 = .ok (.dup, 1) := by decide +kernel
theorem dX4_spillExcess_59 : decode cX4_spillExcess 59 = .ok (.getfield 171, 3) := by decide +kernel
theorem dX4_spillExcess_62 : decode cX4_spillExcess 62 = .ok (.iconst 1, 1) := by decide +kernel
theorem dX4_spillExcess_63 : decode cX4_spillExcess 63 = .ok (.iadd, 1) := by decide +kernel
theorem dX4_spillExcess_64 : decode cX4_spillExcess 64 = .ok (.putfield 171, 3) := by decide +kernel
theorem dX4_spillExcess_67 : decode cX4_spillExcess 67 = .ok (.iinc 1 (-1), 3) := by decide +kernel
theorem dX4_spillExcess_70 : decode cX4_spillExcess 70 = .ok (.goto (-54), 3) := by decide +kernel
theorem dX4_spillExcess_73 : decode cX4_spillExcess 73 = .ok (.return_, 1) := by decide +kernel
theorem dX4_giveLatePair_0 : decode cX4_giveLatePair 0 = .ok (.aload_n 0, 1) := by decide +kernel
theorem dX4_giveLatePair_1 : decode cX4_giveLatePair 1 = .ok (.getfield 39, 3) := by decide +kernel
theorem dX4_giveLatePair_4 : decode cX4_giveLatePair 4 = .ok (.aload_n 0, 1) := by decide +kernel
theorem dX4_giveLatePair_5 : decode cX4_giveLatePair 5 = .ok (.getfield 90, 3) := by decide +kernel
theorem dX4_giveLatePair_8 : decode cX4_giveLatePair 8 = .ok (.aload_n 0, 1) := by decide +kernel
theorem dX4_giveLatePair_9 : decode cX4_giveLatePair 9 = .ok (.getfield 93, 3) := by decide +kernel
theorem dX4_giveLatePair_12 : decode cX4_giveLatePair 12 = .ok (.invokevirtual 224, 3) := by decide +kernel
theorem dX4_giveLatePair_15 : decode cX4_giveLatePair 15 = .ok (.aload_n 0, 1) := by decide +kernel
theorem dX4_giveLatePair_16 : decode cX4_giveLatePair 16 = .ok (.dup, 1) := by decide +kernel
theorem dX4_giveLatePair_17 : decode cX4_giveLatePair 17 = .ok (.getfield 87, 3) := by decide +kernel
theorem dX4_giveLatePair_20 : decode cX4_giveLatePair 20 = .ok (.iconst 2, 1) := by decide +kernel
theorem dX4_giveLatePair_21 : decode cX4_giveLatePair 21 = .ok (.iadd, 1) := by decide +kernel
theorem dX4_giveLatePair_22 : decode cX4_giveLatePair 22 = .ok (.putfield 87, 3) := by decide +kernel
theorem dX4_giveLatePair_25 : decode cX4_giveLatePair 25 = .ok (.return_, 1) := by decide +kernel
theorem dX4_endIfNothingIsLeft_0 : decode cX4_endIfNothingIsLeft 0 = .ok (.aload_n 0, 1) := by decide +kernel
theorem dX4_endIfNothingIsLeft_1 : decode cX4_endIfNothingIsLeft 1 = .ok (.invokevirtual 177, 3) := by decide +kernel
theorem dX4_endIfNothingIsLeft_4 : decode cX4_endIfNothingIsLeft 4 = .ok (.ifCond .eq 15, 3) := by decide +kernel
theorem dX4_endIfNothingIsLeft_7 : decode cX4_endIfNothingIsLeft 7 = .ok (.aload_n 0, 1) := by decide +kernel
theorem dX4_endIfNothingIsLeft_8 : decode cX4_endIfNothingIsLeft 8 = .ok (.invokevirtual 230, 3) := by decide +kernel
theorem dX4_endIfNothingIsLeft_11 : decode cX4_endIfNothingIsLeft 11 = .ok (.ifCond .ne 8, 3) := by decide +kernel
theorem dX4_endIfNothingIsLeft_14 : decode cX4_endIfNothingIsLeft 14 = .ok (.aload_n 0, 1) := by decide +kernel
theorem dX4_endIfNothingIsLeft_15 : decode cX4_endIfNothingIsLeft 15 = .ok (.iconst 2, 1) := by decide +kernel
theorem dX4_endIfNothingIsLeft_16 : decode cX4_endIfNothingIsLeft 16 = .ok (.putfield 46, 3) := by decide +kernel
theorem dX4_endIfNothingIsLeft_19 : decode cX4_endIfNothingIsLeft 19 = .ok (.return_, 1) := by decide +kernel
theorem dX4_findLatePair_0 : decode cX4_findLatePair 0 = .ok (.aload_n 0, 1) := by decide +kernel
theorem dX4_findLatePair_1 : decode cX4_findLatePair 1 = .ok (.getfield 90, 3) := by decide +kernel
theorem dX4_findLatePair_4 : decode cX4_findLatePair 4 = .ok (.aload_n 0, 1) := by decide +kernel
theorem dX4_findLatePair_5 : decode cX4_findLatePair 5 = .ok (.getfield 12, 3) := by decide +kernel
theorem dX4_findLatePair_8 : decode cX4_findLatePair 8 = .ok (.iconst 0, 1) := by decide +kernel
theorem dX4_findLatePair_9 : decode cX4_findLatePair 9 = .ok (.aaload, 1) := by decide +kernel
theorem dX4_findLatePair_10 : decode cX4_findLatePair 10 = .ok (.getfield 138, 3) := by decide +kernel
theorem dX4_findLatePair_13 : decode cX4_findLatePair 13 = .ok (.if_icmp .ge 46, 3) := by decide +kernel
theorem dX4_findLatePair_16 : decode cX4_findLatePair 16 = .ok (.aload_n 0, 1) := by decide +kernel
theorem dX4_findLatePair_17 : decode cX4_findLatePair 17 = .ok (.getfield 21, 3) := by decide +kernel
theorem dX4_findLatePair_20 : decode cX4_findLatePair 20 = .ok (.iconst 0, 1) := by decide +kernel
theorem dX4_findLatePair_21 : decode cX4_findLatePair 21 = .ok (.aaload, 1) := by decide +kernel
theorem dX4_findLatePair_22 : decode cX4_findLatePair 22 = .ok (.aload_n 0, 1) := by decide +kernel
theorem dX4_findLatePair_23 : decode cX4_findLatePair 23 = .ok (.getfield 90, 3) := by decide +kernel
theorem dX4_findLatePair_26 : decode cX4_findLatePair 26 = .ok (.invokevirtual 233, 3) := by decide +kernel
theorem dX4_findLatePair_29 : decode cX4_findLatePair 29 = .ok (.ifCond .eq 12, 3) := by decide +kernel
theorem dX4_findLatePair_32 : decode cX4_findLatePair 32 = .ok (.aload_n 0, 1) := by decide +kernel
theorem dX4_findLatePair_33 : decode cX4_findLatePair 33 = .ok (.invokevirtual 236, 3) := by decide +kernel
theorem dX4_findLatePair_36 : decode cX4_findLatePair 36 = .ok (.ifCond .eq 5, 3) := by decide +kernel
theorem dX4_findLatePair_39 : decode cX4_findLatePair 39 = .ok (.iconst 1, 1) := by decide +kernel
theorem dX4_findLatePair_40 : decode cX4_findLatePair 40 = .ok (.ireturn, 1) := by decide +kernel
theorem dX4_findLatePair_41 : decode cX4_findLatePair 41 = .ok (.aload_n 0, 1) := by decide +kernel
theorem dX4_findLatePair_42 : decode cX4_findLatePair 42 = .ok (.dup, 1) := by decide +kernel
theorem dX4_findLatePair_43 : decode cX4_findLatePair 43 = .ok (.getfield 90, 3) := by decide +kernel
theorem dX4_findLatePair_46 : decode cX4_findLatePair 46 = .ok (.iconst 1, 1) := by decide +kernel
theorem dX4_findLatePair_47 : decode cX4_findLatePair 47 = .ok (.iadd, 1) := by decide +kernel
theorem dX4_findLatePair_48 : decode cX4_findLatePair 48 = .ok (.putfield 90, 3) := by decide +kernel
theorem dX4_findLatePair_51 : decode cX4_findLatePair 51 = .ok (.aload_n 0, 1) := by decide +kernel
theorem dX4_findLatePair_52 : decode cX4_findLatePair 52 = .ok (.iconst 0, 1) := by decide +kernel
theorem dX4_findLatePair_53 : decode cX4_findLatePair 53 = .ok (.putfield 93, 3) := by decide +kernel
theorem dX4_findLatePair_56 : decode cX4_findLatePair 56 = .ok (.goto (-56), 3) := by decide +kernel
theorem dX4_findLatePair_59 : decode cX4_findLatePair 59 = .ok (.iconst 0, 1) := by decide +kernel
theorem dX4_findLatePair_60 : decode cX4_findLatePair 60 = .ok (.ireturn, 1) := by decide +kernel
theorem dX4_findLateRow1_0 : decode cX4_findLateRow1 0 = .ok (.aload_n 0, 1) := by decide +kernel
theorem dX4_findLateRow1_1 : decode cX4_findLateRow1 1 = .ok (.getfield 93, 3) := by decide +kernel
theorem dX4_findLateRow1_4 : decode cX4_findLateRow1 4 = .ok (.aload_n 0, 1) := by decide +kernel
theorem dX4_findLateRow1_5 : decode cX4_findLateRow1 5 = .ok (.getfield 12, 3) := by decide +kernel
theorem dX4_findLateRow1_8 : decode cX4_findLateRow1 8 = .ok (.iconst 1, 1) := by decide +kernel
theorem dX4_findLateRow1_9 : decode cX4_findLateRow1 9 = .ok (.aaload, 1) := by decide +kernel
theorem dX4_findLateRow1_10 : decode cX4_findLateRow1 10 = .ok (.getfield 138, 3) := by decide +kernel
theorem dX4_findLateRow1_13 : decode cX4_findLateRow1 13 = .ok (.if_icmp .ge 73, 3) := by decide +kernel
theorem dX4_findLateRow1_16 : decode cX4_findLateRow1 16 = .ok (.aload_n 0, 1) := by decide +kernel
theorem dX4_findLateRow1_17 : decode cX4_findLateRow1 17 = .ok (.getfield 21, 3) := by decide +kernel
theorem dX4_findLateRow1_20 : decode cX4_findLateRow1 20 = .ok (.iconst 1, 1) := by decide +kernel
theorem dX4_findLateRow1_21 : decode cX4_findLateRow1 21 = .ok (.aaload, 1) := by decide +kernel
theorem dX4_findLateRow1_22 : decode cX4_findLateRow1 22 = .ok (.aload_n 0, 1) := by decide +kernel
theorem dX4_findLateRow1_23 : decode cX4_findLateRow1 23 = .ok (.getfield 93, 3) := by decide +kernel
theorem dX4_findLateRow1_26 : decode cX4_findLateRow1 26 = .ok (.invokevirtual 233, 3) := by decide +kernel
theorem dX4_findLateRow1_29 : decode cX4_findLateRow1 29 = .ok (.ifCond .eq 44, 3) := by decide +kernel
theorem dX4_findLateRow1_32 : decode cX4_findLateRow1 32 = .ok (.aload_n 0, 1) := by decide +kernel
theorem dX4_findLateRow1_33 : decode cX4_findLateRow1 33 = .ok (.iconst 0, 1) := by decide +kernel
theorem dX4_findLateRow1_34 : decode cX4_findLateRow1 34 = .ok (.aload_n 0, 1) := by decide +kernel
theorem dX4_findLateRow1_35 : decode cX4_findLateRow1 35 = .ok (.getfield 90, 3) := by decide +kernel
theorem dX4_findLateRow1_38 : decode cX4_findLateRow1 38 = .ok (.invokevirtual 156, 3) := by decide +kernel
theorem dX4_findLateRow1_41 : decode cX4_findLateRow1 41 = .ok (.aload_n 0, 1) := by decide +kernel
theorem dX4_findLateRow1_42 : decode cX4_findLateRow1 42 = .ok (.iconst 1, 1) := by decide +kernel
theorem dX4_findLateRow1_43 : decode cX4_findLateRow1 43 = .ok (.aload_n 0, 1) := by decide +kernel
theorem dX4_findLateRow1_44 : decode cX4_findLateRow1 44 = .ok (.getfield 93, 3) := by decide +kernel
theorem dX4_findLateRow1_47 : decode cX4_findLateRow1 47 = .ok (.invokevirtual 156, 3) := by decide +kernel
theorem dX4_findLateRow1_50 : decode cX4_findLateRow1 50 = .ok (.if_icmp .ne 23, 3) := by decide +kernel
theorem dX4_findLateRow1_53 : decode cX4_findLateRow1 53 = .ok (.aload_n 0, 1) := by decide +kernel
theorem dX4_findLateRow1_54 : decode cX4_findLateRow1 54 = .ok (.getfield 39, 3) := by decide +kernel
theorem dX4_findLateRow1_57 : decode cX4_findLateRow1 57 = .ok (.aload_n 0, 1) := by decide +kernel
theorem dX4_findLateRow1_58 : decode cX4_findLateRow1 58 = .ok (.getfield 90, 3) := by decide +kernel
theorem dX4_findLateRow1_61 : decode cX4_findLateRow1 61 = .ok (.aload_n 0, 1) := by decide +kernel
theorem dX4_findLateRow1_62 : decode cX4_findLateRow1 62 = .ok (.getfield 93, 3) := by decide +kernel
theorem dX4_findLateRow1_65 : decode cX4_findLateRow1 65 = .ok (.invokevirtual 239, 3) := by decide +kernel
theorem dX4_findLateRow1_68 : decode cX4_findLateRow1 68 = .ok (.ifCond .ne 5, 3) := by decide +kernel
theorem dX4_findLateRow1_71 : decode cX4_findLateRow1 71 = .ok (.iconst 1, 1) := by decide +kernel
theorem dX4_findLateRow1_72 : decode cX4_findLateRow1 72 = .ok (.ireturn, 1) := by decide +kernel
theorem dX4_findLateRow1_73 : decode cX4_findLateRow1 73 = .ok (.aload_n 0, 1) := by decide +kernel
theorem dX4_findLateRow1_74 : decode cX4_findLateRow1 74 = .ok (.dup, 1) := by decide +kernel
theorem dX4_findLateRow1_75 : decode cX4_findLateRow1 75 = .ok (.getfield 93, 3) := by decide +kernel
theorem dX4_findLateRow1_78 : decode cX4_findLateRow1 78 = .ok (.iconst 1, 1) := by decide +kernel
theorem dX4_findLateRow1_79 : decode cX4_findLateRow1 79 = .ok (.iadd, 1) := by decide +kernel
theorem dX4_findLateRow1_80 : decode cX4_findLateRow1 80 = .ok (.putfield 93, 3) := by decide +kernel
theorem dX4_findLateRow1_83 : decode cX4_findLateRow1 83 = .ok (.goto (-83), 3) := by decide +kernel
theorem dX4_findLateRow1_86 : decode cX4_findLateRow1 86 = .ok (.iconst 0, 1) := by decide +kernel
theorem dX4_findLateRow1_87 : decode cX4_findLateRow1 87 = .ok (.ireturn, 1) := by decide +kernel
end
section
theorem dX0_init_0 : decode cX0_init 0 = .ok (.aload_n 0, 1) := by decide +kernel
theorem dX0_init_1 : decode cX0_init 1 = .ok (.invokespecial 3, 3) := by decide +kernel
theorem dX0_init_4 : decode cX0_init 4 = .ok (.aload_n 0, 1) := by decide +kernel
theorem dX0_init_5 : decode cX0_init 5 = .ok (.bipush 100, 2) := by decide +kernel
theorem dX0_init_7 : decode cX0_init 7 = .ok (.newarray .int, 2) := by decide +kernel
theorem dX0_init_9 : decode cX0_init 9 = .ok (.putfield 9, 3) := by decide +kernel
theorem dX0_init_12 : decode cX0_init 12 = .ok (.aload_n 0, 1) := by decide +kernel
theorem dX0_init_13 : decode cX0_init 13 = .ok (.bipush 100, 2) := by decide +kernel
theorem dX0_init_15 : decode cX0_init 15 = .ok (.putfield 15, 3) := by decide +kernel
theorem dX0_init_18 : decode cX0_init 18 = .ok (.return_, 1) := by decide +kernel
theorem dX0_empty_0 : decode cX0_empty 0 = .ok (.aload_n 0, 1) := by decide +kernel
theorem dX0_empty_1 : decode cX0_empty 1 = .ok (.iconst 0, 1) := by decide +kernel
theorem dX0_empty_2 : decode cX0_empty 2 = .ok (.putfield 19, 3) := by decide +kernel
theorem dX0_empty_5 : decode cX0_empty 5 = .ok (.aload_n 0, 1) := by decide +kernel
theorem dX0_empty_6 : decode cX0_empty 6 = .ok (.iconst 0, 1) := by decide +kernel
theorem dX0_empty_7 : decode cX0_empty 7 = .ok (.putfield 22, 3) := by decide +kernel
theorem dX0_empty_10 : decode cX0_empty 10 = .ok (.return_, 1) := by decide +kernel
theorem dX0_size_0 : decode cX0_size 0 = .ok (.aload_n 0, 1) := by decide +kernel
theorem dX0_size_1 : decode cX0_size 1 = .ok (.getfield 19, 3) := by decide +kernel
theorem dX0_size_4 : decode cX0_size 4 = .ok (.aload_n 0, 1) := by decide +kernel
theorem dX0_size_5 : decode cX0_size 5 = .ok (.getfield 22, 3) := by decide +kernel
theorem dX0_size_8 : decode cX0_size 8 = .ok (.isub, 1) := by decide +kernel
theorem dX0_size_9 : decode cX0_size 9 = .ok (.ireturn, 1) := by decide +kernel
theorem dX0_take_0 : decode cX0_take 0 = .ok (.aload_n 0, 1) := by decide +kernel
theorem dX0_take_1 : decode cX0_take 1 = .ok (.getfield 19, 3) := by decide +kernel
theorem dX0_take_4 : decode cX0_take 4 = .ok (.aload_n 0, 1) := by decide +kernel
theorem dX0_take_5 : decode cX0_take 5 = .ok (.getfield 9, 3) := by decide +kernel
theorem dX0_take_8 : decode cX0_take 8 = .ok (.arraylength, 1) := by decide +kernel
theorem dX0_take_9 : decode cX0_take 9 = .ok (.if_icmp .ge 28, 3) := by decide +kernel
theorem dX0_take_12 : decode cX0_take 12 = .ok (.aload_n 0, 1) := by decide +kernel
theorem dX0_take_13 : decode cX0_take 13 = .ok (.getfield 9, 3) := by decide +kernel
theorem dX0_take_16 : decode cX0_take 16 = .ok (.aload_n 0, 1) := by decide +kernel
theorem dX0_take_17 : decode cX0_take 17 = .ok (.getfield 19, 3) := by decide +kernel
theorem dX0_take_20 : decode cX0_take 20 = .ok (.iload_n 1, 1) := by decide +kernel
theorem dX0_take_21 : decode cX0_take 21 = .ok (.bipush 50, 2) := by decide +kernel
theorem dX0_take_23 : decode cX0_take 23 = .ok (.imul, 1) := by decide +kernel
theorem dX0_take_24 : decode cX0_take 24 = .ok (.iload_n 2, 1) := by decide +kernel
theorem dX0_take_25 : decode cX0_take 25 = .ok (.iadd, 1) := by decide +kernel
theorem dX0_take_26 : decode cX0_take 26 = .ok (.iastore, 1) := by decide +kernel
theorem dX0_take_27 : decode cX0_take 27 = .ok (.aload_n 0, 1) := by decide +kernel
theorem dX0_take_28 : decode cX0_take 28 = .ok (.dup, 1) := by decide +kernel
theorem dX0_take_29 : decode cX0_take 29 = .ok (.getfield 19, 3) := by decide +kernel
theorem dX0_take_32 : decode cX0_take 32 = .ok (.iconst 1, 1) := by decide +kernel
theorem dX0_take_33 : decode cX0_take 33 = .ok (.iadd, 1) := by decide +kernel
theorem dX0_take_34 : decode cX0_take 34 = .ok (.putfield 19, 3) := by decide +kernel
theorem dX0_take_37 : decode cX0_take 37 = .ok (.return_, 1) := by decide +kernel
theorem dX0_tableAt_0 : decode cX0_tableAt 0 = .ok (.aload_n 0, 1) := by decide +kernel
theorem dX0_tableAt_1 : decode cX0_tableAt 1 = .ok (.getfield 9, 3) := by decide +kernel
theorem dX0_tableAt_4 : decode cX0_tableAt 4 = .ok (.iload_n 1, 1) := by decide +kernel
theorem dX0_tableAt_5 : decode cX0_tableAt 5 = .ok (.iaload, 1) := by decide +kernel
theorem dX0_tableAt_6 : decode cX0_tableAt 6 = .ok (.bipush 50, 2) := by decide +kernel
theorem dX0_tableAt_8 : decode cX0_tableAt 8 = .ok (.idiv, 1) := by decide +kernel
theorem dX0_tableAt_9 : decode cX0_tableAt 9 = .ok (.ireturn, 1) := by decide +kernel
theorem dX0_rowAt_0 : decode cX0_rowAt 0 = .ok (.aload_n 0, 1) := by decide +kernel
theorem dX0_rowAt_1 : decode cX0_rowAt 1 = .ok (.getfield 9, 3) := by decide +kernel
theorem dX0_rowAt_4 : decode cX0_rowAt 4 = .ok (.iload_n 1, 1) := by decide +kernel
theorem dX0_rowAt_5 : decode cX0_rowAt 5 = .ok (.iaload, 1) := by decide +kernel
theorem dX0_rowAt_6 : decode cX0_rowAt 6 = .ok (.bipush 50, 2) := by decide +kernel
theorem dX0_rowAt_8 : decode cX0_rowAt 8 = .ok (.irem, 1) := by decide +kernel
theorem dX0_rowAt_9 : decode cX0_rowAt 9 = .ok (.ireturn, 1) := by decide +kernel
theorem dX1_init_0 : decode cX1_init 0 = .ok (.aload_n 0, 1) := by decide +kernel
theorem dX1_init_1 : decode cX1_init 1 = .ok (.invokespecial 3, 3) := by decide +kernel
theorem dX1_init_4 : decode cX1_init 4 = .ok (.aload_n 0, 1) := by decide +kernel
theorem dX1_init_5 : decode cX1_init 5 = .ok (.sipush 2500, 3) := by decide +kernel
theorem dX1_init_8 : decode cX1_init 8 = .ok (.newarray .int, 2) := by decide +kernel
theorem dX1_init_10 : decode cX1_init 10 = .ok (.putfield 9, 3) := by decide +kernel
theorem dX1_init_13 : decode cX1_init 13 = .ok (.aload_n 0, 1) := by decide +kernel
theorem dX1_init_14 : decode cX1_init 14 = .ok (.sipush 2500, 3) := by decide +kernel
theorem dX1_init_17 : decode cX1_init 17 = .ok (.newarray .boolean, 2) := by decide +kernel
theorem dX1_init_19 : decode cX1_init 19 = .ok (.putfield 15, 3) := by decide +kernel
theorem dX1_init_22 : decode cX1_init 22 = .ok (.return_, 1) := by decide +kernel
theorem dX1_empty_0 : decode cX1_empty 0 = .ok (.iconst 0, 1) := by decide +kernel
theorem dX1_empty_1 : decode cX1_empty 1 = .ok (.istore_n 1, 1) := by decide +kernel
theorem dX1_empty_2 : decode cX1_empty 2 = .ok (.iload_n 1, 1) := by decide +kernel
theorem dX1_empty_3 : decode cX1_empty 3 = .ok (.aload_n 0, 1) := by decide +kernel
theorem dX1_empty_4 : decode cX1_empty 4 = .ok (.getfield 19, 3) := by decide +kernel
theorem dX1_empty_7 : decode cX1_empty 7 = .ok (.if_icmp .ge 21, 3) := by decide +kernel
theorem dX1_empty_10 : decode cX1_empty 10 = .ok (.aload_n 0, 1) := by decide +kernel
theorem dX1_empty_11 : decode cX1_empty 11 = .ok (.getfield 15, 3) := by decide +kernel
theorem dX1_empty_14 : decode cX1_empty 14 = .ok (.aload_n 0, 1) := by decide +kernel
theorem dX1_empty_15 : decode cX1_empty 15 = .ok (.getfield 9, 3) := by decide +kernel
theorem dX1_empty_18 : decode cX1_empty 18 = .ok (.iload_n 1, 1) := by decide +kernel
theorem dX1_empty_19 : decode cX1_empty 19 = .ok (.iaload, 1) := by decide +kernel
theorem dX1_empty_20 : decode cX1_empty 20 = .ok (.iconst 0, 1) := by decide +kernel
theorem dX1_empty_21 : decode cX1_empty 21 = .ok (.bastore, 1) := by decide +kernel
theorem dX1_empty_22 : decode cX1_empty 22 = .ok (.iinc 1 1, 3) := by decide +kernel
theorem dX1_empty_25 : decode cX1_empty 25 = .ok (.goto (-23), 3) := by decide +kernel
theorem dX1_empty_28 : decode cX1_empty 28 = .ok (.aload_n 0, 1) := by decide +kernel
theorem dX1_empty_29 : decode cX1_empty 29 = .ok (.iconst 0, 1) := by decide +kernel
theorem dX1_empty_30 : decode cX1_empty 30 = .ok (.putfield 19, 3) := by decide +kernel
theorem dX1_empty_33 : decode cX1_empty 33 = .ok (.return_, 1) := by decide +kernel
theorem dX1_give_0 : decode cX1_give 0 = .ok (.aload_n 0, 1) := by decide +kernel
theorem dX1_give_1 : decode cX1_give 1 = .ok (.getfield 19, 3) := by decide +kernel
theorem dX1_give_4 : decode cX1_give 4 = .ok (.aload_n 0, 1) := by decide +kernel
theorem dX1_give_5 : decode cX1_give 5 = .ok (.getfield 9, 3) := by decide +kernel
theorem dX1_give_8 : decode cX1_give 8 = .ok (.arraylength, 1) := by decide +kernel
theorem dX1_give_9 : decode cX1_give 9 = .ok (.if_icmp .ge 37, 3) := by decide +kernel
theorem dX1_give_12 : decode cX1_give 12 = .ok (.iload_n 1, 1) := by decide +kernel
theorem dX1_give_13 : decode cX1_give 13 = .ok (.bipush 50, 2) := by decide +kernel
theorem dX1_give_15 : decode cX1_give 15 = .ok (.imul, 1) := by decide +kernel
theorem dX1_give_16 : decode cX1_give 16 = .ok (.iload_n 2, 1) := by decide +kernel
theorem dX1_give_17 : decode cX1_give 17 = .ok (.iadd, 1) := by decide +kernel
theorem dX1_give_18 : decode cX1_give 18 = .ok (.istore_n 3, 1) := by decide +kernel
theorem dX1_give_19 : decode cX1_give 19 = .ok (.aload_n 0, 1) := by decide +kernel
theorem dX1_give_20 : decode cX1_give 20 = .ok (.getfield 9, 3) := by decide +kernel
theorem dX1_give_23 : decode cX1_give 23 = .ok (.aload_n 0, 1) := by decide +kernel
theorem dX1_give_24 : decode cX1_give 24 = .ok (.getfield 19, 3) := by decide +kernel
theorem dX1_give_27 : decode cX1_give 27 = .ok (.iload_n 3, 1) := by decide +kernel
theorem dX1_give_28 : decode cX1_give 28 = .ok (.iastore, 1) := by decide +kernel
theorem dX1_give_29 : decode cX1_give 29 = .ok (.aload_n 0, 1) := by decide +kernel
theorem dX1_give_30 : decode cX1_give 30 = .ok (.getfield 15, 3) := by decide +kernel
theorem dX1_give_33 : decode cX1_give 33 = .ok (.iload_n 3, 1) := by decide +kernel
theorem dX1_give_34 : decode cX1_give 34 = .ok (.iconst 1, 1) := by decide +kernel
theorem dX1_give_35 : decode cX1_give 35 = .ok (.bastore, 1) := by decide +kernel
theorem dX1_give_36 : decode cX1_give 36 = .ok (.aload_n 0, 1) := by decide +kernel
theorem dX1_give_37 : decode cX1_give 37 = .ok (.dup, 1) := by decide +kernel
theorem dX1_give_38 : decode cX1_give 38 = .ok (.getfield 19, 3) := by decide +kernel
theorem dX1_give_41 : decode cX1_give 41 = .ok (.iconst 1, 1) := by decide +kernel
theorem dX1_give_42 : decode cX1_give 42 = .ok (.iadd, 1) := by decide +kernel
theorem dX1_give_43 : decode cX1_give 43 = .ok (.putfield 19, 3) := by decide +kernel
theorem dX1_give_46 : decode cX1_give 46 = .ok (.return_, 1) := by decide +kernel
theorem dX1_has_0 : decode cX1_has 0 = .ok (.aload_n 0, 1) := by decide +kernel
theorem dX1_has_1 : decode cX1_has 1 = .ok (.getfield 15, 3) := by decide +kernel
theorem dX1_has_4 : decode cX1_has 4 = .ok (.iload_n 1, 1) := by decide +kernel
theorem dX1_has_5 : decode cX1_has 5 = .ok (.bipush 50, 2) := by decide +kernel
theorem dX1_has_7 : decode cX1_has 7 = .ok (.imul, 1) := by decide +kernel
theorem dX1_has_8 : decode cX1_has 8 = .ok (.iload_n 2, 1) := by decide +kernel
theorem dX1_has_9 : decode cX1_has 9 = .ok (.iadd, 1) := by decide +kernel
theorem dX1_has_10 : decode cX1_has 10 = .ok (.baload, 1) := by decide +kernel
theorem dX1_has_11 : decode cX1_has 11 = .ok (.ireturn, 1) := by decide +kernel
theorem dX1_rowOf_0 : decode cX1_rowOf 0 = .ok (.iload_n 2, 1) := by decide +kernel
theorem dX1_rowOf_1 : decode cX1_rowOf 1 = .ok (.ifCond .ne 15, 3) := by decide +kernel
theorem dX1_rowOf_4 : decode cX1_rowOf 4 = .ok (.aload_n 0, 1) := by decide +kernel
theorem dX1_rowOf_5 : decode cX1_rowOf 5 = .ok (.getfield 9, 3) := by decide +kernel
theorem dX1_rowOf_8 : decode cX1_rowOf 8 = .ok (.iload_n 1, 1) := by decide +kernel
theorem dX1_rowOf_9 : decode cX1_rowOf 9 = .ok (.iaload, 1) := by decide +kernel
theorem dX1_rowOf_10 : decode cX1_rowOf 10 = .ok (.bipush 50, 2) := by decide +kernel
theorem dX1_rowOf_12 : decode cX1_rowOf 12 = .ok (.idiv, 1) := by decide +kernel
theorem dX1_rowOf_13 : decode cX1_rowOf 13 = .ok (.goto 12, 3) := by decide +kernel
theorem dX1_rowOf_16 : decode cX1_rowOf 16 = .ok (.aload_n 0, 1) := by decide +kernel
theorem dX1_rowOf_17 : decode cX1_rowOf 17 = .ok (.getfield 9, 3) := by decide +kernel
theorem dX1_rowOf_20 : decode cX1_rowOf 20 = .ok (.iload_n 1, 1) := by decide +kernel
theorem dX1_rowOf_21 : decode cX1_rowOf 21 = .ok (.iaload, 1) := by decide +kernel
theorem dX1_rowOf_22 : decode cX1_rowOf 22 = .ok (.bipush 50, 2) := by decide +kernel
theorem dX1_rowOf_24 : decode cX1_rowOf 24 = .ok (.irem, 1) := by decide +kernel
theorem dX1_rowOf_25 : decode cX1_rowOf 25 = .ok (.ireturn, 1) := by decide +kernel
theorem dX2_init_0 : decode cX2_init 0 = .ok (.aload_n 0, 1) := by decide +kernel
theorem dX2_init_1 : decode cX2_init 1 = .ok (.invokespecial 3, 3) := by decide +kernel
theorem dX2_init_4 : decode cX2_init 4 = .ok (.aload_n 0, 1) := by decide +kernel
theorem dX2_init_5 : decode cX2_init 5 = .ok (.bipush 50, 2) := by decide +kernel
theorem dX2_init_7 : decode cX2_init 7 = .ok (.newarray .int, 2) := by decide +kernel
theorem dX2_init_9 : decode cX2_init 9 = .ok (.putfield 9, 3) := by decide +kernel
theorem dX2_init_12 : decode cX2_init 12 = .ok (.aload_n 0, 1) := by decide +kernel
theorem dX2_init_13 : decode cX2_init 13 = .ok (.iconst 4, 1) := by decide +kernel
theorem dX2_init_14 : decode cX2_init 14 = .ok (.newarray .int, 2) := by decide +kernel
theorem dX2_init_16 : decode cX2_init 16 = .ok (.putfield 15, 3) := by decide +kernel
theorem dX2_init_19 : decode cX2_init 19 = .ok (.aload_n 0, 1) := by decide +kernel
theorem dX2_init_20 : decode cX2_init 20 = .ok (.iconst 4, 1) := by decide +kernel
theorem dX2_init_21 : decode cX2_init 21 = .ok (.newarray .int, 2) := by decide +kernel
theorem dX2_init_23 : decode cX2_init 23 = .ok (.putfield 18, 3) := by decide +kernel
theorem dX2_init_26 : decode cX2_init 26 = .ok (.aload_n 0, 1) := by decide +kernel
theorem dX2_init_27 : decode cX2_init 27 = .ok (.iconst 4, 1) := by decide +kernel
theorem dX2_init_28 : decode cX2_init 28 = .ok (.newarray .int, 2) := by decide +kernel
theorem dX2_init_30 : decode cX2_init 30 = .ok (.putfield 21, 3) := by decide +kernel
theorem dX2_init_33 : decode cX2_init 33 = .ok (.aload_n 0, 1) := by decide +kernel
theorem dX2_init_34 : decode cX2_init 34 = .ok (.iconst 4, 1) := by decide +kernel
theorem dX2_init_35 : decode cX2_init 35 = .ok (.newarray .int, 2) := by decide +kernel
theorem dX2_init_37 : decode cX2_init 37 = .ok (.putfield 24, 3) := by decide +kernel
theorem dX2_init_40 : decode cX2_init 40 = .ok (.aload_n 0, 1) := by decide +kernel
theorem dX2_init_41 : decode cX2_init 41 = .ok (.bipush 50, 2) := by decide +kernel
theorem dX2_init_43 : decode cX2_init 43 = .ok (.newarray .int, 2) := by decide +kernel
theorem dX2_init_45 : decode cX2_init 45 = .ok (.putfield 27, 3) := by decide +kernel
theorem dX2_init_48 : decode cX2_init 48 = .ok (.aload_n 0, 1) := by decide +kernel
theorem dX2_init_49 : decode cX2_init 49 = .ok (.bipush 16, 2) := by decide +kernel
theorem dX2_init_51 : decode cX2_init 51 = .ok (.newarray .int, 2) := by decide +kernel
theorem dX2_init_53 : decode cX2_init 53 = .ok (.putfield 30, 3) := by decide +kernel
theorem dX2_init_56 : decode cX2_init 56 = .ok (.aload_n 0, 1) := by decide +kernel
theorem dX2_init_57 : decode cX2_init 57 = .ok (.aload_n 1, 1) := by decide +kernel
theorem dX2_init_58 : decode cX2_init 58 = .ok (.putfield 33, 3) := by decide +kernel
theorem dX2_init_61 : decode cX2_init 61 = .ok (.return_, 1) := by decide +kernel
theorem dX2_begin_0 : decode cX2_begin 0 = .ok (.aload_n 0, 1) := by decide +kernel
theorem dX2_begin_1 : decode cX2_begin 1 = .ok (.getfield 9, 3) := by decide +kernel
theorem dX2_begin_4 : decode cX2_begin 4 = .ok (.iconst 0, 1) := by decide +kernel
theorem dX2_begin_5 : decode cX2_begin 5 = .ok (.invokestatic 37, 3) := by decide +kernel
theorem dX2_begin_8 : decode cX2_begin 8 = .ok (.aload_n 0, 1) := by decide +kernel
theorem dX2_begin_9 : decode cX2_begin 9 = .ok (.getfield 15, 3) := by decide +kernel
theorem dX2_begin_12 : decode cX2_begin 12 = .ok (.iconst 0, 1) := by decide +kernel
theorem dX2_begin_13 : decode cX2_begin 13 = .ok (.invokestatic 37, 3) := by decide +kernel
theorem dX2_begin_16 : decode cX2_begin 16 = .ok (.aload_n 0, 1) := by decide +kernel
theorem dX2_begin_17 : decode cX2_begin 17 = .ok (.getfield 18, 3) := by decide +kernel
theorem dX2_begin_20 : decode cX2_begin 20 = .ok (.iconst 0, 1) := by decide +kernel
theorem dX2_begin_21 : decode cX2_begin 21 = .ok (.invokestatic 37, 3) := by decide +kernel
theorem dX2_begin_24 : decode cX2_begin 24 = .ok (.aload_n 0, 1) := by decide +kernel
theorem dX2_begin_25 : decode cX2_begin 25 = .ok (.aload_n 0, 1) := by decide +kernel
theorem dX2_begin_26 : decode cX2_begin 26 = .ok (.getfield 33, 3) := by decide +kernel
theorem dX2_begin_29 : decode cX2_begin 29 = .ok (.getfield 43, 3) := by decide +kernel
theorem dX2_begin_32 : decode cX2_begin 32 = .ok (.putfield 49, 3) := by decide +kernel
theorem dX2_begin_35 : decode cX2_begin 35 = .ok (.iconst 0, 1) := by decide +kernel
theorem dX2_begin_36 : decode cX2_begin 36 = .ok (.istore_n 1, 1) := by decide +kernel
theorem dX2_begin_37 : decode cX2_begin 37 = .ok (.iload_n 1, 1) := by decide +kernel
theorem dX2_begin_38 : decode cX2_begin 38 = .ok (.aload_n 0, 1) := by decide +kernel
theorem dX2_begin_39 : decode cX2_begin 39 = .ok (.getfield 49, 3) := by decide +kernel
theorem dX2_begin_42 : decode cX2_begin 42 = .ok (.if_icmp .ge 16, 3) := by decide +kernel
theorem dX2_begin_45 : decode cX2_begin 45 = .ok (.aload_n 0, 1) := by decide +kernel
theorem dX2_begin_46 : decode cX2_begin 46 = .ok (.getfield 21, 3) := by decide +kernel
theorem dX2_begin_49 : decode cX2_begin 49 = .ok (.iload_n 1, 1) := by decide +kernel
theorem dX2_begin_50 : decode cX2_begin 50 = .ok (.iload_n 1, 1) := by decide +kernel
theorem dX2_begin_51 : decode cX2_begin 51 = .ok (.iastore, 1) := by decide +kernel
theorem dX2_begin_52 : decode cX2_begin 52 = .ok (.iinc 1 1, 3) := by decide +kernel
theorem dX2_begin_55 : decode cX2_begin 55 = .ok (.goto (-18), 3) := by decide +kernel
theorem dX2_begin_58 : decode cX2_begin 58 = .ok (.aload_n 0, 1) := by decide +kernel
theorem dX2_begin_59 : decode cX2_begin 59 = .ok (.iconst 0, 1) := by decide +kernel
theorem dX2_begin_60 : decode cX2_begin 60 = .ok (.putfield 50, 3) := by decide +kernel
theorem dX2_begin_63 : decode cX2_begin 63 = .ok (.aload_n 0, 1) := by decide +kernel
theorem dX2_begin_64 : decode cX2_begin 64 = .ok (.iconst 0, 1) := by decide +kernel
theorem dX2_begin_65 : decode cX2_begin 65 = .ok (.putfield 54, 3) := by decide +kernel
theorem dX2_begin_68 : decode cX2_begin 68 = .ok (.aload_n 0, 1) := by decide +kernel
theorem dX2_begin_69 : decode cX2_begin 69 = .ok (.iconst 0, 1) := by decide +kernel
theorem dX2_begin_70 : decode cX2_begin 70 = .ok (.putfield 57, 3) := by decide +kernel
theorem dX2_begin_73 : decode cX2_begin 73 = .ok (.aload_n 0, 1) := by decide +kernel
theorem dX2_begin_74 : decode cX2_begin 74 = .ok (.iconst 0, 1) := by decide +kernel
theorem dX2_begin_75 : decode cX2_begin 75 = .ok (.putfield 60, 3) := by decide +kernel
theorem dX2_begin_78 : decode cX2_begin 78 = .ok (.return_, 1) := by decide +kernel
theorem dX2_isReadOut_0 : decode cX2_isReadOut 0 = .ok (.aload_n 0, 1) := by decide +kernel
theorem dX2_isReadOut_1 : decode cX2_isReadOut 1 = .ok (.getfield 54, 3) := by decide +kernel
theorem dX2_isReadOut_4 : decode cX2_isReadOut 4 = .ok (.aload_n 0, 1) := by decide +kernel
theorem dX2_isReadOut_5 : decode cX2_isReadOut 5 = .ok (.getfield 33, 3) := by decide +kernel
theorem dX2_isReadOut_8 : decode cX2_isReadOut 8 = .ok (.getfield 63, 3) := by decide +kernel
theorem dX2_isReadOut_11 : decode cX2_isReadOut 11 = .ok (.if_icmp .lt 7, 3) := by decide +kernel
theorem dX2_isReadOut_14 : decode cX2_isReadOut 14 = .ok (.iconst 1, 1) := by decide +kernel
theorem dX2_isReadOut_15 : decode cX2_isReadOut 15 = .ok (.goto 4, 3) := by decide +kernel
theorem dX2_isReadOut_18 : decode cX2_isReadOut 18 = .ok (.iconst 0, 1) := by decide +kernel
theorem dX2_isReadOut_19 : decode cX2_isReadOut 19 = .ok (.ireturn, 1) := by decide +kernel
theorem dX2_hasPassed_0 : decode cX2_hasPassed 0 = .ok (.aload_n 0, 1) := by decide +kernel
theorem dX2_hasPassed_1 : decode cX2_hasPassed 1 = .ok (.getfield 9, 3) := by decide +kernel
theorem dX2_hasPassed_4 : decode cX2_hasPassed 4 = .ok (.iload_n 1, 1) := by decide +kernel
theorem dX2_hasPassed_5 : decode cX2_hasPassed 5 = .ok (.iaload, 1) := by decide +kernel
theorem dX2_hasPassed_6 : decode cX2_hasPassed 6 = .ok (.iconst 2, 1) := by decide +kernel
theorem dX2_hasPassed_7 : decode cX2_hasPassed 7 = .ok (.if_icmp .eq 13, 3) := by decide +kernel
theorem dX2_hasPassed_10 : decode cX2_hasPassed 10 = .ok (.aload_n 0, 1) := by decide +kernel
theorem dX2_hasPassed_11 : decode cX2_hasPassed 11 = .ok (.getfield 9, 3) := by decide +kernel
theorem dX2_hasPassed_14 : decode cX2_hasPassed 14 = .ok (.iload_n 1, 1) := by decide +kernel
theorem dX2_hasPassed_15 : decode cX2_hasPassed 15 = .ok (.iaload, 1) := by decide +kernel
theorem dX2_hasPassed_16 : decode cX2_hasPassed 16 = .ok (.iconst 3, 1) := by decide +kernel
theorem dX2_hasPassed_17 : decode cX2_hasPassed 17 = .ok (.if_icmp .ne 7, 3) := by decide +kernel
theorem dX2_hasPassed_20 : decode cX2_hasPassed 20 = .ok (.iconst 1, 1) := by decide +kernel
theorem dX2_hasPassed_21 : decode cX2_hasPassed 21 = .ok (.goto 4, 3) := by decide +kernel
theorem dX2_hasPassed_24 : decode cX2_hasPassed 24 = .ok (.iconst 0, 1) := by decide +kernel
theorem dX2_hasPassed_25 : decode cX2_hasPassed 25 = .ok (.ireturn, 1) := by decide +kernel
theorem dX2_wholeCost_0 : decode cX2_wholeCost 0 = .ok (.aload_n 0, 1) := by decide +kernel
theorem dX2_wholeCost_1 : decode cX2_wholeCost 1 = .ok (.getfield 54, 3) := by decide +kernel
theorem dX2_wholeCost_4 : decode cX2_wholeCost 4 = .ok (.aload_n 0, 1) := by decide +kernel
theorem dX2_wholeCost_5 : decode cX2_wholeCost 5 = .ok (.getfield 57, 3) := by decide +kernel
theorem dX2_wholeCost_8 : decode cX2_wholeCost 8 = .ok (.iadd, 1) := by decide +kernel
theorem dX2_wholeCost_9 : decode cX2_wholeCost 9 = .ok (.aload_n 0, 1) := by decide +kernel
theorem dX2_wholeCost_10 : decode cX2_wholeCost 10 = .ok (.getfield 60, 3) := by decide +kernel
theorem dX2_wholeCost_13 : decode cX2_wholeCost 13 = .ok (.iadd, 1) := by decide +kernel
theorem dX2_wholeCost_14 : decode cX2_wholeCost 14 = .ok (.ireturn, 1) := by decide +kernel
theorem dX2_gainsMoreThan_0 : decode cX2_gainsMoreThan 0 = .ok (.aload_n 0, 1) := by decide +kernel
theorem dX2_gainsMoreThan_1 : decode cX2_gainsMoreThan 1 = .ok (.getfield 60, 3) := by decide +kernel
theorem dX2_gainsMoreThan_4 : decode cX2_gainsMoreThan 4 = .ok (.iconst 1, 1) := by decide +kernel
theorem dX2_gainsMoreThan_5 : decode cX2_gainsMoreThan 5 = .ok (.iadd, 1) := by decide +kernel
theorem dX2_gainsMoreThan_6 : decode cX2_gainsMoreThan 6 = .ok (.aload_n 1, 1) := by decide +kernel
theorem dX2_gainsMoreThan_7 : decode cX2_gainsMoreThan 7 = .ok (.invokevirtual 66, 3) := by decide +kernel
theorem dX2_gainsMoreThan_10 : decode cX2_gainsMoreThan 10 = .ok (.iconst 1, 1) := by decide +kernel
theorem dX2_gainsMoreThan_11 : decode cX2_gainsMoreThan 11 = .ok (.iadd, 1) := by decide +kernel
theorem dX2_gainsMoreThan_12 : decode cX2_gainsMoreThan 12 = .ok (.imul, 1) := by decide +kernel
theorem dX2_gainsMoreThan_13 : decode cX2_gainsMoreThan 13 = .ok (.aload_n 1, 1) := by decide +kernel
theorem dX2_gainsMoreThan_14 : decode cX2_gainsMoreThan 14 = .ok (.getfield 60, 3) := by decide +kernel
theorem dX2_gainsMoreThan_17 : decode cX2_gainsMoreThan 17 = .ok (.iconst 1, 1) := by decide +kernel
theorem dX2_gainsMoreThan_18 : decode cX2_gainsMoreThan 18 = .ok (.iadd, 1) := by decide +kernel
theorem dX2_gainsMoreThan_19 : decode cX2_gainsMoreThan 19 = .ok (.aload_n 0, 1) := by decide +kernel
theorem dX2_gainsMoreThan_20 : decode cX2_gainsMoreThan 20 = .ok (.invokevirtual 66, 3) := by decide +kernel
theorem dX2_gainsMoreThan_23 : decode cX2_gainsMoreThan 23 = .ok (.iconst 1, 1) := by decide +kernel
theorem dX2_gainsMoreThan_24 : decode cX2_gainsMoreThan 24 = .ok (.iadd, 1) := by decide +kernel
theorem dX2_gainsMoreThan_25 : decode cX2_gainsMoreThan 25 = .ok (.imul, 1) := by decide +kernel
theorem dX2_gainsMoreThan_26 : decode cX2_gainsMoreThan 26 = .ok (.if_icmp .le 7, 3) := by decide +kernel
theorem dX2_gainsMoreThan_29 : decode cX2_gainsMoreThan 29 = .ok (.iconst 1, 1) := by decide +kernel
theorem dX2_gainsMoreThan_30 : decode cX2_gainsMoreThan 30 = .ok (.goto 4, 3) := by decide +kernel
theorem dX2_gainsMoreThan_33 : decode cX2_gainsMoreThan 33 = .ok (.iconst 0, 1) := by decide +kernel
theorem dX2_gainsMoreThan_34 : decode cX2_gainsMoreThan 34 = .ok (.ireturn, 1) := by decide +kernel
theorem dX2_tryTests_0 : decode cX2_tryTests 0 = .ok (.iconst 0, 1) := by decide +kernel
theorem dX2_tryTests_1 : decode cX2_tryTests 1 = .ok (.istore_n 2, 1) := by decide +kernel
theorem dX2_tryTests_2 : decode cX2_tryTests 2 = .ok (.iload_n 2, 1) := by decide +kernel
theorem dX2_tryTests_3 : decode cX2_tryTests 3 = .ok (.aload_n 0, 1) := by decide +kernel
theorem dX2_tryTests_4 : decode cX2_tryTests 4 = .ok (.getfield 49, 3) := by decide +kernel
theorem dX2_tryTests_7 : decode cX2_tryTests 7 = .ok (.if_icmp .ge 68, 3) := by decide +kernel
theorem dX2_tryTests_10 : decode cX2_tryTests 10 = .ok (.aload_n 0, 1) := by decide +kernel
theorem dX2_tryTests_11 : decode cX2_tryTests 11 = .ok (.getfield 21, 3) := by decide +kernel
theorem dX2_tryTests_14 : decode cX2_tryTests 14 = .ok (.iload_n 2, 1) := by decide +kernel
theorem dX2_tryTests_15 : decode cX2_tryTests 15 = .ok (.iaload, 1) := by decide +kernel
theorem dX2_tryTests_16 : decode cX2_tryTests 16 = .ok (.istore_n 3, 1) := by decide +kernel
theorem dX2_tryTests_17 : decode cX2_tryTests 17 = .ok (.aload_n 0, 1) := by decide +kernel
theorem dX2_tryTests_18 : decode cX2_tryTests 18 = .ok (.getfield 15, 3) := by decide +kernel
theorem dX2_tryTests_21 : decode cX2_tryTests 21 = .ok (.iload_n 3, 1) := by decide +kernel
theorem dX2_tryTests_22 : decode cX2_tryTests 22 = .ok (.dup2, 1) := by decide +kernel
theorem dX2_tryTests_23 : decode cX2_tryTests 23 = .ok (.iaload, 1) := by decide +kernel
theorem dX2_tryTests_24 : decode cX2_tryTests 24 = .ok (.iconst 1, 1) := by decide +kernel
theorem dX2_tryTests_25 : decode cX2_tryTests 25 = .ok (.iadd, 1) := by decide +kernel
theorem dX2_tryTests_26 : decode cX2_tryTests 26 = .ok (.iastore, 1) := by decide +kernel
theorem dX2_tryTests_27 : decode cX2_tryTests 27 = .ok (.aload_n 0, 1) := by decide +kernel
theorem dX2_tryTests_28 : decode cX2_tryTests 28 = .ok (.dup, 1) := by decide +kernel
theorem dX2_tryTests_29 : decode cX2_tryTests 29 = .ok (.getfield 57, 3) := by decide +kernel
theorem dX2_tryTests_32 : decode cX2_tryTests 32 = .ok (.aload_n 0, 1) := by decide +kernel
theorem dX2_tryTests_33 : decode cX2_tryTests 33 = .ok (.getfield 33, 3) := by decide +kernel
theorem dX2_tryTests_36 : decode cX2_tryTests 36 = .ok (.getfield 70, 3) := by decide +kernel
theorem dX2_tryTests_39 : decode cX2_tryTests 39 = .ok (.iload_n 3, 1) := by decide +kernel
theorem dX2_tryTests_40 : decode cX2_tryTests 40 = .ok (.iaload, 1) := by decide +kernel
theorem dX2_tryTests_41 : decode cX2_tryTests 41 = .ok (.iadd, 1) := by decide +kernel
theorem dX2_tryTests_42 : decode cX2_tryTests 42 = .ok (.putfield 57, 3) := by decide +kernel
theorem dX2_tryTests_45 : decode cX2_tryTests 45 = .ok (.aload_n 0, 1) := by decide +kernel
theorem dX2_tryTests_46 : decode cX2_tryTests 46 = .ok (.getfield 33, 3) := by decide +kernel
theorem dX2_tryTests_49 : decode cX2_tryTests 49 = .ok (.iload_n 1, 1) := by decide +kernel
theorem dX2_tryTests_50 : decode cX2_tryTests 50 = .ok (.iload_n 3, 1) := by decide +kernel
theorem dX2_tryTests_51 : decode cX2_tryTests 51 = .ok (.invokevirtual 73, 3) := by decide +kernel
theorem dX2_tryTests_54 : decode cX2_tryTests 54 = .ok (.ifCond .ne 15, 3) := by decide +kernel
theorem dX2_tryTests_57 : decode cX2_tryTests 57 = .ok (.aload_n 0, 1) := by decide +kernel
theorem dX2_tryTests_58 : decode cX2_tryTests 58 = .ok (.getfield 18, 3) := by decide +kernel
theorem dX2_tryTests_61 : decode cX2_tryTests 61 = .ok (.iload_n 3, 1) := by decide +kernel
theorem dX2_tryTests_62 : decode cX2_tryTests 62 = .ok (.dup2, 1) := by decide +kernel
theorem dX2_tryTests_63 : decode cX2_tryTests 63 = .ok (.iaload, 1) := by decide +kernel
theorem dX2_tryTests_64 : decode cX2_tryTests 64 = .ok (.iconst 1, 1) := by decide +kernel
theorem dX2_tryTests_65 : decode cX2_tryTests 65 = .ok (.iadd, 1) := by decide +kernel
theorem dX2_tryTests_66 : decode cX2_tryTests 66 = .ok (.iastore, 1) := by decide +kernel
theorem dX2_tryTests_67 : decode cX2_tryTests 67 = .ok (.iconst 0, 1) := by decide +kernel
theorem dX2_tryTests_68 : decode cX2_tryTests 68 = .ok (.ireturn, 1) := by decide +kernel
theorem dX2_tryTests_69 : decode cX2_tryTests 69 = .ok (.iinc 2 1, 3) := by decide +kernel
theorem dX2_tryTests_72 : decode cX2_tryTests 72 = .ok (.goto (-70), 3) := by decide +kernel
theorem dX2_tryTests_75 : decode cX2_tryTests 75 = .ok (.iconst 1, 1) := by decide +kernel
theorem dX2_tryTests_76 : decode cX2_tryTests 76 = .ok (.ireturn, 1) := by decide +kernel
theorem dX2_isAtPoint_0 : decode cX2_isAtPoint 0 = .ok (.aload_n 0, 1) := by decide +kernel
theorem dX2_isAtPoint_1 : decode cX2_isAtPoint 1 = .ok (.getfield 54, 3) := by decide +kernel
theorem dX2_isAtPoint_4 : decode cX2_isAtPoint 4 = .ok (.iconst 4, 1) := by decide +kernel
theorem dX2_isAtPoint_5 : decode cX2_isAtPoint 5 = .ok (.irem, 1) := by decide +kernel
theorem dX2_isAtPoint_6 : decode cX2_isAtPoint 6 = .ok (.ifCond .ne 14, 3) := by decide +kernel
theorem dX2_isAtPoint_9 : decode cX2_isAtPoint 9 = .ok (.aload_n 0, 1) := by decide +kernel
theorem dX2_isAtPoint_10 : decode cX2_isAtPoint 10 = .ok (.getfield 50, 3) := by decide +kernel
theorem dX2_isAtPoint_13 : decode cX2_isAtPoint 13 = .ok (.ifCond .ne 7, 3) := by decide +kernel
theorem dX2_isAtPoint_16 : decode cX2_isAtPoint 16 = .ok (.iconst 1, 1) := by decide +kernel
theorem dX2_isAtPoint_17 : decode cX2_isAtPoint 17 = .ok (.goto 4, 3) := by decide +kernel
theorem dX2_isAtPoint_20 : decode cX2_isAtPoint 20 = .ok (.iconst 0, 1) := by decide +kernel
theorem dX2_isAtPoint_21 : decode cX2_isAtPoint 21 = .ok (.ireturn, 1) := by decide +kernel
theorem dX2_turnOrder_0 : decode cX2_turnOrder 0 = .ok (.aload_n 0, 1) := by decide +kernel
theorem dX2_turnOrder_1 : decode cX2_turnOrder 1 = .ok (.invokevirtual 77, 3) := by decide +kernel
theorem dX2_turnOrder_4 : decode cX2_turnOrder 4 = .ok (.aload_n 0, 1) := by decide +kernel
theorem dX2_turnOrder_5 : decode cX2_turnOrder 5 = .ok (.invokevirtual 80, 3) := by decide +kernel
theorem dX2_turnOrder_8 : decode cX2_turnOrder 8 = .ok (.ireturn, 1) := by decide +kernel
theorem dX2_forceOrder_0 : decode cX2_forceOrder 0 = .ok (.iload_n 1, 1) := by decide +kernel
theorem dX2_forceOrder_1 : decode cX2_forceOrder 1 = .ok (.ifCond .lt 11, 3) := by decide +kernel
theorem dX2_forceOrder_4 : decode cX2_forceOrder 4 = .ok (.aload_n 0, 1) := by decide +kernel
theorem dX2_forceOrder_5 : decode cX2_forceOrder 5 = .ok (.iload_n 1, 1) := by decide +kernel
theorem dX2_forceOrder_6 : decode cX2_forceOrder 6 = .ok (.invokevirtual 84, 3) := by decide +kernel
theorem dX2_forceOrder_9 : decode cX2_forceOrder 9 = .ok (.ifCond .ne 5, 3) := by decide +kernel
theorem dX2_forceOrder_12 : decode cX2_forceOrder 12 = .ok (.iconst 0, 1) := by decide +kernel
theorem dX2_forceOrder_13 : decode cX2_forceOrder 13 = .ok (.ireturn, 1) := by decide +kernel
theorem dX2_forceOrder_14 : decode cX2_forceOrder 14 = .ok (.aload_n 0, 1) := by decide +kernel
theorem dX2_forceOrder_15 : decode cX2_forceOrder 15 = .ok (.invokevirtual 80, 3) := by decide +kernel
theorem dX2_forceOrder_18 : decode cX2_forceOrder 18 = .ok (.pop, 1) := by decide +kernel
theorem dX2_forceOrder_19 : decode cX2_forceOrder 19 = .ok (.aload_n 0, 1) := by decide +kernel
theorem dX2_forceOrder_20 : decode cX2_forceOrder 20 = .ok (.iconst 1, 1) := by decide +kernel
theorem dX2_forceOrder_21 : decode cX2_forceOrder 21 = .ok (.putfield 50, 3) := by decide +kernel
theorem dX2_forceOrder_24 : decode cX2_forceOrder 24 = .ok (.iconst 1, 1) := by decide +kernel
theorem dX2_forceOrder_25 : decode cX2_forceOrder 25 = .ok (.ireturn, 1) := by decide +kernel
theorem dX2_sortIntoNewOrder_0 : decode cX2_sortIntoNewOrder 0 = .ok (.iconst 0, 1) := by decide +kernel
theorem dX2_sortIntoNewOrder_1 : decode cX2_sortIntoNewOrder 1 = .ok (.istore_n 1, 1) := by decide +kernel
theorem dX2_sortIntoNewOrder_2 : decode cX2_sortIntoNewOrder 2 = .ok (.iload_n 1, 1) := by decide +kernel
theorem dX2_sortIntoNewOrder_3 : decode cX2_sortIntoNewOrder 3 = .ok (.aload_n 0, 1) := by decide +kernel
theorem dX2_sortIntoNewOrder_4 : decode cX2_sortIntoNewOrder 4 = .ok (.getfield 49, 3) := by decide +kernel
theorem dX2_sortIntoNewOrder_7 : decode cX2_sortIntoNewOrder 7 = .ok (.if_icmp .ge 58, 3) := by decide +kernel
theorem dX2_sortIntoNewOrder_10 : decode cX2_sortIntoNewOrder 10 = .ok (.iload_n 1, 1) := by decide +kernel
theorem dX2_sortIntoNewOrder_11 : decode cX2_sortIntoNewOrder 11 = .ok (.istore_n 2, 1) := by decide +kernel
theorem dX2_sortIntoNewOrder_12 : decode cX2_sortIntoNewOrder 12 = .ok (.iload_n 2, 1) := by decide +kernel
theorem dX2_sortIntoNewOrder_13 : decode cX2_sortIntoNewOrder 13 = .ok (.ifCond .le 39, 3) := by decide +kernel
theorem dX2_sortIntoNewOrder_16 : decode cX2_sortIntoNewOrder 16 = .ok (.aload_n 0, 1) := by decide +kernel
theorem dX2_sortIntoNewOrder_17 : decode cX2_sortIntoNewOrder 17 = .ok (.iload_n 1, 1) := by decide +kernel
theorem dX2_sortIntoNewOrder_18 : decode cX2_sortIntoNewOrder 18 = .ok (.aload_n 0, 1) := by decide +kernel
theorem dX2_sortIntoNewOrder_19 : decode cX2_sortIntoNewOrder 19 = .ok (.getfield 24, 3) := by decide +kernel
theorem dX2_sortIntoNewOrder_22 : decode cX2_sortIntoNewOrder 22 = .ok (.iload_n 2, 1) := by decide +kernel
theorem dX2_sortIntoNewOrder_23 : decode cX2_sortIntoNewOrder 23 = .ok (.iconst 1, 1) := by decide +kernel
theorem dX2_sortIntoNewOrder_24 : decode cX2_sortIntoNewOrder 24 = .ok (.isub, 1) := by decide +kernel
theorem dX2_sortIntoNewOrder_25 : decode cX2_sortIntoNewOrder 25 = .ok (.iaload, 1) := by decide +kernel
theorem dX2_sortIntoNewOrder_26 : decode cX2_sortIntoNewOrder 26 = .ok (.invokevirtual 88, 3) := by decide +kernel
theorem dX2_sortIntoNewOrder_29 : decode cX2_sortIntoNewOrder 29 = .ok (.ifCond .eq 23, 3) := by decide +kernel
theorem dX2_sortIntoNewOrder_32 : decode cX2_sortIntoNewOrder 32 = .ok (.aload_n 0, 1) := by decide +kernel
theorem dX2_sortIntoNewOrder_33 : decode cX2_sortIntoNewOrder 33 = .ok (.getfield 24, 3) := by decide +kernel
theorem dX2_sortIntoNewOrder_36 : decode cX2_sortIntoNewOrder 36 = .ok (.iload_n 2, 1) := by decide +kernel
theorem dX2_sortIntoNewOrder_37 : decode cX2_sortIntoNewOrder 37 = .ok (.aload_n 0, 1) := by decide +kernel
theorem dX2_sortIntoNewOrder_38 : decode cX2_sortIntoNewOrder 38 = .ok (.getfield 24, 3) := by decide +kernel
theorem dX2_sortIntoNewOrder_41 : decode cX2_sortIntoNewOrder 41 = .ok (.iload_n 2, 1) := by decide +kernel
theorem dX2_sortIntoNewOrder_42 : decode cX2_sortIntoNewOrder 42 = .ok (.iconst 1, 1) := by decide +kernel
theorem dX2_sortIntoNewOrder_43 : decode cX2_sortIntoNewOrder 43 = .ok (.isub, 1) := by decide +kernel
theorem dX2_sortIntoNewOrder_44 : decode cX2_sortIntoNewOrder 44 = .ok (.iaload, 1) := by decide +kernel
theorem dX2_sortIntoNewOrder_45 : decode cX2_sortIntoNewOrder 45 = .ok (.iastore, 1) := by decide +kernel
theorem dX2_sortIntoNewOrder_46 : decode cX2_sortIntoNewOrder 46 = .ok (.iinc 2 (-1), 3) := by decide +kernel
theorem dX2_sortIntoNewOrder_49 : decode cX2_sortIntoNewOrder 49 = .ok (.goto (-37), 3) := by decide +kernel
theorem dX2_sortIntoNewOrder_52 : decode cX2_sortIntoNewOrder 52 = .ok (.aload_n 0, 1) := by decide +kernel
theorem dX2_sortIntoNewOrder_53 : decode cX2_sortIntoNewOrder 53 = .ok (.getfield 24, 3) := by decide +kernel
theorem dX2_sortIntoNewOrder_56 : decode cX2_sortIntoNewOrder 56 = .ok (.iload_n 2, 1) := by decide +kernel
theorem dX2_sortIntoNewOrder_57 : decode cX2_sortIntoNewOrder 57 = .ok (.iload_n 1, 1) := by decide +kernel
theorem dX2_sortIntoNewOrder_58 : decode cX2_sortIntoNewOrder 58 = .ok (.iastore, 1) := by decide +kernel
theorem dX2_sortIntoNewOrder_59 : decode cX2_sortIntoNewOrder 59 = .ok (.iinc 1 1, 3) := by decide +kernel
theorem dX2_sortIntoNewOrder_62 : decode cX2_sortIntoNewOrder 62 = .ok (.goto (-60), 3) := by decide +kernel
theorem dX2_sortIntoNewOrder_65 : decode cX2_sortIntoNewOrder 65 = .ok (.return_, 1) := by decide +kernel
theorem dX2_isCheaperToFail_0 : decode cX2_isCheaperToFail 0 = .ok (.aload_n 0, 1) := by decide +kernel
theorem dX2_isCheaperToFail_1 : decode cX2_isCheaperToFail 1 = .ok (.getfield 33, 3) := by decide +kernel
theorem dX2_isCheaperToFail_4 : decode cX2_isCheaperToFail 4 = .ok (.getfield 70, 3) := by decide +kernel
theorem dX2_isCheaperToFail_7 : decode cX2_isCheaperToFail 7 = .ok (.iload_n 1, 1) := by decide +kernel
theorem dX2_isCheaperToFail_8 : decode cX2_isCheaperToFail 8 = .ok (.iaload, 1) := by decide +kernel
theorem dX2_isCheaperToFail_9 : decode cX2_isCheaperToFail 9 = .ok (.aload_n 0, 1) := by decide +kernel
theorem dX2_isCheaperToFail_10 : decode cX2_isCheaperToFail 10 = .ok (.getfield 15, 3) := by decide +kernel
theorem dX2_isCheaperToFail_13 : decode cX2_isCheaperToFail 13 = .ok (.iload_n 1, 1) := by decide +kernel
theorem dX2_isCheaperToFail_14 : decode cX2_isCheaperToFail 14 = .ok (.iaload, 1) := by decide +kernel
theorem dX2_isCheaperToFail_15 : decode cX2_isCheaperToFail 15 = .ok (.iconst 2, 1) := by decide +kernel
theorem dX2_isCheaperToFail_16 : decode cX2_isCheaperToFail 16 = .ok (.iadd, 1) := by decide +kernel
theorem dX2_isCheaperToFail_17 : decode cX2_isCheaperToFail 17 = .ok (.imul, 1) := by decide +kernel
theorem dX2_isCheaperToFail_18 : decode cX2_isCheaperToFail 18 = .ok (.aload_n 0, 1) := by decide +kernel
theorem dX2_isCheaperToFail_19 : decode cX2_isCheaperToFail 19 = .ok (.getfield 18, 3) := by decide +kernel
theorem dX2_isCheaperToFail_22 : decode cX2_isCheaperToFail 22 = .ok (.iload_n 2, 1) := by decide +kernel
theorem dX2_isCheaperToFail_23 : decode cX2_isCheaperToFail 23 = .ok (.iaload, 1) := by decide +kernel
theorem dX2_isCheaperToFail_24 : decode cX2_isCheaperToFail 24 = .ok (.iconst 1, 1) := by decide +kernel
theorem dX2_isCheaperToFail_25 : decode cX2_isCheaperToFail 25 = .ok (.iadd, 1) := by decide +kernel
theorem dX2_isCheaperToFail_26 : decode cX2_isCheaperToFail 26 = .ok (.imul, 1) := by decide +kernel
theorem dX2_isCheaperToFail_27 : decode cX2_isCheaperToFail 27 = .ok (.aload_n 0, 1) := by decide +kernel
theorem dX2_isCheaperToFail_28 : decode cX2_isCheaperToFail 28 = .ok (.getfield 33, 3) := by decide +kernel
theorem dX2_isCheaperToFail_31 : decode cX2_isCheaperToFail 31 = .ok (.getfield 70, 3) := by decide +kernel
theorem dX2_isCheaperToFail_34 : decode cX2_isCheaperToFail 34 = .ok (.iload_n 2, 1) := by decide +kernel
theorem dX2_isCheaperToFail_35 : decode cX2_isCheaperToFail 35 = .ok (.iaload, 1) := by decide +kernel
theorem dX2_isCheaperToFail_36 : decode cX2_isCheaperToFail 36 = .ok (.aload_n 0, 1) := by decide +kernel
theorem dX2_isCheaperToFail_37 : decode cX2_isCheaperToFail 37 = .ok (.getfield 15, 3) := by decide +kernel
theorem dX2_isCheaperToFail_40 : decode cX2_isCheaperToFail 40 = .ok (.iload_n 2, 1) := by decide +kernel
theorem dX2_isCheaperToFail_41 : decode cX2_isCheaperToFail 41 = .ok (.iaload, 1) := by decide +kernel
theorem dX2_isCheaperToFail_42 : decode cX2_isCheaperToFail 42 = .ok (.iconst 2, 1) := by decide +kernel
theorem dX2_isCheaperToFail_43 : decode cX2_isCheaperToFail 43 = .ok (.iadd, 1) := by decide +kernel
theorem dX2_isCheaperToFail_44 : decode cX2_isCheaperToFail 44 = .ok (.imul, 1) := by decide +kernel
theorem dX2_isCheaperToFail_45 : decode cX2_isCheaperToFail 45 = .ok (.aload_n 0, 1) := by decide +kernel
theorem dX2_isCheaperToFail_46 : decode cX2_isCheaperToFail 46 = .ok (.getfield 18, 3) := by decide +kernel
theorem dX2_isCheaperToFail_49 : decode cX2_isCheaperToFail 49 = .ok (.iload_n 1, 1) := by decide +kernel
theorem dX2_isCheaperToFail_50 : decode cX2_isCheaperToFail 50 = .ok (.iaload, 1) := by decide +kernel
theorem dX2_isCheaperToFail_51 : decode cX2_isCheaperToFail 51 = .ok (.iconst 1, 1) := by decide +kernel
theorem dX2_isCheaperToFail_52 : decode cX2_isCheaperToFail 52 = .ok (.iadd, 1) := by decide +kernel
theorem dX2_isCheaperToFail_53 : decode cX2_isCheaperToFail 53 = .ok (.imul, 1) := by decide +kernel
theorem dX2_isCheaperToFail_54 : decode cX2_isCheaperToFail 54 = .ok (.if_icmp .ge 7, 3) := by decide +kernel
theorem dX2_isCheaperToFail_57 : decode cX2_isCheaperToFail 57 = .ok (.iconst 1, 1) := by decide +kernel
theorem dX2_isCheaperToFail_58 : decode cX2_isCheaperToFail 58 = .ok (.goto 4, 3) := by decide +kernel
theorem dX2_isCheaperToFail_61 : decode cX2_isCheaperToFail 61 = .ok (.iconst 0, 1) := by decide +kernel
theorem dX2_isCheaperToFail_62 : decode cX2_isCheaperToFail 62 = .ok (.ireturn, 1) := by decide +kernel
theorem dX2_readIntoNewOrder_0 : decode cX2_readIntoNewOrder 0 = .ok (.iload_n 1, 1) := by decide +kernel
theorem dX2_readIntoNewOrder_1 : decode cX2_readIntoNewOrder 1 = .ok (.istore_n 2, 1) := by decide +kernel
theorem dX2_readIntoNewOrder_2 : decode cX2_readIntoNewOrder 2 = .ok (.iconst 0, 1) := by decide +kernel
theorem dX2_readIntoNewOrder_3 : decode cX2_readIntoNewOrder 3 = .ok (.istore_n 3, 1) := by decide +kernel
theorem dX2_readIntoNewOrder_4 : decode cX2_readIntoNewOrder 4 = .ok (.iconst 0, 1) := by decide +kernel
theorem dX2_readIntoNewOrder_5 : decode cX2_readIntoNewOrder 5 = .ok (.istore 4, 2) := by decide +kernel
theorem dX2_readIntoNewOrder_7 : decode cX2_readIntoNewOrder 7 = .ok (.iload 4, 2) := by decide +kernel
theorem dX2_readIntoNewOrder_9 : decode cX2_readIntoNewOrder 9 = .ok (.aload_n 0, 1) := by decide +kernel
theorem dX2_readIntoNewOrder_10 : decode cX2_readIntoNewOrder 10 = .ok (.getfield 49, 3) := by decide +kernel
theorem dX2_readIntoNewOrder_13 : decode cX2_readIntoNewOrder 13 = .ok (.if_icmp .ge 56, 3) := by decide +kernel
theorem dX2_readIntoNewOrder_16 : decode cX2_readIntoNewOrder 16 = .ok (.iload_n 2, 1) := by decide +kernel
theorem dX2_readIntoNewOrder_17 : decode cX2_readIntoNewOrder 17 = .ok (.bipush 10, 2) := by decide +kernel
theorem dX2_readIntoNewOrder_19 : decode cX2_readIntoNewOrder 19 = .ok (.irem, 1) := by decide +kernel
theorem dX2_readIntoNewOrder_20 : decode cX2_readIntoNewOrder 20 = .ok (.istore 5, 2) := by decide +kernel
theorem dX2_readIntoNewOrder_22 : decode cX2_readIntoNewOrder 22 = .ok (.iload_n 2, 1) := by decide +kernel
theorem dX2_readIntoNewOrder_23 : decode cX2_readIntoNewOrder 23 = .ok (.bipush 10, 2) := by decide +kernel
theorem dX2_readIntoNewOrder_25 : decode cX2_readIntoNewOrder 25 = .ok (.idiv, 1) := by decide +kernel
theorem dX2_readIntoNewOrder_26 : decode cX2_readIntoNewOrder 26 = .ok (.istore_n 2, 1) := by decide +kernel
theorem dX2_readIntoNewOrder_27 : decode cX2_readIntoNewOrder 27 = .ok (.iload 5, 2) := by decide +kernel
theorem dX2_readIntoNewOrder_29 : decode cX2_readIntoNewOrder 29 = .ok (.aload_n 0, 1) := by decide +kernel
theorem dX2_readIntoNewOrder_30 : decode cX2_readIntoNewOrder 30 = .ok (.getfield 49, 3) := by decide +kernel
theorem dX2_readIntoNewOrder_33 : decode cX2_readIntoNewOrder 33 = .ok (.if_icmp .ge 12, 3) := by decide +kernel
theorem dX2_readIntoNewOrder_36 : decode cX2_readIntoNewOrder 36 = .ok (.iload_n 3, 1) := by decide +kernel
theorem dX2_readIntoNewOrder_37 : decode cX2_readIntoNewOrder 37 = .ok (.iconst 1, 1) := by decide +kernel
theorem dX2_readIntoNewOrder_38 : decode cX2_readIntoNewOrder 38 = .ok (.iload 5, 2) := by decide +kernel
theorem dX2_readIntoNewOrder_40 : decode cX2_readIntoNewOrder 40 = .ok (.ishl, 1) := by decide +kernel
theorem dX2_readIntoNewOrder_41 : decode cX2_readIntoNewOrder 41 = .ok (.iand, 1) := by decide +kernel
theorem dX2_readIntoNewOrder_42 : decode cX2_readIntoNewOrder 42 = .ok (.ifCond .eq 5, 3) := by decide +kernel
theorem dX2_readIntoNewOrder_45 : decode cX2_readIntoNewOrder 45 = .ok (.iconst 0, 1) := by decide +kernel
theorem dX2_readIntoNewOrder_46 : decode cX2_readIntoNewOrder 46 = .ok (.ireturn, 1) := by decide +kernel
theorem dX2_readIntoNewOrder_47 : decode cX2_readIntoNewOrder 47 = .ok (.iload_n 3, 1) := by decide +kernel
theorem dX2_readIntoNewOrder_48 : decode cX2_readIntoNewOrder 48 = .ok (.iconst 1, 1) := by decide +kernel
theorem dX2_readIntoNewOrder_49 : decode cX2_readIntoNewOrder 49 = .ok (.iload 5, 2) := by decide +kernel
theorem dX2_readIntoNewOrder_51 : decode cX2_readIntoNewOrder 51 = .ok (.ishl, 1) := by decide +kernel
theorem dX2_readIntoNewOrder_52 : decode cX2_readIntoNewOrder 52 = .ok (.ior, 1) := by decide +kernel
theorem dX2_readIntoNewOrder_53 : decode cX2_readIntoNewOrder 53 = .ok (.istore_n 3, 1) := by decide +kernel
theorem dX2_readIntoNewOrder_54 : decode cX2_readIntoNewOrder 54 = .ok (.aload_n 0, 1) := by decide +kernel
theorem dX2_readIntoNewOrder_55 : decode cX2_readIntoNewOrder 55 = .ok (.getfield 24, 3) := by decide +kernel
theorem dX2_readIntoNewOrder_58 : decode cX2_readIntoNewOrder 58 = .ok (.iload 4, 2) := by decide +kernel
theorem dX2_readIntoNewOrder_60 : decode cX2_readIntoNewOrder 60 = .ok (.iload 5, 2) := by decide +kernel
theorem dX2_readIntoNewOrder_62 : decode cX2_readIntoNewOrder 62 = .ok (.iastore, 1) := by decide +kernel
theorem dX2_readIntoNewOrder_63 : decode cX2_readIntoNewOrder 63 = .ok (.iinc 4 1, 3) := by decide +kernel
theorem dX2_readIntoNewOrder_66 : decode cX2_readIntoNewOrder 66 = .ok (.goto (-59), 3) := by decide +kernel
theorem dX2_readIntoNewOrder_69 : decode cX2_readIntoNewOrder 69 = .ok (.iload_n 2, 1) := by decide +kernel
theorem dX2_readIntoNewOrder_70 : decode cX2_readIntoNewOrder 70 = .ok (.ifCond .ne 7, 3) := by decide +kernel
theorem dX2_readIntoNewOrder_73 : decode cX2_readIntoNewOrder 73 = .ok (.iconst 1, 1) := by decide +kernel
theorem dX2_readIntoNewOrder_74 : decode cX2_readIntoNewOrder 74 = .ok (.goto 4, 3) := by decide +kernel
theorem dX2_readIntoNewOrder_77 : decode cX2_readIntoNewOrder 77 = .ok (.iconst 0, 1) := by decide +kernel
theorem dX2_readIntoNewOrder_78 : decode cX2_readIntoNewOrder 78 = .ok (.ireturn, 1) := by decide +kernel
theorem dX2_takeNewOrder_0 : decode cX2_takeNewOrder 0 = .ok (.iconst 0, 1) := by decide +kernel
theorem dX2_takeNewOrder_1 : decode cX2_takeNewOrder 1 = .ok (.istore_n 1, 1) := by decide +kernel
theorem dX2_takeNewOrder_2 : decode cX2_takeNewOrder 2 = .ok (.iconst 0, 1) := by decide +kernel
theorem dX2_takeNewOrder_3 : decode cX2_takeNewOrder 3 = .ok (.istore_n 2, 1) := by decide +kernel
theorem dX2_takeNewOrder_4 : decode cX2_takeNewOrder 4 = .ok (.iload_n 2, 1) := by decide +kernel
theorem dX2_takeNewOrder_5 : decode cX2_takeNewOrder 5 = .ok (.aload_n 0, 1) := by decide +kernel
theorem dX2_takeNewOrder_6 : decode cX2_takeNewOrder 6 = .ok (.getfield 49, 3) := by decide +kernel
theorem dX2_takeNewOrder_9 : decode cX2_takeNewOrder 9 = .ok (.if_icmp .ge 44, 3) := by decide +kernel
theorem dX2_takeNewOrder_12 : decode cX2_takeNewOrder 12 = .ok (.iload_n 1, 1) := by decide +kernel
theorem dX2_takeNewOrder_13 : decode cX2_takeNewOrder 13 = .ok (.aload_n 0, 1) := by decide +kernel
theorem dX2_takeNewOrder_14 : decode cX2_takeNewOrder 14 = .ok (.getfield 21, 3) := by decide +kernel
theorem dX2_takeNewOrder_17 : decode cX2_takeNewOrder 17 = .ok (.iload_n 2, 1) := by decide +kernel
theorem dX2_takeNewOrder_18 : decode cX2_takeNewOrder 18 = .ok (.iaload, 1) := by decide +kernel
theorem dX2_takeNewOrder_19 : decode cX2_takeNewOrder 19 = .ok (.aload_n 0, 1) := by decide +kernel
theorem dX2_takeNewOrder_20 : decode cX2_takeNewOrder 20 = .ok (.getfield 24, 3) := by decide +kernel
theorem dX2_takeNewOrder_23 : decode cX2_takeNewOrder 23 = .ok (.iload_n 2, 1) := by decide +kernel
theorem dX2_takeNewOrder_24 : decode cX2_takeNewOrder 24 = .ok (.iaload, 1) := by decide +kernel
theorem dX2_takeNewOrder_25 : decode cX2_takeNewOrder 25 = .ok (.if_icmp .eq 7, 3) := by decide +kernel
theorem dX2_takeNewOrder_28 : decode cX2_takeNewOrder 28 = .ok (.iconst 1, 1) := by decide +kernel
theorem dX2_takeNewOrder_29 : decode cX2_takeNewOrder 29 = .ok (.goto 4, 3) := by decide +kernel
theorem dX2_takeNewOrder_32 : decode cX2_takeNewOrder 32 = .ok (.iconst 0, 1) := by decide +kernel
theorem dX2_takeNewOrder_33 : decode cX2_takeNewOrder 33 = .ok (.ior, 1) := by decide +kernel
theorem dX2_takeNewOrder_34 : decode cX2_takeNewOrder 34 = .ok (.istore_n 1, 1) := by decide +kernel
theorem dX2_takeNewOrder_35 : decode cX2_takeNewOrder 35 = .ok (.aload_n 0, 1) := by decide +kernel
theorem dX2_takeNewOrder_36 : decode cX2_takeNewOrder 36 = .ok (.getfield 21, 3) := by decide +kernel
theorem dX2_takeNewOrder_39 : decode cX2_takeNewOrder 39 = .ok (.iload_n 2, 1) := by decide +kernel
theorem dX2_takeNewOrder_40 : decode cX2_takeNewOrder 40 = .ok (.aload_n 0, 1) := by decide +kernel
theorem dX2_takeNewOrder_41 : decode cX2_takeNewOrder 41 = .ok (.getfield 24, 3) := by decide +kernel
theorem dX2_takeNewOrder_44 : decode cX2_takeNewOrder 44 = .ok (.iload_n 2, 1) := by decide +kernel
theorem dX2_takeNewOrder_45 : decode cX2_takeNewOrder 45 = .ok (.iaload, 1) := by decide +kernel
theorem dX2_takeNewOrder_46 : decode cX2_takeNewOrder 46 = .ok (.iastore, 1) := by decide +kernel
theorem dX2_takeNewOrder_47 : decode cX2_takeNewOrder 47 = .ok (.iinc 2 1, 3) := by decide +kernel
theorem dX2_takeNewOrder_50 : decode cX2_takeNewOrder 50 = .ok (.goto (-46), 3) := by decide +kernel
theorem dX2_takeNewOrder_53 : decode cX2_takeNewOrder 53 = .ok (.iload_n 1, 1) := by decide +kernel
theorem dX2_takeNewOrder_54 : decode cX2_takeNewOrder 54 = .ok (.ireturn, 1) := by decide +kernel
theorem dX2_cheapestFixedOrder_0 : decode cX2_cheapestFixedOrder 0 = .ok (.aload_n 0, 1) := by decide +kernel
theorem dX2_cheapestFixedOrder_1 : decode cX2_cheapestFixedOrder 1 = .ok (.invokevirtual 91, 3) := by decide +kernel
theorem dX2_cheapestFixedOrder_4 : decode cX2_cheapestFixedOrder 4 = .ok (.iconst 1, 1) := by decide +kernel
theorem dX2_cheapestFixedOrder_5 : decode cX2_cheapestFixedOrder 5 = .ok (.aload_n 0, 1) := by decide +kernel
theorem dX2_cheapestFixedOrder_6 : decode cX2_cheapestFixedOrder 6 = .ok (.getfield 49, 3) := by decide +kernel
theorem dX2_cheapestFixedOrder_9 : decode cX2_cheapestFixedOrder 9 = .ok (.ishl, 1) := by decide +kernel
theorem dX2_cheapestFixedOrder_10 : decode cX2_cheapestFixedOrder 10 = .ok (.istore_n 1, 1) := by decide +kernel
theorem dX2_cheapestFixedOrder_11 : decode cX2_cheapestFixedOrder 11 = .ok (.aload_n 0, 1) := by decide +kernel
theorem dX2_cheapestFixedOrder_12 : decode cX2_cheapestFixedOrder 12 = .ok (.getfield 30, 3) := by decide +kernel
theorem dX2_cheapestFixedOrder_15 : decode cX2_cheapestFixedOrder 15 = .ok (.ldc 96, 2) := by decide +kernel
theorem dX2_cheapestFixedOrder_17 : decode cX2_cheapestFixedOrder 17 = .ok (.invokestatic 37, 3) := by decide +kernel
theorem dX2_cheapestFixedOrder_20 : decode cX2_cheapestFixedOrder 20 = .ok (.aload_n 0, 1) := by decide +kernel
theorem dX2_cheapestFixedOrder_21 : decode cX2_cheapestFixedOrder 21 = .ok (.getfield 30, 3) := by decide +kernel
theorem dX2_cheapestFixedOrder_24 : decode cX2_cheapestFixedOrder 24 = .ok (.iconst 0, 1) := by decide +kernel
theorem dX2_cheapestFixedOrder_25 : decode cX2_cheapestFixedOrder 25 = .ok (.iconst 0, 1) := by decide +kernel
theorem dX2_cheapestFixedOrder_26 : decode cX2_cheapestFixedOrder 26 = .ok (.iastore, 1) := by decide +kernel
theorem dX2_cheapestFixedOrder_27 : decode cX2_cheapestFixedOrder 27 = .ok (.iconst 0, 1) := by decide +kernel
theorem dX2_cheapestFixedOrder_28 : decode cX2_cheapestFixedOrder 28 = .ok (.istore_n 2, 1) := by decide +kernel
theorem dX2_cheapestFixedOrder_29 : decode cX2_cheapestFixedOrder 29 = .ok (.iload_n 2, 1) := by decide +kernel
theorem dX2_cheapestFixedOrder_30 : decode cX2_cheapestFixedOrder 30 = .ok (.iload_n 1, 1) := by decide +kernel
theorem dX2_cheapestFixedOrder_31 : decode cX2_cheapestFixedOrder 31 = .ok (.iconst 1, 1) := by decide +kernel
theorem dX2_cheapestFixedOrder_32 : decode cX2_cheapestFixedOrder 32 = .ok (.isub, 1) := by decide +kernel
theorem dX2_cheapestFixedOrder_33 : decode cX2_cheapestFixedOrder 33 = .ok (.if_icmp .ge 87, 3) := by decide +kernel
theorem dX2_cheapestFixedOrder_36 : decode cX2_cheapestFixedOrder 36 = .ok (.aload_n 0, 1) := by decide +kernel
theorem dX2_cheapestFixedOrder_37 : decode cX2_cheapestFixedOrder 37 = .ok (.iload_n 2, 1) := by decide +kernel
theorem dX2_cheapestFixedOrder_38 : decode cX2_cheapestFixedOrder 38 = .ok (.invokevirtual 97, 3) := by decide +kernel
theorem dX2_cheapestFixedOrder_41 : decode cX2_cheapestFixedOrder 41 = .ok (.istore_n 3, 1) := by decide +kernel
theorem dX2_cheapestFixedOrder_42 : decode cX2_cheapestFixedOrder 42 = .ok (.iconst 0, 1) := by decide +kernel
theorem dX2_cheapestFixedOrder_43 : decode cX2_cheapestFixedOrder 43 = .ok (.istore 4, 2) := by decide +kernel
theorem dX2_cheapestFixedOrder_45 : decode cX2_cheapestFixedOrder 45 = .ok (.iload 4, 2) := by decide +kernel
theorem dX2_cheapestFixedOrder_47 : decode cX2_cheapestFixedOrder 47 = .ok (.aload_n 0, 1) := by decide +kernel
theorem dX2_cheapestFixedOrder_48 : decode cX2_cheapestFixedOrder 48 = .ok (.getfield 49, 3) := by decide +kernel
theorem dX2_cheapestFixedOrder_51 : decode cX2_cheapestFixedOrder 51 = .ok (.if_icmp .ge 63, 3) := by decide +kernel
theorem dX2_cheapestFixedOrder_54 : decode cX2_cheapestFixedOrder 54 = .ok (.iload_n 2, 1) := by decide +kernel
theorem dX2_cheapestFixedOrder_55 : decode cX2_cheapestFixedOrder 55 = .ok (.iconst 1, 1) := by decide +kernel
theorem dX2_cheapestFixedOrder_56 : decode cX2_cheapestFixedOrder 56 = .ok (.iload 4, 2) := by decide +kernel
theorem dX2_cheapestFixedOrder_58 : decode cX2_cheapestFixedOrder 58 = .ok (.ishl, 1) := by decide +kernel
theorem dX2_cheapestFixedOrder_59 : decode cX2_cheapestFixedOrder 59 = .ok (.ior, 1) := by decide +kernel
theorem dX2_cheapestFixedOrder_60 : decode cX2_cheapestFixedOrder 60 = .ok (.istore 5, 2) := by decide +kernel
theorem dX2_cheapestFixedOrder_62 : decode cX2_cheapestFixedOrder 62 = .ok (.iload 5, 2) := by decide +kernel
theorem dX2_cheapestFixedOrder_64 : decode cX2_cheapestFixedOrder 64 = .ok (.iload_n 2, 1) := by decide +kernel
theorem dX2_cheapestFixedOrder_65 : decode cX2_cheapestFixedOrder 65 = .ok (.if_icmp .eq 43, 3) := by decide +kernel
theorem dX2_cheapestFixedOrder_68 : decode cX2_cheapestFixedOrder 68 = .ok (.aload_n 0, 1) := by decide +kernel
theorem dX2_cheapestFixedOrder_69 : decode cX2_cheapestFixedOrder 69 = .ok (.getfield 30, 3) := by decide +kernel
theorem dX2_cheapestFixedOrder_72 : decode cX2_cheapestFixedOrder 72 = .ok (.iload_n 2, 1) := by decide +kernel
theorem dX2_cheapestFixedOrder_73 : decode cX2_cheapestFixedOrder 73 = .ok (.iaload, 1) := by decide +kernel
theorem dX2_cheapestFixedOrder_74 : decode cX2_cheapestFixedOrder 74 = .ok (.iload_n 3, 1) := by decide +kernel
theorem dX2_cheapestFixedOrder_75 : decode cX2_cheapestFixedOrder 75 = .ok (.aload_n 0, 1) := by decide +kernel
theorem dX2_cheapestFixedOrder_76 : decode cX2_cheapestFixedOrder 76 = .ok (.getfield 33, 3) := by decide +kernel
theorem dX2_cheapestFixedOrder_79 : decode cX2_cheapestFixedOrder 79 = .ok (.getfield 70, 3) := by decide +kernel
theorem dX2_cheapestFixedOrder_82 : decode cX2_cheapestFixedOrder 82 = .ok (.iload 4, 2) := by decide +kernel
theorem dX2_cheapestFixedOrder_84 : decode cX2_cheapestFixedOrder 84 = .ok (.iaload, 1) := by decide +kernel
theorem dX2_cheapestFixedOrder_85 : decode cX2_cheapestFixedOrder 85 = .ok (.imul, 1) := by decide +kernel
theorem dX2_cheapestFixedOrder_86 : decode cX2_cheapestFixedOrder 86 = .ok (.iadd, 1) := by decide +kernel
theorem dX2_cheapestFixedOrder_87 : decode cX2_cheapestFixedOrder 87 = .ok (.istore 6, 2) := by decide +kernel
theorem dX2_cheapestFixedOrder_89 : decode cX2_cheapestFixedOrder 89 = .ok (.aload_n 0, 1) := by decide +kernel
theorem dX2_cheapestFixedOrder_90 : decode cX2_cheapestFixedOrder 90 = .ok (.getfield 30, 3) := by decide +kernel
theorem dX2_cheapestFixedOrder_93 : decode cX2_cheapestFixedOrder 93 = .ok (.iload 5, 2) := by decide +kernel
theorem dX2_cheapestFixedOrder_95 : decode cX2_cheapestFixedOrder 95 = .ok (.aload_n 0, 1) := by decide +kernel
theorem dX2_cheapestFixedOrder_96 : decode cX2_cheapestFixedOrder 96 = .ok (.getfield 30, 3) := by decide +kernel
theorem dX2_cheapestFixedOrder_99 : decode cX2_cheapestFixedOrder 99 = .ok (.iload 5, 2) := by decide +kernel
theorem dX2_cheapestFixedOrder_101 : decode cX2_cheapestFixedOrder 101 = .ok (.iaload, 1) := by decide +kernel
theorem dX2_cheapestFixedOrder_102 : decode cX2_cheapestFixedOrder 102 = .ok (.iload 6, 2) := by decide +kernel
theorem dX2_cheapestFixedOrder_104 : decode cX2_cheapestFixedOrder 104 = .ok (.invokestatic 101, 3) := by decide +kernel
theorem dX2_cheapestFixedOrder_107 : decode cX2_cheapestFixedOrder 107 = .ok (.iastore, 1) := by decide +kernel
theorem dX2_cheapestFixedOrder_108 : decode cX2_cheapestFixedOrder 108 = .ok (.iinc 4 1, 3) := by decide +kernel
theorem dX2_cheapestFixedOrder_111 : decode cX2_cheapestFixedOrder 111 = .ok (.goto (-66), 3) := by decide +kernel
theorem dX2_cheapestFixedOrder_114 : decode cX2_cheapestFixedOrder 114 = .ok (.iinc 2 1, 3) := by decide +kernel
theorem dX2_cheapestFixedOrder_117 : decode cX2_cheapestFixedOrder 117 = .ok (.goto (-88), 3) := by decide +kernel
theorem dX2_cheapestFixedOrder_120 : decode cX2_cheapestFixedOrder 120 = .ok (.aload_n 0, 1) := by decide +kernel
theorem dX2_cheapestFixedOrder_121 : decode cX2_cheapestFixedOrder 121 = .ok (.getfield 30, 3) := by decide +kernel
theorem dX2_cheapestFixedOrder_124 : decode cX2_cheapestFixedOrder 124 = .ok (.iload_n 1, 1) := by decide +kernel
theorem dX2_cheapestFixedOrder_125 : decode cX2_cheapestFixedOrder 125 = .ok (.iconst 1, 1) := by decide +kernel
theorem dX2_cheapestFixedOrder_126 : decode cX2_cheapestFixedOrder 126 = .ok (.isub, 1) := by decide +kernel
theorem dX2_cheapestFixedOrder_127 : decode cX2_cheapestFixedOrder 127 = .ok (.iaload, 1) := by decide +kernel
theorem dX2_cheapestFixedOrder_128 : decode cX2_cheapestFixedOrder 128 = .ok (.ireturn, 1) := by decide +kernel
theorem dX2_findFailedTests_0 : decode cX2_findFailedTests 0 = .ok (.iconst 0, 1) := by decide +kernel
theorem dX2_findFailedTests_1 : decode cX2_findFailedTests 1 = .ok (.istore_n 1, 1) := by decide +kernel
theorem dX2_findFailedTests_2 : decode cX2_findFailedTests 2 = .ok (.iload_n 1, 1) := by decide +kernel
theorem dX2_findFailedTests_3 : decode cX2_findFailedTests 3 = .ok (.aload_n 0, 1) := by decide +kernel
theorem dX2_findFailedTests_4 : decode cX2_findFailedTests 4 = .ok (.getfield 54, 3) := by decide +kernel
theorem dX2_findFailedTests_7 : decode cX2_findFailedTests 7 = .ok (.if_icmp .ge 56, 3) := by decide +kernel
theorem dX2_findFailedTests_10 : decode cX2_findFailedTests 10 = .ok (.aload_n 0, 1) := by decide +kernel
theorem dX2_findFailedTests_11 : decode cX2_findFailedTests 11 = .ok (.getfield 27, 3) := by decide +kernel
theorem dX2_findFailedTests_14 : decode cX2_findFailedTests 14 = .ok (.iload_n 1, 1) := by decide +kernel
theorem dX2_findFailedTests_15 : decode cX2_findFailedTests 15 = .ok (.iconst 0, 1) := by decide +kernel
theorem dX2_findFailedTests_16 : decode cX2_findFailedTests 16 = .ok (.iastore, 1) := by decide +kernel
theorem dX2_findFailedTests_17 : decode cX2_findFailedTests 17 = .ok (.iconst 0, 1) := by decide +kernel
theorem dX2_findFailedTests_18 : decode cX2_findFailedTests 18 = .ok (.istore_n 2, 1) := by decide +kernel
theorem dX2_findFailedTests_19 : decode cX2_findFailedTests 19 = .ok (.iload_n 2, 1) := by decide +kernel
theorem dX2_findFailedTests_20 : decode cX2_findFailedTests 20 = .ok (.aload_n 0, 1) := by decide +kernel
theorem dX2_findFailedTests_21 : decode cX2_findFailedTests 21 = .ok (.getfield 49, 3) := by decide +kernel
theorem dX2_findFailedTests_24 : decode cX2_findFailedTests 24 = .ok (.if_icmp .ge 33, 3) := by decide +kernel
theorem dX2_findFailedTests_27 : decode cX2_findFailedTests 27 = .ok (.aload_n 0, 1) := by decide +kernel
theorem dX2_findFailedTests_28 : decode cX2_findFailedTests 28 = .ok (.getfield 33, 3) := by decide +kernel
theorem dX2_findFailedTests_31 : decode cX2_findFailedTests 31 = .ok (.iload_n 1, 1) := by decide +kernel
theorem dX2_findFailedTests_32 : decode cX2_findFailedTests 32 = .ok (.iload_n 2, 1) := by decide +kernel
theorem dX2_findFailedTests_33 : decode cX2_findFailedTests 33 = .ok (.invokevirtual 73, 3) := by decide +kernel
theorem dX2_findFailedTests_36 : decode cX2_findFailedTests 36 = .ok (.ifCond .ne 15, 3) := by decide +kernel
theorem dX2_findFailedTests_39 : decode cX2_findFailedTests 39 = .ok (.aload_n 0, 1) := by decide +kernel
theorem dX2_findFailedTests_40 : decode cX2_findFailedTests 40 = .ok (.getfield 27, 3) := by decide +kernel
theorem dX2_findFailedTests_43 : decode cX2_findFailedTests 43 = .ok (.iload_n 1, 1) := by decide +kernel
theorem dX2_findFailedTests_44 : decode cX2_findFailedTests 44 = .ok (.dup2, 1) := by decide +kernel
theorem dX2_findFailedTests_45 : decode cX2_findFailedTests 45 = .ok (.iaload, 1) := by decide +kernel
theorem dX2_findFailedTests_46 : decode cX2_findFailedTests 46 = .ok (.iconst 1, 1) := by decide +kernel
theorem dX2_findFailedTests_47 : decode cX2_findFailedTests 47 = .ok (.iload_n 2, 1) := by decide +kernel
theorem dX2_findFailedTests_48 : decode cX2_findFailedTests 48 = .ok (.ishl, 1) := by decide +kernel
theorem dX2_findFailedTests_49 : decode cX2_findFailedTests 49 = .ok (.ior, 1) := by decide +kernel
theorem dX2_findFailedTests_50 : decode cX2_findFailedTests 50 = .ok (.iastore, 1) := by decide +kernel
theorem dX2_findFailedTests_51 : decode cX2_findFailedTests 51 = .ok (.iinc 2 1, 3) := by decide +kernel
theorem dX2_findFailedTests_54 : decode cX2_findFailedTests 54 = .ok (.goto (-35), 3) := by decide +kernel
theorem dX2_findFailedTests_57 : decode cX2_findFailedTests 57 = .ok (.iinc 1 1, 3) := by decide +kernel
theorem dX2_findFailedTests_60 : decode cX2_findFailedTests 60 = .ok (.goto (-58), 3) := by decide +kernel
theorem dX2_findFailedTests_63 : decode cX2_findFailedTests 63 = .ok (.return_, 1) := by decide +kernel
theorem dX2_rowsThatPass_0 : decode cX2_rowsThatPass 0 = .ok (.iconst 0, 1) := by decide +kernel
theorem dX2_rowsThatPass_1 : decode cX2_rowsThatPass 1 = .ok (.istore_n 2, 1) := by decide +kernel
theorem dX2_rowsThatPass_2 : decode cX2_rowsThatPass 2 = .ok (.iconst 0, 1) := by decide +kernel
theorem dX2_rowsThatPass_3 : decode cX2_rowsThatPass 3 = .ok (.istore_n 3, 1) := by decide +kernel
theorem dX2_rowsThatPass_4 : decode cX2_rowsThatPass 4 = .ok (.iload_n 3, 1) := by decide +kernel
theorem dX2_rowsThatPass_5 : decode cX2_rowsThatPass 5 = .ok (.aload_n 0, 1) := by decide +kernel
theorem dX2_rowsThatPass_6 : decode cX2_rowsThatPass 6 = .ok (.getfield 54, 3) := by decide +kernel
theorem dX2_rowsThatPass_9 : decode cX2_rowsThatPass 9 = .ok (.if_icmp .ge 23, 3) := by decide +kernel
theorem dX2_rowsThatPass_12 : decode cX2_rowsThatPass 12 = .ok (.aload_n 0, 1) := by decide +kernel
theorem dX2_rowsThatPass_13 : decode cX2_rowsThatPass 13 = .ok (.getfield 27, 3) := by decide +kernel
theorem dX2_rowsThatPass_16 : decode cX2_rowsThatPass 16 = .ok (.iload_n 3, 1) := by decide +kernel
theorem dX2_rowsThatPass_17 : decode cX2_rowsThatPass 17 = .ok (.iaload, 1) := by decide +kernel
theorem dX2_rowsThatPass_18 : decode cX2_rowsThatPass 18 = .ok (.iload_n 1, 1) := by decide +kernel
theorem dX2_rowsThatPass_19 : decode cX2_rowsThatPass 19 = .ok (.iand, 1) := by decide +kernel
theorem dX2_rowsThatPass_20 : decode cX2_rowsThatPass 20 = .ok (.ifCond .ne 6, 3) := by decide +kernel
theorem dX2_rowsThatPass_23 : decode cX2_rowsThatPass 23 = .ok (.iinc 2 1, 3) := by decide +kernel
theorem dX2_rowsThatPass_26 : decode cX2_rowsThatPass 26 = .ok (.iinc 3 1, 3) := by decide +kernel
theorem dX2_rowsThatPass_29 : decode cX2_rowsThatPass 29 = .ok (.goto (-25), 3) := by decide +kernel
theorem dX2_rowsThatPass_32 : decode cX2_rowsThatPass 32 = .ok (.iload_n 2, 1) := by decide +kernel
theorem dX2_rowsThatPass_33 : decode cX2_rowsThatPass 33 = .ok (.ireturn, 1) := by decide +kernel
theorem dX3_init_0 : decode cX3_init 0 = .ok (.aload_n 0, 1) := by decide +kernel
theorem dX3_init_1 : decode cX3_init 1 = .ok (.invokespecial 3, 3) := by decide +kernel
theorem dX3_init_4 : decode cX3_init 4 = .ok (.aload_n 0, 1) := by decide +kernel
theorem dX3_init_5 : decode cX3_init 5 = .ok (.sipush 150, 3) := by decide +kernel
theorem dX3_init_8 : decode cX3_init 8 = .ok (.newarray .int, 2) := by decide +kernel
theorem dX3_init_10 : decode cX3_init 10 = .ok (.putfield 9, 3) := by decide +kernel
theorem dX3_init_13 : decode cX3_init 13 = .ok (.aload_n 0, 1) := by decide +kernel
theorem dX3_init_14 : decode cX3_init 14 = .ok (.iconst 4, 1) := by decide +kernel
theorem dX3_init_15 : decode cX3_init 15 = .ok (.newarray .int, 2) := by decide +kernel
theorem dX3_init_17 : decode cX3_init 17 = .ok (.putfield 15, 3) := by decide +kernel
theorem dX3_init_20 : decode cX3_init 20 = .ok (.aload_n 0, 1) := by decide +kernel
theorem dX3_init_21 : decode cX3_init 21 = .ok (.iconst 4, 1) := by decide +kernel
theorem dX3_init_22 : decode cX3_init 22 = .ok (.newarray .int, 2) := by decide +kernel
theorem dX3_init_24 : decode cX3_init 24 = .ok (.putfield 18, 3) := by decide +kernel
theorem dX3_init_27 : decode cX3_init 27 = .ok (.aload_n 0, 1) := by decide +kernel
theorem dX3_init_28 : decode cX3_init 28 = .ok (.iconst 4, 1) := by decide +kernel
theorem dX3_init_29 : decode cX3_init 29 = .ok (.newarray .int, 2) := by decide +kernel
theorem dX3_init_31 : decode cX3_init 31 = .ok (.putfield 21, 3) := by decide +kernel
theorem dX3_init_34 : decode cX3_init 34 = .ok (.aload_n 0, 1) := by decide +kernel
theorem dX3_init_35 : decode cX3_init 35 = .ok (.iconst 4, 1) := by decide +kernel
theorem dX3_init_36 : decode cX3_init 36 = .ok (.newarray .int, 2) := by decide +kernel
theorem dX3_init_38 : decode cX3_init 38 = .ok (.putfield 24, 3) := by decide +kernel
theorem dX3_init_41 : decode cX3_init 41 = .ok (.return_, 1) := by decide +kernel
theorem dX3_addRow_0 : decode cX3_addRow 0 = .ok (.aload_n 0, 1) := by decide +kernel
theorem dX3_addRow_1 : decode cX3_addRow 1 = .ok (.getfield 27, 3) := by decide +kernel
theorem dX3_addRow_4 : decode cX3_addRow 4 = .ok (.bipush 50, 2) := by decide +kernel
theorem dX3_addRow_6 : decode cX3_addRow 6 = .ok (.if_icmp .lt 5, 3) := by decide +kernel
theorem dX3_addRow_9 : decode cX3_addRow 9 = .ok (.iconst (-1), 1) := by decide +kernel
theorem dX3_addRow_10 : decode cX3_addRow 10 = .ok (.ireturn, 1) := by decide +kernel
theorem dX3_addRow_11 : decode cX3_addRow 11 = .ok (.aload_n 0, 1) := by decide +kernel
theorem dX3_addRow_12 : decode cX3_addRow 12 = .ok (.getfield 27, 3) := by decide +kernel
theorem dX3_addRow_15 : decode cX3_addRow 15 = .ok (.iconst 3, 1) := by decide +kernel
theorem dX3_addRow_16 : decode cX3_addRow 16 = .ok (.imul, 1) := by decide +kernel
theorem dX3_addRow_17 : decode cX3_addRow 17 = .ok (.istore 4, 2) := by decide +kernel
theorem dX3_addRow_19 : decode cX3_addRow 19 = .ok (.aload_n 0, 1) := by decide +kernel
theorem dX3_addRow_20 : decode cX3_addRow 20 = .ok (.getfield 9, 3) := by decide +kernel
theorem dX3_addRow_23 : decode cX3_addRow 23 = .ok (.iload 4, 2) := by decide +kernel
theorem dX3_addRow_25 : decode cX3_addRow 25 = .ok (.iload_n 1, 1) := by decide +kernel
theorem dX3_addRow_26 : decode cX3_addRow 26 = .ok (.iastore, 1) := by decide +kernel
theorem dX3_addRow_27 : decode cX3_addRow 27 = .ok (.aload_n 0, 1) := by decide +kernel
theorem dX3_addRow_28 : decode cX3_addRow 28 = .ok (.getfield 9, 3) := by decide +kernel
theorem dX3_addRow_31 : decode cX3_addRow 31 = .ok (.iload 4, 2) := by decide +kernel
theorem dX3_addRow_33 : decode cX3_addRow 33 = .ok (.iconst 1, 1) := by decide +kernel
theorem dX3_addRow_34 : decode cX3_addRow 34 = .ok (.iadd, 1) := by decide +kernel
theorem dX3_addRow_35 : decode cX3_addRow 35 = .ok (.iload_n 2, 1) := by decide +kernel
theorem dX3_addRow_36 : decode cX3_addRow 36 = .ok (.iastore, 1) := by decide +kernel
theorem dX3_addRow_37 : decode cX3_addRow 37 = .ok (.aload_n 0, 1) := by decide +kernel
theorem dX3_addRow_38 : decode cX3_addRow 38 = .ok (.getfield 9, 3) := by decide +kernel
theorem dX3_addRow_41 : decode cX3_addRow 41 = .ok (.iload 4, 2) := by decide +kernel
theorem dX3_addRow_43 : decode cX3_addRow 43 = .ok (.iconst 2, 1) := by decide +kernel
theorem dX3_addRow_44 : decode cX3_addRow 44 = .ok (.iadd, 1) := by decide +kernel
theorem dX3_addRow_45 : decode cX3_addRow 45 = .ok (.iload_n 3, 1) := by decide +kernel
theorem dX3_addRow_46 : decode cX3_addRow 46 = .ok (.iastore, 1) := by decide +kernel
theorem dX3_addRow_47 : decode cX3_addRow 47 = .ok (.aload_n 0, 1) := by decide +kernel
theorem dX3_addRow_48 : decode cX3_addRow 48 = .ok (.dup, 1) := by decide +kernel
theorem dX3_addRow_49 : decode cX3_addRow 49 = .ok (.getfield 27, 3) := by decide +kernel
theorem dX3_addRow_52 : decode cX3_addRow 52 = .ok (.iconst 1, 1) := by decide +kernel
theorem dX3_addRow_53 : decode cX3_addRow 53 = .ok (.iadd, 1) := by decide +kernel
theorem dX3_addRow_54 : decode cX3_addRow 54 = .ok (.putfield 27, 3) := by decide +kernel
theorem dX3_addRow_57 : decode cX3_addRow 57 = .ok (.aload_n 0, 1) := by decide +kernel
theorem dX3_addRow_58 : decode cX3_addRow 58 = .ok (.getfield 27, 3) := by decide +kernel
theorem dX3_addRow_61 : decode cX3_addRow 61 = .ok (.iconst 1, 1) := by decide +kernel
theorem dX3_addRow_62 : decode cX3_addRow 62 = .ok (.isub, 1) := by decide +kernel
theorem dX3_addRow_63 : decode cX3_addRow 63 = .ok (.ireturn, 1) := by decide +kernel
theorem dX3_addTest_0 : decode cX3_addTest 0 = .ok (.aload_n 0, 1) := by decide +kernel
theorem dX3_addTest_1 : decode cX3_addTest 1 = .ok (.getfield 31, 3) := by decide +kernel
theorem dX3_addTest_4 : decode cX3_addTest 4 = .ok (.iconst 4, 1) := by decide +kernel
theorem dX3_addTest_5 : decode cX3_addTest 5 = .ok (.if_icmp .lt 5, 3) := by decide +kernel
theorem dX3_addTest_8 : decode cX3_addTest 8 = .ok (.iconst (-1), 1) := by decide +kernel
theorem dX3_addTest_9 : decode cX3_addTest 9 = .ok (.ireturn, 1) := by decide +kernel
theorem dX3_addTest_10 : decode cX3_addTest 10 = .ok (.aload_n 0, 1) := by decide +kernel
theorem dX3_addTest_11 : decode cX3_addTest 11 = .ok (.getfield 15, 3) := by decide +kernel
theorem dX3_addTest_14 : decode cX3_addTest 14 = .ok (.aload_n 0, 1) := by decide +kernel
theorem dX3_addTest_15 : decode cX3_addTest 15 = .ok (.getfield 31, 3) := by decide +kernel
theorem dX3_addTest_18 : decode cX3_addTest 18 = .ok (.iload_n 1, 1) := by decide +kernel
theorem dX3_addTest_19 : decode cX3_addTest 19 = .ok (.iastore, 1) := by decide +kernel
theorem dX3_addTest_20 : decode cX3_addTest 20 = .ok (.aload_n 0, 1) := by decide +kernel
theorem dX3_addTest_21 : decode cX3_addTest 21 = .ok (.getfield 18, 3) := by decide +kernel
theorem dX3_addTest_24 : decode cX3_addTest 24 = .ok (.aload_n 0, 1) := by decide +kernel
theorem dX3_addTest_25 : decode cX3_addTest 25 = .ok (.getfield 31, 3) := by decide +kernel
theorem dX3_addTest_28 : decode cX3_addTest 28 = .ok (.iload_n 2, 1) := by decide +kernel
theorem dX3_addTest_29 : decode cX3_addTest 29 = .ok (.iastore, 1) := by decide +kernel
theorem dX3_addTest_30 : decode cX3_addTest 30 = .ok (.aload_n 0, 1) := by decide +kernel
theorem dX3_addTest_31 : decode cX3_addTest 31 = .ok (.getfield 21, 3) := by decide +kernel
theorem dX3_addTest_34 : decode cX3_addTest 34 = .ok (.aload_n 0, 1) := by decide +kernel
theorem dX3_addTest_35 : decode cX3_addTest 35 = .ok (.getfield 31, 3) := by decide +kernel
theorem dX3_addTest_38 : decode cX3_addTest 38 = .ok (.iload_n 3, 1) := by decide +kernel
theorem dX3_addTest_39 : decode cX3_addTest 39 = .ok (.iastore, 1) := by decide +kernel
theorem dX3_addTest_40 : decode cX3_addTest 40 = .ok (.aload_n 0, 1) := by decide +kernel
theorem dX3_addTest_41 : decode cX3_addTest 41 = .ok (.getfield 24, 3) := by decide +kernel
theorem dX3_addTest_44 : decode cX3_addTest 44 = .ok (.aload_n 0, 1) := by decide +kernel
theorem dX3_addTest_45 : decode cX3_addTest 45 = .ok (.getfield 31, 3) := by decide +kernel
theorem dX3_addTest_48 : decode cX3_addTest 48 = .ok (.iload 4, 2) := by decide +kernel
theorem dX3_addTest_50 : decode cX3_addTest 50 = .ok (.iastore, 1) := by decide +kernel
theorem dX3_addTest_51 : decode cX3_addTest 51 = .ok (.aload_n 0, 1) := by decide +kernel
theorem dX3_addTest_52 : decode cX3_addTest 52 = .ok (.dup, 1) := by decide +kernel
theorem dX3_addTest_53 : decode cX3_addTest 53 = .ok (.getfield 31, 3) := by decide +kernel
theorem dX3_addTest_56 : decode cX3_addTest 56 = .ok (.iconst 1, 1) := by decide +kernel
theorem dX3_addTest_57 : decode cX3_addTest 57 = .ok (.iadd, 1) := by decide +kernel
theorem dX3_addTest_58 : decode cX3_addTest 58 = .ok (.putfield 31, 3) := by decide +kernel
theorem dX3_addTest_61 : decode cX3_addTest 61 = .ok (.aload_n 0, 1) := by decide +kernel
theorem dX3_addTest_62 : decode cX3_addTest 62 = .ok (.getfield 31, 3) := by decide +kernel
theorem dX3_addTest_65 : decode cX3_addTest 65 = .ok (.iconst 1, 1) := by decide +kernel
theorem dX3_addTest_66 : decode cX3_addTest 66 = .ok (.isub, 1) := by decide +kernel
theorem dX3_addTest_67 : decode cX3_addTest 67 = .ok (.ireturn, 1) := by decide +kernel
theorem dX3_valueAt_0 : decode cX3_valueAt 0 = .ok (.aload_n 0, 1) := by decide +kernel
theorem dX3_valueAt_1 : decode cX3_valueAt 1 = .ok (.getfield 9, 3) := by decide +kernel
theorem dX3_valueAt_4 : decode cX3_valueAt 4 = .ok (.iload_n 1, 1) := by decide +kernel
theorem dX3_valueAt_5 : decode cX3_valueAt 5 = .ok (.iconst 3, 1) := by decide +kernel
theorem dX3_valueAt_6 : decode cX3_valueAt 6 = .ok (.imul, 1) := by decide +kernel
theorem dX3_valueAt_7 : decode cX3_valueAt 7 = .ok (.iload_n 2, 1) := by decide +kernel
theorem dX3_valueAt_8 : decode cX3_valueAt 8 = .ok (.iadd, 1) := by decide +kernel
theorem dX3_valueAt_9 : decode cX3_valueAt 9 = .ok (.iaload, 1) := by decide +kernel
theorem dX3_valueAt_10 : decode cX3_valueAt 10 = .ok (.ireturn, 1) := by decide +kernel
theorem dX3_passes_0 : decode cX3_passes 0 = .ok (.aload_n 0, 1) := by decide +kernel
theorem dX3_passes_1 : decode cX3_passes 1 = .ok (.iload_n 1, 1) := by decide +kernel
theorem dX3_passes_2 : decode cX3_passes 2 = .ok (.aload_n 0, 1) := by decide +kernel
theorem dX3_passes_3 : decode cX3_passes 3 = .ok (.getfield 15, 3) := by decide +kernel
theorem dX3_passes_6 : decode cX3_passes 6 = .ok (.iload_n 2, 1) := by decide +kernel
theorem dX3_passes_7 : decode cX3_passes 7 = .ok (.iaload, 1) := by decide +kernel
theorem dX3_passes_8 : decode cX3_passes 8 = .ok (.invokevirtual 34, 3) := by decide +kernel
theorem dX3_passes_11 : decode cX3_passes 11 = .ok (.istore_n 3, 1) := by decide +kernel
theorem dX3_passes_12 : decode cX3_passes 12 = .ok (.aload_n 0, 1) := by decide +kernel
theorem dX3_passes_13 : decode cX3_passes 13 = .ok (.getfield 18, 3) := by decide +kernel
theorem dX3_passes_16 : decode cX3_passes 16 = .ok (.iload_n 2, 1) := by decide +kernel
theorem dX3_passes_17 : decode cX3_passes 17 = .ok (.iaload, 1) := by decide +kernel
theorem dX3_passes_18 : decode cX3_passes 18 = .ok (.ifCond .ne 19, 3) := by decide +kernel
theorem dX3_passes_21 : decode cX3_passes 21 = .ok (.iload_n 3, 1) := by decide +kernel
theorem dX3_passes_22 : decode cX3_passes 22 = .ok (.aload_n 0, 1) := by decide +kernel
theorem dX3_passes_23 : decode cX3_passes 23 = .ok (.getfield 21, 3) := by decide +kernel
theorem dX3_passes_26 : decode cX3_passes 26 = .ok (.iload_n 2, 1) := by decide +kernel
theorem dX3_passes_27 : decode cX3_passes 27 = .ok (.iaload, 1) := by decide +kernel
theorem dX3_passes_28 : decode cX3_passes 28 = .ok (.if_icmp .ge 7, 3) := by decide +kernel
theorem dX3_passes_31 : decode cX3_passes 31 = .ok (.iconst 1, 1) := by decide +kernel
theorem dX3_passes_32 : decode cX3_passes 32 = .ok (.goto 4, 3) := by decide +kernel
theorem dX3_passes_35 : decode cX3_passes 35 = .ok (.iconst 0, 1) := by decide +kernel
theorem dX3_passes_36 : decode cX3_passes 36 = .ok (.ireturn, 1) := by decide +kernel
theorem dX3_passes_37 : decode cX3_passes 37 = .ok (.aload_n 0, 1) := by decide +kernel
theorem dX3_passes_38 : decode cX3_passes 38 = .ok (.getfield 18, 3) := by decide +kernel
theorem dX3_passes_41 : decode cX3_passes 41 = .ok (.iload_n 2, 1) := by decide +kernel
theorem dX3_passes_42 : decode cX3_passes 42 = .ok (.iaload, 1) := by decide +kernel
theorem dX3_passes_43 : decode cX3_passes 43 = .ok (.iconst 1, 1) := by decide +kernel
theorem dX3_passes_44 : decode cX3_passes 44 = .ok (.if_icmp .ne 19, 3) := by decide +kernel
theorem dX3_passes_47 : decode cX3_passes 47 = .ok (.iload_n 3, 1) := by decide +kernel
theorem dX3_passes_48 : decode cX3_passes 48 = .ok (.aload_n 0, 1) := by decide +kernel
theorem dX3_passes_49 : decode cX3_passes 49 = .ok (.getfield 21, 3) := by decide +kernel
theorem dX3_passes_52 : decode cX3_passes 52 = .ok (.iload_n 2, 1) := by decide +kernel
theorem dX3_passes_53 : decode cX3_passes 53 = .ok (.iaload, 1) := by decide +kernel
theorem dX3_passes_54 : decode cX3_passes 54 = .ok (.if_icmp .ne 7, 3) := by decide +kernel
theorem dX3_passes_57 : decode cX3_passes 57 = .ok (.iconst 1, 1) := by decide +kernel
theorem dX3_passes_58 : decode cX3_passes 58 = .ok (.goto 4, 3) := by decide +kernel
theorem dX3_passes_61 : decode cX3_passes 61 = .ok (.iconst 0, 1) := by decide +kernel
theorem dX3_passes_62 : decode cX3_passes 62 = .ok (.ireturn, 1) := by decide +kernel
theorem dX3_passes_63 : decode cX3_passes 63 = .ok (.iload_n 3, 1) := by decide +kernel
theorem dX3_passes_64 : decode cX3_passes 64 = .ok (.aload_n 0, 1) := by decide +kernel
theorem dX3_passes_65 : decode cX3_passes 65 = .ok (.getfield 21, 3) := by decide +kernel
theorem dX3_passes_68 : decode cX3_passes 68 = .ok (.iload_n 2, 1) := by decide +kernel
theorem dX3_passes_69 : decode cX3_passes 69 = .ok (.iaload, 1) := by decide +kernel
theorem dX3_passes_70 : decode cX3_passes 70 = .ok (.if_icmp .le 7, 3) := by decide +kernel
theorem dX3_passes_73 : decode cX3_passes 73 = .ok (.iconst 1, 1) := by decide +kernel
theorem dX3_passes_74 : decode cX3_passes 74 = .ok (.goto 4, 3) := by decide +kernel
theorem dX3_passes_77 : decode cX3_passes 77 = .ok (.iconst 0, 1) := by decide +kernel
theorem dX3_passes_78 : decode cX3_passes 78 = .ok (.ireturn, 1) := by decide +kernel
theorem dX3_passesAll_0 : decode cX3_passesAll 0 = .ok (.iconst 0, 1) := by decide +kernel
theorem dX3_passesAll_1 : decode cX3_passesAll 1 = .ok (.istore_n 2, 1) := by decide +kernel
theorem dX3_passesAll_2 : decode cX3_passesAll 2 = .ok (.iload_n 2, 1) := by decide +kernel
theorem dX3_passesAll_3 : decode cX3_passesAll 3 = .ok (.aload_n 0, 1) := by decide +kernel
theorem dX3_passesAll_4 : decode cX3_passesAll 4 = .ok (.getfield 31, 3) := by decide +kernel
theorem dX3_passesAll_7 : decode cX3_passesAll 7 = .ok (.if_icmp .ge 20, 3) := by decide +kernel
theorem dX3_passesAll_10 : decode cX3_passesAll 10 = .ok (.aload_n 0, 1) := by decide +kernel
theorem dX3_passesAll_11 : decode cX3_passesAll 11 = .ok (.iload_n 1, 1) := by decide +kernel
theorem dX3_passesAll_12 : decode cX3_passesAll 12 = .ok (.iload_n 2, 1) := by decide +kernel
theorem dX3_passesAll_13 : decode cX3_passesAll 13 = .ok (.invokevirtual 38, 3) := by decide +kernel
theorem dX3_passesAll_16 : decode cX3_passesAll 16 = .ok (.ifCond .ne 5, 3) := by decide +kernel
theorem dX3_passesAll_19 : decode cX3_passesAll 19 = .ok (.iconst 0, 1) := by decide +kernel
theorem dX3_passesAll_20 : decode cX3_passesAll 20 = .ok (.ireturn, 1) := by decide +kernel
theorem dX3_passesAll_21 : decode cX3_passesAll 21 = .ok (.iinc 2 1, 3) := by decide +kernel
theorem dX3_passesAll_24 : decode cX3_passesAll 24 = .ok (.goto (-22), 3) := by decide +kernel
theorem dX3_passesAll_27 : decode cX3_passesAll 27 = .ok (.iconst 1, 1) := by decide +kernel
theorem dX3_passesAll_28 : decode cX3_passesAll 28 = .ok (.ireturn, 1) := by decide +kernel
theorem dJ9_min_7cf53_0 : decode cJ9_min_7cf53 0 = .ok (.iload_n 0, 1) := by decide +kernel
theorem dJ9_min_7cf53_1 : decode cJ9_min_7cf53 1 = .ok (.iload_n 1, 1) := by decide +kernel
theorem dJ9_min_7cf53_2 : decode cJ9_min_7cf53 2 = .ok (.if_icmp .gt 7, 3) := by decide +kernel
theorem dJ9_min_7cf53_5 : decode cJ9_min_7cf53 5 = .ok (.iload_n 0, 1) := by decide +kernel
theorem dJ9_min_7cf53_6 : decode cJ9_min_7cf53 6 = .ok (.goto 4, 3) := by decide +kernel
theorem dJ9_min_7cf53_9 : decode cJ9_min_7cf53 9 = .ok (.iload_n 1, 1) := by decide +kernel
theorem dJ9_min_7cf53_10 : decode cJ9_min_7cf53 10 = .ok (.ireturn, 1) := by decide +kernel
theorem dJ7_fill_53178_0 : decode cJ7_fill_53178 0 = .ok (.iconst 0, 1) := by decide +kernel
theorem dJ7_fill_53178_1 : decode cJ7_fill_53178 1 = .ok (.istore_n 2, 1) := by decide +kernel
theorem dJ7_fill_53178_2 : decode cJ7_fill_53178 2 = .ok (.aload_n 0, 1) := by decide +kernel
theorem dJ7_fill_53178_3 : decode cJ7_fill_53178 3 = .ok (.arraylength, 1) := by decide +kernel
theorem dJ7_fill_53178_4 : decode cJ7_fill_53178 4 = .ok (.istore_n 3, 1) := by decide +kernel
theorem dJ7_fill_53178_5 : decode cJ7_fill_53178 5 = .ok (.iload_n 2, 1) := by decide +kernel
theorem dJ7_fill_53178_6 : decode cJ7_fill_53178 6 = .ok (.iload_n 3, 1) := by decide +kernel
theorem dJ7_fill_53178_7 : decode cJ7_fill_53178 7 = .ok (.if_icmp .ge 13, 3) := by decide +kernel
theorem dJ7_fill_53178_10 : decode cJ7_fill_53178 10 = .ok (.aload_n 0, 1) := by decide +kernel
theorem dJ7_fill_53178_11 : decode cJ7_fill_53178 11 = .ok (.iload_n 2, 1) := by decide +kernel
theorem dJ7_fill_53178_12 : decode cJ7_fill_53178 12 = .ok (.iload_n 1, 1) := by decide +kernel
theorem dJ7_fill_53178_13 : decode cJ7_fill_53178 13 = .ok (.iastore, 1) := by decide +kernel
theorem dJ7_fill_53178_14 : decode cJ7_fill_53178 14 = .ok (.iinc 2 1, 3) := by decide +kernel
theorem dJ7_fill_53178_17 : decode cJ7_fill_53178 17 = .ok (.goto (-12), 3) := by decide +kernel
theorem dJ7_fill_53178_20 : decode cJ7_fill_53178 20 = .ok (.return_, 1) := by decide +kernel
theorem dL_law_0 : decode cL_law 0 = .ok (.new 7, 3) := by decide +kernel
theorem dL_law_3 : decode cL_law 3 = .ok (.dup, 1) := by decide +kernel
theorem dL_law_4 : decode cL_law 4 = .ok (.invokespecial 9, 3) := by decide +kernel
theorem dL_law_7 : decode cL_law 7 = .ok (.astore_n 1, 1) := by decide +kernel
theorem dL_law_8 : decode cL_law 8 = .ok (.new 10, 3) := by decide +kernel
theorem dL_law_11 : decode cL_law 11 = .ok (.dup, 1) := by decide +kernel
theorem dL_law_12 : decode cL_law 12 = .ok (.invokespecial 12, 3) := by decide +kernel
theorem dL_law_15 : decode cL_law 15 = .ok (.astore_n 2, 1) := by decide +kernel
theorem dL_law_16 : decode cL_law 16 = .ok (.iconst 0, 1) := by decide +kernel
theorem dL_law_17 : decode cL_law 17 = .ok (.istore_n 3, 1) := by decide +kernel
theorem dL_law_18 : decode cL_law 18 = .ok (.iload_n 3, 1) := by decide +kernel
theorem dL_law_19 : decode cL_law 19 = .ok (.aload_n 0, 1) := by decide +kernel
theorem dL_law_20 : decode cL_law 20 = .ok (.arraylength, 1) := by decide +kernel
theorem dL_law_21 : decode cL_law 21 = .ok (.iconst 5, 1) := by decide +kernel
theorem dL_law_22 : decode cL_law 22 = .ok (.isub, 1) := by decide +kernel
theorem dL_law_23 : decode cL_law 23 = .ok (.if_icmp .gt 617, 3) := by decide +kernel
theorem dL_law_26 : decode cL_law 26 = .ok (.aload_n 0, 1) := by decide +kernel
theorem dL_law_27 : decode cL_law 27 = .ok (.iload_n 3, 1) := by decide +kernel
theorem dL_law_28 : decode cL_law 28 = .ok (.iaload, 1) := by decide +kernel
theorem dL_law_29 : decode cL_law 29 = .ok (.bipush 31, 2) := by decide +kernel
theorem dL_law_31 : decode cL_law 31 = .ok (.iand, 1) := by decide +kernel
theorem dL_law_32 : decode cL_law 32 = .ok (.tableswitch 602 0 17 #[88, 141, 184, 217, 230, 243, 266, 289, 312, 345, 378, 421, 454, 487, 520, 533, 556, 579], 88) := by decide +kernel
theorem dL_law_120 : decode cL_law 120 = .ok (.aload_n 1, 1) := by decide +kernel
theorem dL_law_121 : decode cL_law 121 = .ok (.aload_n 0, 1) := by decide +kernel
theorem dL_law_122 : decode cL_law 122 = .ok (.iload_n 3, 1) := by decide +kernel
theorem dL_law_123 : decode cL_law 123 = .ok (.iconst 1, 1) := by decide +kernel
theorem dL_law_124 : decode cL_law 124 = .ok (.iadd, 1) := by decide +kernel
theorem dL_law_125 : decode cL_law 125 = .ok (.iaload, 1) := by decide +kernel
theorem dL_law_126 : decode cL_law 126 = .ok (.aload_n 0, 1) := by decide +kernel
theorem dL_law_127 : decode cL_law 127 = .ok (.iload_n 3, 1) := by decide +kernel
theorem dL_law_128 : decode cL_law 128 = .ok (.iconst 2, 1) := by decide +kernel
theorem dL_law_129 : decode cL_law 129 = .ok (.iadd, 1) := by decide +kernel
theorem dL_law_130 : decode cL_law 130 = .ok (.iaload, 1) := by decide +kernel
theorem dL_law_131 : decode cL_law 131 = .ok (.aload_n 0, 1) := by decide +kernel
theorem dL_law_132 : decode cL_law 132 = .ok (.iload_n 3, 1) := by decide +kernel
theorem dL_law_133 : decode cL_law 133 = .ok (.iconst 3, 1) := by decide +kernel
theorem dL_law_134 : decode cL_law 134 = .ok (.iadd, 1) := by decide +kernel
theorem dL_law_135 : decode cL_law 135 = .ok (.iaload, 1) := by decide +kernel
theorem dL_law_136 : decode cL_law 136 = .ok (.aload_n 0, 1) := by decide +kernel
theorem dL_law_137 : decode cL_law 137 = .ok (.iload_n 3, 1) := by decide +kernel
theorem dL_law_138 : decode cL_law 138 = .ok (.iconst 4, 1) := by decide +kernel
theorem dL_law_139 : decode cL_law 139 = .ok (.iadd, 1) := by decide +kernel
theorem dL_law_140 : decode cL_law 140 = .ok (.iaload, 1) := by decide +kernel
theorem dL_law_141 : decode cL_law 141 = .ok (.invokevirtual 13, 3) := by decide +kernel
theorem dL_law_144 : decode cL_law 144 = .ok (.aload_n 2, 1) := by decide +kernel
theorem dL_law_145 : decode cL_law 145 = .ok (.aload_n 0, 1) := by decide +kernel
theorem dL_law_146 : decode cL_law 146 = .ok (.iload_n 3, 1) := by decide +kernel
theorem dL_law_147 : decode cL_law 147 = .ok (.iconst 1, 1) := by decide +kernel
theorem dL_law_148 : decode cL_law 148 = .ok (.iadd, 1) := by decide +kernel
theorem dL_law_149 : decode cL_law 149 = .ok (.iaload, 1) := by decide +kernel
theorem dL_law_150 : decode cL_law 150 = .ok (.aload_n 0, 1) := by decide +kernel
theorem dL_law_151 : decode cL_law 151 = .ok (.iload_n 3, 1) := by decide +kernel
theorem dL_law_152 : decode cL_law 152 = .ok (.iconst 2, 1) := by decide +kernel
theorem dL_law_153 : decode cL_law 153 = .ok (.iadd, 1) := by decide +kernel
theorem dL_law_154 : decode cL_law 154 = .ok (.iaload, 1) := by decide +kernel
theorem dL_law_155 : decode cL_law 155 = .ok (.aload_n 0, 1) := by decide +kernel
theorem dL_law_156 : decode cL_law 156 = .ok (.iload_n 3, 1) := by decide +kernel
theorem dL_law_157 : decode cL_law 157 = .ok (.iconst 3, 1) := by decide +kernel
theorem dL_law_158 : decode cL_law 158 = .ok (.iadd, 1) := by decide +kernel
theorem dL_law_159 : decode cL_law 159 = .ok (.iaload, 1) := by decide +kernel
theorem dL_law_160 : decode cL_law 160 = .ok (.aload_n 0, 1) := by decide +kernel
theorem dL_law_161 : decode cL_law 161 = .ok (.iload_n 3, 1) := by decide +kernel
theorem dL_law_162 : decode cL_law 162 = .ok (.iconst 4, 1) := by decide +kernel
theorem dL_law_163 : decode cL_law 163 = .ok (.iadd, 1) := by decide +kernel
theorem dL_law_164 : decode cL_law 164 = .ok (.iaload, 1) := by decide +kernel
theorem dL_law_165 : decode cL_law 165 = .ok (.invokevirtual 17, 3) := by decide +kernel
theorem dL_law_168 : decode cL_law 168 = .ok (.if_icmp .eq 466, 3) := by decide +kernel
theorem dL_law_171 : decode cL_law 171 = .ok (.iconst 0, 1) := by decide +kernel
theorem dL_law_172 : decode cL_law 172 = .ok (.ireturn, 1) := by decide +kernel
theorem dL_law_173 : decode cL_law 173 = .ok (.aload_n 1, 1) := by decide +kernel
theorem dL_law_174 : decode cL_law 174 = .ok (.aload_n 0, 1) := by decide +kernel
theorem dL_law_175 : decode cL_law 175 = .ok (.iload_n 3, 1) := by decide +kernel
theorem dL_law_176 : decode cL_law 176 = .ok (.iconst 1, 1) := by decide +kernel
theorem dL_law_177 : decode cL_law 177 = .ok (.iadd, 1) := by decide +kernel
theorem dL_law_178 : decode cL_law 178 = .ok (.iaload, 1) := by decide +kernel
theorem dL_law_179 : decode cL_law 179 = .ok (.aload_n 0, 1) := by decide +kernel
theorem dL_law_180 : decode cL_law 180 = .ok (.iload_n 3, 1) := by decide +kernel
theorem dL_law_181 : decode cL_law 181 = .ok (.iconst 2, 1) := by decide +kernel
theorem dL_law_182 : decode cL_law 182 = .ok (.iadd, 1) := by decide +kernel
theorem dL_law_183 : decode cL_law 183 = .ok (.iaload, 1) := by decide +kernel
theorem dL_law_184 : decode cL_law 184 = .ok (.aload_n 0, 1) := by decide +kernel
theorem dL_law_185 : decode cL_law 185 = .ok (.iload_n 3, 1) := by decide +kernel
theorem dL_law_186 : decode cL_law 186 = .ok (.iconst 3, 1) := by decide +kernel
theorem dL_law_187 : decode cL_law 187 = .ok (.iadd, 1) := by decide +kernel
theorem dL_law_188 : decode cL_law 188 = .ok (.iaload, 1) := by decide +kernel
theorem dL_law_189 : decode cL_law 189 = .ok (.invokevirtual 18, 3) := by decide +kernel
theorem dL_law_192 : decode cL_law 192 = .ok (.aload_n 2, 1) := by decide +kernel
theorem dL_law_193 : decode cL_law 193 = .ok (.aload_n 0, 1) := by decide +kernel
theorem dL_law_194 : decode cL_law 194 = .ok (.iload_n 3, 1) := by decide +kernel
theorem dL_law_195 : decode cL_law 195 = .ok (.iconst 1, 1) := by decide +kernel
theorem dL_law_196 : decode cL_law 196 = .ok (.iadd, 1) := by decide +kernel
theorem dL_law_197 : decode cL_law 197 = .ok (.iaload, 1) := by decide +kernel
theorem dL_law_198 : decode cL_law 198 = .ok (.aload_n 0, 1) := by decide +kernel
theorem dL_law_199 : decode cL_law 199 = .ok (.iload_n 3, 1) := by decide +kernel
theorem dL_law_200 : decode cL_law 200 = .ok (.iconst 2, 1) := by decide +kernel
theorem dL_law_201 : decode cL_law 201 = .ok (.iadd, 1) := by decide +kernel
theorem dL_law_202 : decode cL_law 202 = .ok (.iaload, 1) := by decide +kernel
theorem dL_law_203 : decode cL_law 203 = .ok (.aload_n 0, 1) := by decide +kernel
theorem dL_law_204 : decode cL_law 204 = .ok (.iload_n 3, 1) := by decide +kernel
theorem dL_law_205 : decode cL_law 205 = .ok (.iconst 3, 1) := by decide +kernel
theorem dL_law_206 : decode cL_law 206 = .ok (.iadd, 1) := by decide +kernel
theorem dL_law_207 : decode cL_law 207 = .ok (.iaload, 1) := by decide +kernel
theorem dL_law_208 : decode cL_law 208 = .ok (.invokevirtual 22, 3) := by decide +kernel
theorem dL_law_211 : decode cL_law 211 = .ok (.if_icmp .eq 423, 3) := by decide +kernel
theorem dL_law_214 : decode cL_law 214 = .ok (.iconst 0, 1) := by decide +kernel
theorem dL_law_215 : decode cL_law 215 = .ok (.ireturn, 1) := by decide +kernel
theorem dL_law_216 : decode cL_law 216 = .ok (.aload_n 1, 1) := by decide +kernel
theorem dL_law_217 : decode cL_law 217 = .ok (.aload_n 0, 1) := by decide +kernel
theorem dL_law_218 : decode cL_law 218 = .ok (.iload_n 3, 1) := by decide +kernel
theorem dL_law_219 : decode cL_law 219 = .ok (.iconst 1, 1) := by decide +kernel
theorem dL_law_220 : decode cL_law 220 = .ok (.iadd, 1) := by decide +kernel
theorem dL_law_221 : decode cL_law 221 = .ok (.iaload, 1) := by decide +kernel
theorem dL_law_222 : decode cL_law 222 = .ok (.aload_n 0, 1) := by decide +kernel
theorem dL_law_223 : decode cL_law 223 = .ok (.iload_n 3, 1) := by decide +kernel
theorem dL_law_224 : decode cL_law 224 = .ok (.iconst 2, 1) := by decide +kernel
theorem dL_law_225 : decode cL_law 225 = .ok (.iadd, 1) := by decide +kernel
theorem dL_law_226 : decode cL_law 226 = .ok (.iaload, 1) := by decide +kernel
theorem dL_law_227 : decode cL_law 227 = .ok (.invokevirtual 23, 3) := by decide +kernel
theorem dL_law_230 : decode cL_law 230 = .ok (.aload_n 2, 1) := by decide +kernel
theorem dL_law_231 : decode cL_law 231 = .ok (.aload_n 0, 1) := by decide +kernel
theorem dL_law_232 : decode cL_law 232 = .ok (.iload_n 3, 1) := by decide +kernel
theorem dL_law_233 : decode cL_law 233 = .ok (.iconst 1, 1) := by decide +kernel
theorem dL_law_234 : decode cL_law 234 = .ok (.iadd, 1) := by decide +kernel
theorem dL_law_235 : decode cL_law 235 = .ok (.iaload, 1) := by decide +kernel
theorem dL_law_236 : decode cL_law 236 = .ok (.aload_n 0, 1) := by decide +kernel
theorem dL_law_237 : decode cL_law 237 = .ok (.iload_n 3, 1) := by decide +kernel
theorem dL_law_238 : decode cL_law 238 = .ok (.iconst 2, 1) := by decide +kernel
theorem dL_law_239 : decode cL_law 239 = .ok (.iadd, 1) := by decide +kernel
theorem dL_law_240 : decode cL_law 240 = .ok (.iaload, 1) := by decide +kernel
theorem dL_law_241 : decode cL_law 241 = .ok (.invokevirtual 27, 3) := by decide +kernel
theorem dL_law_244 : decode cL_law 244 = .ok (.if_icmp .eq 390, 3) := by decide +kernel
theorem dL_law_247 : decode cL_law 247 = .ok (.iconst 0, 1) := by decide +kernel
theorem dL_law_248 : decode cL_law 248 = .ok (.ireturn, 1) := by decide +kernel
theorem dL_law_249 : decode cL_law 249 = .ok (.aload_n 1, 1) := by decide +kernel
theorem dL_law_250 : decode cL_law 250 = .ok (.invokevirtual 28, 3) := by decide +kernel
theorem dL_law_253 : decode cL_law 253 = .ok (.aload_n 2, 1) := by decide +kernel
theorem dL_law_254 : decode cL_law 254 = .ok (.invokevirtual 32, 3) := by decide +kernel
theorem dL_law_257 : decode cL_law 257 = .ok (.if_icmp .eq 377, 3) := by decide +kernel
theorem dL_law_260 : decode cL_law 260 = .ok (.iconst 0, 1) := by decide +kernel
theorem dL_law_261 : decode cL_law 261 = .ok (.ireturn, 1) := by decide +kernel
theorem dL_law_262 : decode cL_law 262 = .ok (.aload_n 1, 1) := by decide +kernel
theorem dL_law_263 : decode cL_law 263 = .ok (.invokevirtual 33, 3) := by decide +kernel
theorem dL_law_266 : decode cL_law 266 = .ok (.aload_n 2, 1) := by decide +kernel
theorem dL_law_267 : decode cL_law 267 = .ok (.invokevirtual 36, 3) := by decide +kernel
theorem dL_law_270 : decode cL_law 270 = .ok (.if_icmp .eq 364, 3) := by decide +kernel
theorem dL_law_273 : decode cL_law 273 = .ok (.iconst 0, 1) := by decide +kernel
theorem dL_law_274 : decode cL_law 274 = .ok (.ireturn, 1) := by decide +kernel
theorem dL_law_275 : decode cL_law 275 = .ok (.aload_n 1, 1) := by decide +kernel
theorem dL_law_276 : decode cL_law 276 = .ok (.aload_n 0, 1) := by decide +kernel
theorem dL_law_277 : decode cL_law 277 = .ok (.iload_n 3, 1) := by decide +kernel
theorem dL_law_278 : decode cL_law 278 = .ok (.iconst 1, 1) := by decide +kernel
theorem dL_law_279 : decode cL_law 279 = .ok (.iadd, 1) := by decide +kernel
theorem dL_law_280 : decode cL_law 280 = .ok (.iaload, 1) := by decide +kernel
theorem dL_law_281 : decode cL_law 281 = .ok (.invokevirtual 37, 3) := by decide +kernel
theorem dL_law_284 : decode cL_law 284 = .ok (.aload_n 2, 1) := by decide +kernel
theorem dL_law_285 : decode cL_law 285 = .ok (.aload_n 0, 1) := by decide +kernel
theorem dL_law_286 : decode cL_law 286 = .ok (.iload_n 3, 1) := by decide +kernel
theorem dL_law_287 : decode cL_law 287 = .ok (.iconst 1, 1) := by decide +kernel
theorem dL_law_288 : decode cL_law 288 = .ok (.iadd, 1) := by decide +kernel
theorem dL_law_289 : decode cL_law 289 = .ok (.iaload, 1) := by decide +kernel
theorem dL_law_290 : decode cL_law 290 = .ok (.invokevirtual 41, 3) := by decide +kernel
theorem dL_law_293 : decode cL_law 293 = .ok (.if_icmp .eq 341, 3) := by decide +kernel
theorem dL_law_296 : decode cL_law 296 = .ok (.iconst 0, 1) := by decide +kernel
theorem dL_law_297 : decode cL_law 297 = .ok (.ireturn, 1) := by decide +kernel
theorem dL_law_298 : decode cL_law 298 = .ok (.aload_n 1, 1) := by decide +kernel
theorem dL_law_299 : decode cL_law 299 = .ok (.aload_n 0, 1) := by decide +kernel
theorem dL_law_300 : decode cL_law 300 = .ok (.iload_n 3, 1) := by decide +kernel
theorem dL_law_301 : decode cL_law 301 = .ok (.iconst 1, 1) := by decide +kernel
theorem dL_law_302 : decode cL_law 302 = .ok (.iadd, 1) := by decide +kernel
theorem dL_law_303 : decode cL_law 303 = .ok (.iaload, 1) := by decide +kernel
theorem dL_law_304 : decode cL_law 304 = .ok (.invokevirtual 42, 3) := by decide +kernel
theorem dL_law_307 : decode cL_law 307 = .ok (.aload_n 2, 1) := by decide +kernel
theorem dL_law_308 : decode cL_law 308 = .ok (.aload_n 0, 1) := by decide +kernel
theorem dL_law_309 : decode cL_law 309 = .ok (.iload_n 3, 1) := by decide +kernel
theorem dL_law_310 : decode cL_law 310 = .ok (.iconst 1, 1) := by decide +kernel
theorem dL_law_311 : decode cL_law 311 = .ok (.iadd, 1) := by decide +kernel
theorem dL_law_312 : decode cL_law 312 = .ok (.iaload, 1) := by decide +kernel
theorem dL_law_313 : decode cL_law 313 = .ok (.invokevirtual 46, 3) := by decide +kernel
theorem dL_law_316 : decode cL_law 316 = .ok (.if_icmp .eq 318, 3) := by decide +kernel
theorem dL_law_319 : decode cL_law 319 = .ok (.iconst 0, 1) := by decide +kernel
theorem dL_law_320 : decode cL_law 320 = .ok (.ireturn, 1) := by decide +kernel
theorem dL_law_321 : decode cL_law 321 = .ok (.aload_n 1, 1) := by decide +kernel
theorem dL_law_322 : decode cL_law 322 = .ok (.aload_n 0, 1) := by decide +kernel
theorem dL_law_323 : decode cL_law 323 = .ok (.iload_n 3, 1) := by decide +kernel
theorem dL_law_324 : decode cL_law 324 = .ok (.iconst 1, 1) := by decide +kernel
theorem dL_law_325 : decode cL_law 325 = .ok (.iadd, 1) := by decide +kernel
theorem dL_law_326 : decode cL_law 326 = .ok (.iaload, 1) := by decide +kernel
theorem dL_law_327 : decode cL_law 327 = .ok (.invokevirtual 47, 3) := by decide +kernel
theorem dL_law_330 : decode cL_law 330 = .ok (.aload_n 2, 1) := by decide +kernel
theorem dL_law_331 : decode cL_law 331 = .ok (.aload_n 0, 1) := by decide +kernel
theorem dL_law_332 : decode cL_law 332 = .ok (.iload_n 3, 1) := by decide +kernel
theorem dL_law_333 : decode cL_law 333 = .ok (.iconst 1, 1) := by decide +kernel
theorem dL_law_334 : decode cL_law 334 = .ok (.iadd, 1) := by decide +kernel
theorem dL_law_335 : decode cL_law 335 = .ok (.iaload, 1) := by decide +kernel
theorem dL_law_336 : decode cL_law 336 = .ok (.invokevirtual 50, 3) := by decide +kernel
theorem dL_law_339 : decode cL_law 339 = .ok (.if_icmp .eq 295, 3) := by decide +kernel
theorem dL_law_342 : decode cL_law 342 = .ok (.iconst 0, 1) := by decide +kernel
theorem dL_law_343 : decode cL_law 343 = .ok (.ireturn, 1) := by decide +kernel
theorem dL_law_344 : decode cL_law 344 = .ok (.aload_n 1, 1) := by decide +kernel
theorem dL_law_345 : decode cL_law 345 = .ok (.aload_n 0, 1) := by decide +kernel
theorem dL_law_346 : decode cL_law 346 = .ok (.iload_n 3, 1) := by decide +kernel
theorem dL_law_347 : decode cL_law 347 = .ok (.iconst 1, 1) := by decide +kernel
theorem dL_law_348 : decode cL_law 348 = .ok (.iadd, 1) := by decide +kernel
theorem dL_law_349 : decode cL_law 349 = .ok (.iaload, 1) := by decide +kernel
theorem dL_law_350 : decode cL_law 350 = .ok (.aload_n 0, 1) := by decide +kernel
theorem dL_law_351 : decode cL_law 351 = .ok (.iload_n 3, 1) := by decide +kernel
theorem dL_law_352 : decode cL_law 352 = .ok (.iconst 2, 1) := by decide +kernel
theorem dL_law_353 : decode cL_law 353 = .ok (.iadd, 1) := by decide +kernel
theorem dL_law_354 : decode cL_law 354 = .ok (.iaload, 1) := by decide +kernel
theorem dL_law_355 : decode cL_law 355 = .ok (.invokevirtual 51, 3) := by decide +kernel
theorem dL_law_358 : decode cL_law 358 = .ok (.aload_n 2, 1) := by decide +kernel
theorem dL_law_359 : decode cL_law 359 = .ok (.aload_n 0, 1) := by decide +kernel
theorem dL_law_360 : decode cL_law 360 = .ok (.iload_n 3, 1) := by decide +kernel
theorem dL_law_361 : decode cL_law 361 = .ok (.iconst 1, 1) := by decide +kernel
theorem dL_law_362 : decode cL_law 362 = .ok (.iadd, 1) := by decide +kernel
theorem dL_law_363 : decode cL_law 363 = .ok (.iaload, 1) := by decide +kernel
theorem dL_law_364 : decode cL_law 364 = .ok (.aload_n 0, 1) := by decide +kernel
theorem dL_law_365 : decode cL_law 365 = .ok (.iload_n 3, 1) := by decide +kernel
theorem dL_law_366 : decode cL_law 366 = .ok (.iconst 2, 1) := by decide +kernel
theorem dL_law_367 : decode cL_law 367 = .ok (.iadd, 1) := by decide +kernel
theorem dL_law_368 : decode cL_law 368 = .ok (.iaload, 1) := by decide +kernel
theorem dL_law_369 : decode cL_law 369 = .ok (.invokevirtual 54, 3) := by decide +kernel
theorem dL_law_372 : decode cL_law 372 = .ok (.if_icmp .eq 262, 3) := by decide +kernel
theorem dL_law_375 : decode cL_law 375 = .ok (.iconst 0, 1) := by decide +kernel
theorem dL_law_376 : decode cL_law 376 = .ok (.ireturn, 1) := by decide +kernel
theorem dL_law_377 : decode cL_law 377 = .ok (.aload_n 1, 1) := by decide +kernel
theorem dL_law_378 : decode cL_law 378 = .ok (.aload_n 0, 1) := by decide +kernel
theorem dL_law_379 : decode cL_law 379 = .ok (.iload_n 3, 1) := by decide +kernel
theorem dL_law_380 : decode cL_law 380 = .ok (.iconst 1, 1) := by decide +kernel
theorem dL_law_381 : decode cL_law 381 = .ok (.iadd, 1) := by decide +kernel
theorem dL_law_382 : decode cL_law 382 = .ok (.iaload, 1) := by decide +kernel
theorem dL_law_383 : decode cL_law 383 = .ok (.aload_n 0, 1) := by decide +kernel
theorem dL_law_384 : decode cL_law 384 = .ok (.iload_n 3, 1) := by decide +kernel
theorem dL_law_385 : decode cL_law 385 = .ok (.iconst 2, 1) := by decide +kernel
theorem dL_law_386 : decode cL_law 386 = .ok (.iadd, 1) := by decide +kernel
theorem dL_law_387 : decode cL_law 387 = .ok (.iaload, 1) := by decide +kernel
theorem dL_law_388 : decode cL_law 388 = .ok (.invokevirtual 55, 3) := by decide +kernel
theorem dL_law_391 : decode cL_law 391 = .ok (.aload_n 2, 1) := by decide +kernel
theorem dL_law_392 : decode cL_law 392 = .ok (.aload_n 0, 1) := by decide +kernel
theorem dL_law_393 : decode cL_law 393 = .ok (.iload_n 3, 1) := by decide +kernel
theorem dL_law_394 : decode cL_law 394 = .ok (.iconst 1, 1) := by decide +kernel
theorem dL_law_395 : decode cL_law 395 = .ok (.iadd, 1) := by decide +kernel
theorem dL_law_396 : decode cL_law 396 = .ok (.iaload, 1) := by decide +kernel
theorem dL_law_397 : decode cL_law 397 = .ok (.aload_n 0, 1) := by decide +kernel
theorem dL_law_398 : decode cL_law 398 = .ok (.iload_n 3, 1) := by decide +kernel
theorem dL_law_399 : decode cL_law 399 = .ok (.iconst 2, 1) := by decide +kernel
theorem dL_law_400 : decode cL_law 400 = .ok (.iadd, 1) := by decide +kernel
theorem dL_law_401 : decode cL_law 401 = .ok (.iaload, 1) := by decide +kernel
theorem dL_law_402 : decode cL_law 402 = .ok (.invokevirtual 59, 3) := by decide +kernel
theorem dL_law_405 : decode cL_law 405 = .ok (.if_icmp .eq 229, 3) := by decide +kernel
theorem dL_law_408 : decode cL_law 408 = .ok (.iconst 0, 1) := by decide +kernel
theorem dL_law_409 : decode cL_law 409 = .ok (.ireturn, 1) := by decide +kernel
theorem dL_law_410 : decode cL_law 410 = .ok (.aload_n 1, 1) := by decide +kernel
theorem dL_law_411 : decode cL_law 411 = .ok (.aload_n 0, 1) := by decide +kernel
theorem dL_law_412 : decode cL_law 412 = .ok (.iload_n 3, 1) := by decide +kernel
theorem dL_law_413 : decode cL_law 413 = .ok (.iconst 1, 1) := by decide +kernel
theorem dL_law_414 : decode cL_law 414 = .ok (.iadd, 1) := by decide +kernel
theorem dL_law_415 : decode cL_law 415 = .ok (.iaload, 1) := by decide +kernel
theorem dL_law_416 : decode cL_law 416 = .ok (.aload_n 0, 1) := by decide +kernel
theorem dL_law_417 : decode cL_law 417 = .ok (.iload_n 3, 1) := by decide +kernel
theorem dL_law_418 : decode cL_law 418 = .ok (.iconst 2, 1) := by decide +kernel
theorem dL_law_419 : decode cL_law 419 = .ok (.iadd, 1) := by decide +kernel
theorem dL_law_420 : decode cL_law 420 = .ok (.iaload, 1) := by decide +kernel
theorem dL_law_421 : decode cL_law 421 = .ok (.aload_n 0, 1) := by decide +kernel
theorem dL_law_422 : decode cL_law 422 = .ok (.iload_n 3, 1) := by decide +kernel
theorem dL_law_423 : decode cL_law 423 = .ok (.iconst 3, 1) := by decide +kernel
theorem dL_law_424 : decode cL_law 424 = .ok (.iadd, 1) := by decide +kernel
theorem dL_law_425 : decode cL_law 425 = .ok (.iaload, 1) := by decide +kernel
theorem dL_law_426 : decode cL_law 426 = .ok (.invokevirtual 60, 3) := by decide +kernel
theorem dL_law_429 : decode cL_law 429 = .ok (.aload_n 2, 1) := by decide +kernel
theorem dL_law_430 : decode cL_law 430 = .ok (.aload_n 0, 1) := by decide +kernel
theorem dL_law_431 : decode cL_law 431 = .ok (.iload_n 3, 1) := by decide +kernel
theorem dL_law_432 : decode cL_law 432 = .ok (.iconst 1, 1) := by decide +kernel
theorem dL_law_433 : decode cL_law 433 = .ok (.iadd, 1) := by decide +kernel
theorem dL_law_434 : decode cL_law 434 = .ok (.iaload, 1) := by decide +kernel
theorem dL_law_435 : decode cL_law 435 = .ok (.aload_n 0, 1) := by decide +kernel
theorem dL_law_436 : decode cL_law 436 = .ok (.iload_n 3, 1) := by decide +kernel
theorem dL_law_437 : decode cL_law 437 = .ok (.iconst 2, 1) := by decide +kernel
theorem dL_law_438 : decode cL_law 438 = .ok (.iadd, 1) := by decide +kernel
theorem dL_law_439 : decode cL_law 439 = .ok (.iaload, 1) := by decide +kernel
theorem dL_law_440 : decode cL_law 440 = .ok (.aload_n 0, 1) := by decide +kernel
theorem dL_law_441 : decode cL_law 441 = .ok (.iload_n 3, 1) := by decide +kernel
theorem dL_law_442 : decode cL_law 442 = .ok (.iconst 3, 1) := by decide +kernel
theorem dL_law_443 : decode cL_law 443 = .ok (.iadd, 1) := by decide +kernel
theorem dL_law_444 : decode cL_law 444 = .ok (.iaload, 1) := by decide +kernel
theorem dL_law_445 : decode cL_law 445 = .ok (.invokevirtual 63, 3) := by decide +kernel
theorem dL_law_448 : decode cL_law 448 = .ok (.if_icmp .eq 186, 3) := by decide +kernel
theorem dL_law_451 : decode cL_law 451 = .ok (.iconst 0, 1) := by decide +kernel
theorem dL_law_452 : decode cL_law 452 = .ok (.ireturn, 1) := by decide +kernel
theorem dL_law_453 : decode cL_law 453 = .ok (.aload_n 1, 1) := by decide +kernel
theorem dL_law_454 : decode cL_law 454 = .ok (.aload_n 0, 1) := by decide +kernel
theorem dL_law_455 : decode cL_law 455 = .ok (.iload_n 3, 1) := by decide +kernel
theorem dL_law_456 : decode cL_law 456 = .ok (.iconst 1, 1) := by decide +kernel
theorem dL_law_457 : decode cL_law 457 = .ok (.iadd, 1) := by decide +kernel
theorem dL_law_458 : decode cL_law 458 = .ok (.iaload, 1) := by decide +kernel
theorem dL_law_459 : decode cL_law 459 = .ok (.aload_n 0, 1) := by decide +kernel
theorem dL_law_460 : decode cL_law 460 = .ok (.iload_n 3, 1) := by decide +kernel
theorem dL_law_461 : decode cL_law 461 = .ok (.iconst 2, 1) := by decide +kernel
theorem dL_law_462 : decode cL_law 462 = .ok (.iadd, 1) := by decide +kernel
theorem dL_law_463 : decode cL_law 463 = .ok (.iaload, 1) := by decide +kernel
theorem dL_law_464 : decode cL_law 464 = .ok (.invokevirtual 64, 3) := by decide +kernel
theorem dL_law_467 : decode cL_law 467 = .ok (.aload_n 2, 1) := by decide +kernel
theorem dL_law_468 : decode cL_law 468 = .ok (.aload_n 0, 1) := by decide +kernel
theorem dL_law_469 : decode cL_law 469 = .ok (.iload_n 3, 1) := by decide +kernel
theorem dL_law_470 : decode cL_law 470 = .ok (.iconst 1, 1) := by decide +kernel
theorem dL_law_471 : decode cL_law 471 = .ok (.iadd, 1) := by decide +kernel
theorem dL_law_472 : decode cL_law 472 = .ok (.iaload, 1) := by decide +kernel
theorem dL_law_473 : decode cL_law 473 = .ok (.aload_n 0, 1) := by decide +kernel
theorem dL_law_474 : decode cL_law 474 = .ok (.iload_n 3, 1) := by decide +kernel
theorem dL_law_475 : decode cL_law 475 = .ok (.iconst 2, 1) := by decide +kernel
theorem dL_law_476 : decode cL_law 476 = .ok (.iadd, 1) := by decide +kernel
theorem dL_law_477 : decode cL_law 477 = .ok (.iaload, 1) := by decide +kernel
theorem dL_law_478 : decode cL_law 478 = .ok (.invokevirtual 67, 3) := by decide +kernel
theorem dL_law_481 : decode cL_law 481 = .ok (.if_icmp .eq 153, 3) := by decide +kernel
theorem dL_law_484 : decode cL_law 484 = .ok (.iconst 0, 1) := by decide +kernel
theorem dL_law_485 : decode cL_law 485 = .ok (.ireturn, 1) := by decide +kernel
theorem dL_law_486 : decode cL_law 486 = .ok (.aload_n 1, 1) := by decide +kernel
theorem dL_law_487 : decode cL_law 487 = .ok (.aload_n 0, 1) := by decide +kernel
theorem dL_law_488 : decode cL_law 488 = .ok (.iload_n 3, 1) := by decide +kernel
theorem dL_law_489 : decode cL_law 489 = .ok (.iconst 1, 1) := by decide +kernel
theorem dL_law_490 : decode cL_law 490 = .ok (.iadd, 1) := by decide +kernel
theorem dL_law_491 : decode cL_law 491 = .ok (.iaload, 1) := by decide +kernel
theorem dL_law_492 : decode cL_law 492 = .ok (.aload_n 0, 1) := by decide +kernel
theorem dL_law_493 : decode cL_law 493 = .ok (.iload_n 3, 1) := by decide +kernel
theorem dL_law_494 : decode cL_law 494 = .ok (.iconst 2, 1) := by decide +kernel
theorem dL_law_495 : decode cL_law 495 = .ok (.iadd, 1) := by decide +kernel
theorem dL_law_496 : decode cL_law 496 = .ok (.iaload, 1) := by decide +kernel
theorem dL_law_497 : decode cL_law 497 = .ok (.invokevirtual 68, 3) := by decide +kernel
theorem dL_law_500 : decode cL_law 500 = .ok (.aload_n 2, 1) := by decide +kernel
theorem dL_law_501 : decode cL_law 501 = .ok (.aload_n 0, 1) := by decide +kernel
theorem dL_law_502 : decode cL_law 502 = .ok (.iload_n 3, 1) := by decide +kernel
theorem dL_law_503 : decode cL_law 503 = .ok (.iconst 1, 1) := by decide +kernel
theorem dL_law_504 : decode cL_law 504 = .ok (.iadd, 1) := by decide +kernel
theorem dL_law_505 : decode cL_law 505 = .ok (.iaload, 1) := by decide +kernel
theorem dL_law_506 : decode cL_law 506 = .ok (.aload_n 0, 1) := by decide +kernel
theorem dL_law_507 : decode cL_law 507 = .ok (.iload_n 3, 1) := by decide +kernel
theorem dL_law_508 : decode cL_law 508 = .ok (.iconst 2, 1) := by decide +kernel
theorem dL_law_509 : decode cL_law 509 = .ok (.iadd, 1) := by decide +kernel
theorem dL_law_510 : decode cL_law 510 = .ok (.iaload, 1) := by decide +kernel
theorem dL_law_511 : decode cL_law 511 = .ok (.invokevirtual 71, 3) := by decide +kernel
theorem dL_law_514 : decode cL_law 514 = .ok (.if_icmp .eq 120, 3) := by decide +kernel
theorem dL_law_517 : decode cL_law 517 = .ok (.iconst 0, 1) := by decide +kernel
theorem dL_law_518 : decode cL_law 518 = .ok (.ireturn, 1) := by decide +kernel
theorem dL_law_519 : decode cL_law 519 = .ok (.aload_n 1, 1) := by decide +kernel
theorem dL_law_520 : decode cL_law 520 = .ok (.aload_n 0, 1) := by decide +kernel
theorem dL_law_521 : decode cL_law 521 = .ok (.iload_n 3, 1) := by decide +kernel
theorem dL_law_522 : decode cL_law 522 = .ok (.iconst 1, 1) := by decide +kernel
theorem dL_law_523 : decode cL_law 523 = .ok (.iadd, 1) := by decide +kernel
theorem dL_law_524 : decode cL_law 524 = .ok (.iaload, 1) := by decide +kernel
theorem dL_law_525 : decode cL_law 525 = .ok (.aload_n 0, 1) := by decide +kernel
theorem dL_law_526 : decode cL_law 526 = .ok (.iload_n 3, 1) := by decide +kernel
theorem dL_law_527 : decode cL_law 527 = .ok (.iconst 2, 1) := by decide +kernel
theorem dL_law_528 : decode cL_law 528 = .ok (.iadd, 1) := by decide +kernel
theorem dL_law_529 : decode cL_law 529 = .ok (.iaload, 1) := by decide +kernel
theorem dL_law_530 : decode cL_law 530 = .ok (.invokevirtual 72, 3) := by decide +kernel
theorem dL_law_533 : decode cL_law 533 = .ok (.aload_n 2, 1) := by decide +kernel
theorem dL_law_534 : decode cL_law 534 = .ok (.aload_n 0, 1) := by decide +kernel
theorem dL_law_535 : decode cL_law 535 = .ok (.iload_n 3, 1) := by decide +kernel
theorem dL_law_536 : decode cL_law 536 = .ok (.iconst 1, 1) := by decide +kernel
theorem dL_law_537 : decode cL_law 537 = .ok (.iadd, 1) := by decide +kernel
theorem dL_law_538 : decode cL_law 538 = .ok (.iaload, 1) := by decide +kernel
theorem dL_law_539 : decode cL_law 539 = .ok (.aload_n 0, 1) := by decide +kernel
theorem dL_law_540 : decode cL_law 540 = .ok (.iload_n 3, 1) := by decide +kernel
theorem dL_law_541 : decode cL_law 541 = .ok (.iconst 2, 1) := by decide +kernel
theorem dL_law_542 : decode cL_law 542 = .ok (.iadd, 1) := by decide +kernel
theorem dL_law_543 : decode cL_law 543 = .ok (.iaload, 1) := by decide +kernel
theorem dL_law_544 : decode cL_law 544 = .ok (.invokevirtual 75, 3) := by decide +kernel
theorem dL_law_547 : decode cL_law 547 = .ok (.if_icmp .eq 87, 3) := by decide +kernel
theorem dL_law_550 : decode cL_law 550 = .ok (.iconst 0, 1) := by decide +kernel
theorem dL_law_551 : decode cL_law 551 = .ok (.ireturn, 1) := by decide +kernel
theorem dL_law_552 : decode cL_law 552 = .ok (.aload_n 1, 1) := by decide +kernel
theorem dL_law_553 : decode cL_law 553 = .ok (.invokevirtual 76, 3) := by decide +kernel
theorem dL_law_556 : decode cL_law 556 = .ok (.aload_n 2, 1) := by decide +kernel
theorem dL_law_557 : decode cL_law 557 = .ok (.invokevirtual 80, 3) := by decide +kernel
theorem dL_law_560 : decode cL_law 560 = .ok (.if_icmp .eq 74, 3) := by decide +kernel
theorem dL_law_563 : decode cL_law 563 = .ok (.iconst 0, 1) := by decide +kernel
theorem dL_law_564 : decode cL_law 564 = .ok (.ireturn, 1) := by decide +kernel
theorem dL_law_565 : decode cL_law 565 = .ok (.aload_n 1, 1) := by decide +kernel
theorem dL_law_566 : decode cL_law 566 = .ok (.aload_n 0, 1) := by decide +kernel
theorem dL_law_567 : decode cL_law 567 = .ok (.iload_n 3, 1) := by decide +kernel
theorem dL_law_568 : decode cL_law 568 = .ok (.iconst 1, 1) := by decide +kernel
theorem dL_law_569 : decode cL_law 569 = .ok (.iadd, 1) := by decide +kernel
theorem dL_law_570 : decode cL_law 570 = .ok (.iaload, 1) := by decide +kernel
theorem dL_law_571 : decode cL_law 571 = .ok (.invokevirtual 81, 3) := by decide +kernel
theorem dL_law_574 : decode cL_law 574 = .ok (.aload_n 2, 1) := by decide +kernel
theorem dL_law_575 : decode cL_law 575 = .ok (.aload_n 0, 1) := by decide +kernel
theorem dL_law_576 : decode cL_law 576 = .ok (.iload_n 3, 1) := by decide +kernel
theorem dL_law_577 : decode cL_law 577 = .ok (.iconst 1, 1) := by decide +kernel
theorem dL_law_578 : decode cL_law 578 = .ok (.iadd, 1) := by decide +kernel
theorem dL_law_579 : decode cL_law 579 = .ok (.iaload, 1) := by decide +kernel
theorem dL_law_580 : decode cL_law 580 = .ok (.invokevirtual 84, 3) := by decide +kernel
theorem dL_law_583 : decode cL_law 583 = .ok (.if_icmp .eq 51, 3) := by decide +kernel
theorem dL_law_586 : decode cL_law 586 = .ok (.iconst 0, 1) := by decide +kernel
theorem dL_law_587 : decode cL_law 587 = .ok (.ireturn, 1) := by decide +kernel
theorem dL_law_588 : decode cL_law 588 = .ok (.aload_n 1, 1) := by decide +kernel
theorem dL_law_589 : decode cL_law 589 = .ok (.aload_n 0, 1) := by decide +kernel
theorem dL_law_590 : decode cL_law 590 = .ok (.iload_n 3, 1) := by decide +kernel
theorem dL_law_591 : decode cL_law 591 = .ok (.iconst 1, 1) := by decide +kernel
theorem dL_law_592 : decode cL_law 592 = .ok (.iadd, 1) := by decide +kernel
theorem dL_law_593 : decode cL_law 593 = .ok (.iaload, 1) := by decide +kernel
theorem dL_law_594 : decode cL_law 594 = .ok (.invokevirtual 85, 3) := by decide +kernel
theorem dL_law_597 : decode cL_law 597 = .ok (.aload_n 2, 1) := by decide +kernel
theorem dL_law_598 : decode cL_law 598 = .ok (.aload_n 0, 1) := by decide +kernel
theorem dL_law_599 : decode cL_law 599 = .ok (.iload_n 3, 1) := by decide +kernel
theorem dL_law_600 : decode cL_law 600 = .ok (.iconst 1, 1) := by decide +kernel
theorem dL_law_601 : decode cL_law 601 = .ok (.iadd, 1) := by decide +kernel
theorem dL_law_602 : decode cL_law 602 = .ok (.iaload, 1) := by decide +kernel
theorem dL_law_603 : decode cL_law 603 = .ok (.invokevirtual 88, 3) := by decide +kernel
theorem dL_law_606 : decode cL_law 606 = .ok (.if_icmp .eq 28, 3) := by decide +kernel
theorem dL_law_609 : decode cL_law 609 = .ok (.iconst 0, 1) := by decide +kernel
theorem dL_law_610 : decode cL_law 610 = .ok (.ireturn, 1) := by decide +kernel
theorem dL_law_611 : decode cL_law 611 = .ok (.aload_n 1, 1) := by decide +kernel
theorem dL_law_612 : decode cL_law 612 = .ok (.aload_n 0, 1) := by decide +kernel
theorem dL_law_613 : decode cL_law 613 = .ok (.iload_n 3, 1) := by decide +kernel
theorem dL_law_614 : decode cL_law 614 = .ok (.iconst 1, 1) := by decide +kernel
theorem dL_law_615 : decode cL_law 615 = .ok (.iadd, 1) := by decide +kernel
theorem dL_law_616 : decode cL_law 616 = .ok (.iaload, 1) := by decide +kernel
theorem dL_law_617 : decode cL_law 617 = .ok (.invokevirtual 89, 3) := by decide +kernel
theorem dL_law_620 : decode cL_law 620 = .ok (.aload_n 2, 1) := by decide +kernel
theorem dL_law_621 : decode cL_law 621 = .ok (.aload_n 0, 1) := by decide +kernel
theorem dL_law_622 : decode cL_law 622 = .ok (.iload_n 3, 1) := by decide +kernel
theorem dL_law_623 : decode cL_law 623 = .ok (.iconst 1, 1) := by decide +kernel
theorem dL_law_624 : decode cL_law 624 = .ok (.iadd, 1) := by decide +kernel
theorem dL_law_625 : decode cL_law 625 = .ok (.iaload, 1) := by decide +kernel
theorem dL_law_626 : decode cL_law 626 = .ok (.invokevirtual 92, 3) := by decide +kernel
theorem dL_law_629 : decode cL_law 629 = .ok (.if_icmp .eq 5, 3) := by decide +kernel
theorem dL_law_632 : decode cL_law 632 = .ok (.iconst 0, 1) := by decide +kernel
theorem dL_law_633 : decode cL_law 633 = .ok (.ireturn, 1) := by decide +kernel
theorem dL_law_634 : decode cL_law 634 = .ok (.iinc 3 5, 3) := by decide +kernel
theorem dL_law_637 : decode cL_law 637 = .ok (.goto (-619), 3) := by decide +kernel
theorem dL_law_640 : decode cL_law 640 = .ok (.iconst 1, 1) := by decide +kernel
theorem dL_law_641 : decode cL_law 641 = .ok (.ireturn, 1) := by decide +kernel
end
section
/-! THE PURE MACHINE: heaps as lists of cells, references as places in the list; Wp: what the machine comes to from a frame; PM: a method's contract -/
/-- the words of the tables that hold at every moment -/
def zT : List Cond := lw_tbl.filter goodWord
theorem zT_in {w : Cond} (h : w ∈ lw_tbl) (g : goodWord w = true) : w ∈ zT := List.mem_filter.mpr ⟨h, g⟩
theorem zgood {w : Cond} (h : w ∈ zT) : goodWord w = true := (List.mem_filter.mp h).2
abbrev zm_I : Type := MethodName × ByteArray × Nat × Option FieldType × Nat × Nat
abbrev zm_y (M : zm_I) : MethodName := M.1
abbrev zm_c (M : zm_I) : ByteArray := M.2.1
abbrev zm_n (M : zm_I) : Nat := M.2.2.1
abbrev zm_r (M : zm_I) : Option FieldType := M.2.2.2.1
abbrev zm_R (M : zm_I) : Room := { frames := M.2.2.2.2.1, cells := 0, slots := 0, locals := M.2.2.2.2.2 }
def zm_w (M : zm_I) : List Cond := Cond.code (zm_y M) (zm_c M) (zm_n M) (zm_r M) :: zT
def zv (ad : Nat → Nat) : Value → Value
  | .ref k => .ref (ad k)
  | v => v
def za (ad : Nat → Nat) : vp_A → vp_A
  | (n, .inr (.inr (.inr (.inr f)))) => (n, .inr (.inr (.inr (.inr (fun j => (f j).map ad)))))
  | (n, .inl f) => (n, .inl f)
  | (n, .inr (.inl f)) => (n, .inr (.inl f))
  | (n, .inr (.inr (.inl f))) => (n, .inr (.inr (.inl f)))
  | (n, .inr (.inr (.inr (.inl f)))) => (n, .inr (.inr (.inr (.inl f))))
def ze (ad : Nat → Nat) (ca : Nat → ClassId) : va_E → va_E
  | .inl q => .inl (ca q.1, za ad q.2)
  | .inr q => .inr (q.1, q.2.map (zv ad))
abbrev zh : Type := List va_E
def zw (ad : Nat → Nat) (ca : Nat → ClassId) (h : zh) : va_W := h.mapIdx (fun k e => (ad k, ze ad ca e))
def zt (ca : Nat → ClassId) : List (ClassId × FieldType) := [(ca 0, .int), (ca 1, .boolean), (ca 2, .object "TurningPlans$Table"), (ca 3, .object "TurningPlans$Scan")]
theorem zv_cat (ad : Nat → Nat) (v : Value) : (zv ad v).category = v.category := by cases v <;> rfl
theorem zw_at {ad : Nat → Nat} {ca : Nat → ClassId} {h : zh} {k : Nat} {x : va_E} (he : h[k]? = some x) : (zw ad ca h)[k]? = some (ad k, ze ad ca x) := by
  unfold zw
  rw [List.getElem?_mapIdx, he]; rfl
theorem zw_set (ad : Nat → Nat) (ca : Nat → ClassId) (h : zh) (k : Nat) (x : va_E) : (zw ad ca h).set k (ad k, ze ad ca x) = zw ad ca (h.set k x) := by
  apply List.ext_getElem?
  intro i
  unfold zw
  rw [List.getElem?_mapIdx, List.getElem?_set, List.getElem?_set, List.length_mapIdx, List.getElem?_mapIdx]
  by_cases hk : k = i
  · subst hk
    simp only [if_true]
    by_cases hl : k < h.length <;> simp [hl]
  · simp [hk]
/-- the locals: 'null' says nothing of a place -/
def zl (ad : Nat → Nat) (ls : Array Slot) (n : Nat) (L : List Value) : Prop := ls.size = n ∧ lv_wf ls ∧ ∀ (i : Nat) (v : Value), L[i]? = some v → v ≠ .null → ls[i]? = some (.val (zv ad v))
def zls (ad : Nat → Nat) (L : List Value) : List (Nat × Value) := (List.range L.length).filterMap (fun (i : Nat) => match (L[i]? : Option Value) with
  | some Value.null => none
  | some v => some (i, zv ad v)
  | none => none)
theorem zls_mem {ad : Nat → Nat} {L : List Value} {i : Nat} {v : Value} (h : L[i]? = some v) (hn : v ≠ .null) : (i, zv ad v) ∈ zls ad L := by
  unfold zls
  rw [List.mem_filterMap]
  refine ⟨i, List.mem_range.mpr (List.getElem?_eq_some_iff.mp h).1, ?_⟩
  rw [h]
  cases v <;> first | rfl | exact absurd rfl hn
theorem zls_of {ad : Nat → Nat} {L : List Value} {q : Nat × Value} (h : q ∈ zls ad L) : ∃ v, L[q.1]? = some v ∧ v ≠ .null ∧ q.2 = zv ad v := by
  unfold zls at h
  obtain ⟨i, -, hi⟩ := List.mem_filterMap.mp h
  cases hL : L[i]? with
  | none => rw [hL] at hi; cases hi
  | some v =>
    rw [hL] at hi
    cases v <;> first | (cases hi; exact ⟨_, hL, (fun z => by cases z), rfl⟩) | cases hi
theorem zl_has {ad : Nat → Nat} {ls : Array Slot} {n : Nat} {L : List Value} (h : zl ad ls n L) : lv_has ls n (zls ad L) := by
  refine ⟨h.1, h.2.1, fun q hq => ?_⟩
  obtain ⟨v, h1, h2, h3⟩ := zls_of hq
  rw [h3]
  exact h.2.2 _ _ h1 h2
theorem zl_at {ad : Nat → Nat} {ls : Array Slot} {n : Nat} {L : List Value} (h : zl ad ls n L) {i : Nat} {v : Value} (hi : L[i]? = some v) (hn : v ≠ .null) : ls[i]? = some (.val (zv ad v)) := h.2.2 i v hi hn
theorem zl_put {ad : Nat → Nat} {ls' : Array Slot} {n : Nat} {L : List Value} {i : Nat} {v : Value} (hc : (L.getD (i - 1) .null).category = 1)
    (h : lv_has ls' n ((i, zv ad v) :: (zls ad L).filter (fun q => !(q.1 == i) && !(q.1 + 1 == i && q.2.category == 2)))) : zl ad ls' n (L.set i v) := by
  refine ⟨h.1, h.2.1, fun j w hj hw => ?_⟩
  by_cases hji : j = i
  · subst hji
    rw [List.getElem?_set] at hj
    simp only [if_true] at hj
    by_cases hl : j < L.length
    · simp only [hl, if_true] at hj
      cases hj
      exact h.2.2 (j, zv ad v) List.mem_cons_self
    · simp only [hl, if_false] at hj
      cases hj
  · rw [List.getElem?_set_ne (fun z => hji z.symm)] at hj
    refine h.2.2 (j, zv ad w) (List.mem_cons_of_mem _ (List.mem_filter.mpr ⟨zls_mem hj hw, ?_⟩))
    simp only [Bool.and_eq_true, Bool.not_eq_true', beq_eq_false_iff_ne, ne_eq, Bool.and_eq_false_iff, zv_cat]
    refine ⟨hji, ?_⟩
    by_cases hj1 : j + 1 = i
    · right
      have e1 : i - 1 = j := by omega
      rw [e1, List.getD_eq_getElem?_getD, hj] at hc
      simp only [Option.getD_some] at hc
      omega
    · exact Or.inl hj1
theorem zl_put2 {ad : Nat → Nat} {ls' : Array Slot} {n : Nat} {L : List Value} {i : Nat} {v : Value} (hc : (L.getD (i - 1) .null).category = 1)
    (h : lv_has ls' n ((i, zv ad v) :: (zls ad L).filter (fun q => !(q.1 == i) && (!(q.1 == i + 1) && !(q.1 + 1 == i && q.2.category == 2))))) : zl ad ls' n ((L.set i v).set (i + 1) .null) := by
  refine ⟨h.1, h.2.1, fun j w hj hw => ?_⟩
  by_cases hj2 : j = i + 1
  · subst hj2
    rw [List.getElem?_set] at hj
    simp only [if_true] at hj
    split at hj
    · cases hj; exact absurd rfl hw
    · cases hj
  rw [List.getElem?_set_ne (fun z => hj2 z.symm)] at hj
  by_cases hji : j = i
  · subst hji
    rw [List.getElem?_set] at hj
    simp only [if_true] at hj
    by_cases hl : j < L.length
    · simp only [hl, if_true] at hj
      cases hj
      exact h.2.2 (j, zv ad v) List.mem_cons_self
    · simp only [hl, if_false] at hj
      cases hj
  · rw [List.getElem?_set_ne (fun z => hji z.symm)] at hj
    refine h.2.2 (j, zv ad w) (List.mem_cons_of_mem _ (List.mem_filter.mpr ⟨zls_mem hj hw, ?_⟩))
    simp only [Bool.and_eq_true, Bool.not_eq_true', beq_eq_false_iff_ne, ne_eq, Bool.and_eq_false_iff, zv_cat]
    refine ⟨hji, hj2, ?_⟩
    by_cases hj1 : j + 1 = i
    · right
      have e1 : i - 1 = j := by omega
      rw [e1, List.getD_eq_getElem?_getD, hj] at hc
      simp only [Option.getD_some] at hc
      omega
    · exact Or.inl hj1
/-- what holds of the machine while a method runs -/
def zC (M : zm_I) (p : Program) (s : State) (m : MethodId) (args : Array Value) (meth : Method) (c : Code) (D : va_G) (ca : Nat → ClassId) (A : Nat → Prop) : Prop :=
  p.tables.exec = Jvm.exec ∧ c.code = zm_c M ∧ meth.sig.returnType = zm_r M ∧ c.maxLocals = zm_n M ∧ s.vm.findClass (zm_y M).cls = some m.cls ∧ meth.locks = false ∧ (∀ w ∈ zT, w.before args s = true) ∧ (∀ q, s.heap.size ≤ q → A q) ∧ va_K D vwCl (zt ca) s
def zH (s : State) (D : va_G) (ad : Nat → Nat) (ca : Nat → ClassId) (A : Nat → Prop) (h : zh) (H : Heap) (locs : List Loc) : Prop := va_P D vwCl (zw ad ca h) H ∧ va_D A (zw ad ca h) ∧ va_S A s.heap H locs
def zQ (D : va_G) (ad : Nat → Nat) (ca : Nat → ClassId) (A : Nat → Prop) (Q : Option Value → zh → Prop) : Array Value → State → Outcome → State → Prop := fun _ st oc t =>
  (∃ (r : Option Value) (h' : zh), oc = .returned (r.map (zv ad)) ∧ Q r h' ∧ va_P D vwCl (zw ad ca h') t.heap ∧ va_K D vwCl (zt ca) t ∧ va_D A (zw ad ca h')) ∧ va_F A st t
def Wp (M : zm_I) (Q : Option Value → zh → Prop) (pc : Nat) (L st : List Value) (h : zh) : Prop :=
  ∀ (p : Program) (l : Launch) (e : Env) (s : State) (m : MethodId) (args : Array Value) (below : List Frame) (meth : Method) (c : Code) (D : va_G) (ad : Nat → Nat) (ca : Nat → ClassId) (A : Nat → Prop) (H : Heap) (locs : List Loc) (ls : Array Slot),
    zC M p s m args meth c D ca A → zH s D ad ca A h H locs → zl ad ls (zm_n M) L → W p l e (zm_R M) s m args below meth c H locs 0 0 (MQ below (zQ D ad ca A Q) args s 0 0 A) (F0 m pc ls (st.map (zv ad)))
def zP (D : va_G) (ad : Nat → Nat) (ca : Nat → ClassId) (av : List Value) (h : zh) (sz : Nat) : Array Value → State → Prop := va_Pc (av.map (zv ad)) (fun U => U.heap.size = sz ∧ va_P D vwCl (zw ad ca h) U.heap ∧ va_K D vwCl (zt ca) U ∧ va_D (fun _ => True) (zw ad ca h))
/-- a method's contract: from these arguments and this heap it returns, and Q holds of its answer and of the heap then -/
def PM (M : zm_I) (av : List Value) (h : zh) (Q : Option Value → zh → Prop) : Prop :=
  ∀ (l : Launch) (D : va_G) (ad : Nat → Nat) (ca : Nat → ClassId) (sz : Nat), Met l (zm_y M) (zm_w M) (zm_R M) (zP D ad ca av h sz) (zQ D ad ca (va_A (zw ad ca h) sz) Q) 0 0 (va_A (zw ad ca h) sz)
def zent (n : Nat) (av : List Value) : List Value := av ++ List.replicate (n - av.length) .null
theorem zargs (ad : Nat → Nat) : ∀ (av : List Value) (i : Nat), (∀ v ∈ av, v.category = 1) → ∀ (j : Nat) (v : Value), av[j]? = some v → (i + j, zv ad v) ∈ lv_args i (av.map (zv ad))
  | [], _, _, j, v, h => by simp at h
  | a :: av, i, hc, j, v, h => by
    have ha : ¬ (zv ad a).category = 2 := by rw [zv_cat, hc a List.mem_cons_self]; decide
    simp only [List.map_cons, lv_args, if_neg ha]
    cases j with
    | zero =>
      simp only [List.getElem?_cons_zero, Option.some.injEq] at h
      subst h
      exact List.mem_cons_self
    | succ j =>
      rw [List.getElem?_cons_succ] at h
      have := zargs ad av (i + 1) (fun v hv => hc v (List.mem_cons_of_mem _ hv)) j v h
      rw [show i + (j + 1) = i + 1 + j by omega]
      exact List.mem_cons_of_mem _ this
theorem zsl_len : ∀ (av : List Value), (∀ v ∈ av, v.category = 1) → (lg_sl av).length = av.length
  | [], _ => rfl
  | a :: av, hc => by
    have ha : ¬ a.category = 2 := by rw [hc a List.mem_cons_self]; decide
    have := zsl_len av (fun v hv => hc v (List.mem_cons_of_mem _ hv))
    unfold lg_sl at this ⊢
    rw [List.flatMap_cons, List.length_append, this, if_neg ha]
    simp [Nat.add_comm]
/-- a contract out of its body -/
theorem PM.of {M : zm_I} {av : List Value} {h : zh} {Q : Option Value → zh → Prop} (hy : plainName (zm_y M).cls = true) (hc : ∀ v ∈ av, v.category = 1) (hn : av.length ≤ zm_n M) (k : Wp M Q 0 (zent (zm_n M) av) [] h) : PM M av h Q := by
  intro l D ad ca sz
  refine Met.ofW (cc := zm_c M) (maxL := zm_n M) (ret := zm_r M) hy rfl ?_
  intro p e s m args below meth c s₁ B hml hv
  obtain ⟨rfl, hsz, hP, hK, hD0⟩ := hv
  subst hsz
  have hts : ∀ w ∈ zT, w.before (av.map (zv ad)).toArray s = true := fun w hw => atoms_spec (ws := zm_w M) B.pre w (List.mem_cons_of_mem _ hw)
  have hcm : ∀ v ∈ av.map (zv ad), v.category = 1 := by
    intro v hv
    obtain ⟨w, h1, rfl⟩ := List.mem_map.mp hv
    rw [zv_cat]; exact hc w h1
  have hlen := zsl_len (av.map (zv ad)) hcm
  rw [List.length_map] at hlen
  have hl := lv_entry (av.map (zv ad)) (n := zm_n M) (by rw [hlen]; exact hn)
  rw [lg_entry_eq]
  refine k p l e s m _ below meth c D ad ca _ s.heap [] _ ⟨B.exec, B.bytes, B.returns, hml, findClass_of_methodNamed B.named, B.notSynchronized, hts, fun q h => Or.inr h, hK⟩ ⟨hP, hD0.self, va_S.rf⟩ ⟨hl.1, hl.2.1, fun i v hi hv => ?_⟩
  unfold zent at hi
  by_cases hil : i < av.length
  · rw [List.getElem?_append_left hil] at hi
    have := zargs ad av 0 hc i v hi
    rw [Nat.zero_add] at this
    exact hl.2.2 _ this
  · rw [List.getElem?_append_right (by omega)] at hi
    have := List.mem_of_getElem? hi
    exact absurd (List.eq_of_mem_replicate this) hv
theorem PM.mono {M : zm_I} {av : List Value} {h : zh} {Q Q' : Option Value → zh → Prop} (k : PM M av h Q) (hQ : ∀ r h', Q r h' → Q' r h') : PM M av h Q' := by
  intro l D ad ca sz
  intro p e ha hc hk s m args below hf hfit hpre hpos
  obtain ⟨t, o, h1, h2, h3, ⟨⟨⟨r, h', a1, a2, a3⟩, a4⟩, a5⟩⟩ := k l D ad ca sz p e ha hc hk s m args below hf hfit hpre hpos
  exact ⟨t, o, h1, h2, h3, ⟨⟨⟨r, h', a1, hQ r h' a2, a3⟩, a4⟩, a5⟩⟩
theorem Wp.mono {M : zm_I} {Q Q' : Option Value → zh → Prop} {pc : Nat} {L st : List Value} {h : zh} (k : Wp M Q pc L st h) (hQ : ∀ r h', Q r h' → Q' r h') : Wp M Q' pc L st h := by
  intro p l e s m args below meth c D ad ca A H locs ls C Hh hl T hT X
  obtain ⟨t, a1, o, b1, b2, ⟨⟨r, h', c1, c2, c3⟩, c4⟩, b4⟩ := k p l e s m args below meth c D ad ca A H locs ls C Hh hl T hT X
  exact ⟨t, a1, o, b1, b2, ⟨⟨r, h', c1, hQ r h' c2, c3⟩, c4⟩, b4⟩
end
section
theorem Wp.icon {M : zm_I} {Q : Option Value → zh → Prop} {pc pc2 : Nat} {L st : List Value} {h : zh} {n : Int} (d : decode (zm_c M) pc = .ok (.iconst n, 1)) (hp : pc + 1 = pc2) (v : Int32) (hv : Int32.ofInt n = v) (k : Wp M Q pc2 L (.int v :: st) h) : Wp M Q pc L (st) h := by
  subst hp
  intro p l e s m args below meth c D ad ca A H locs ls C Hh hl
  exact lv_iconst C.1 C.2.1 d hv (k p l e s m args below meth c D ad ca A H locs ls C Hh hl)
theorem Wp.bipush {M : zm_I} {Q : Option Value → zh → Prop} {pc pc2 : Nat} {L st : List Value} {h : zh} {n : Int} (d : decode (zm_c M) pc = .ok (.bipush n, 2)) (hp : pc + 2 = pc2) (v : Int32) (hv : (Int8.ofInt n).toInt32 = v) (k : Wp M Q pc2 L (.int v :: st) h) : Wp M Q pc L (st) h := by
  subst hp
  intro p l e s m args below meth c D ad ca A H locs ls C Hh hl
  exact lv_bipush C.1 C.2.1 d hv (k p l e s m args below meth c D ad ca A H locs ls C Hh hl)
theorem Wp.sipush {M : zm_I} {Q : Option Value → zh → Prop} {pc pc2 : Nat} {L st : List Value} {h : zh} {n : Int} (d : decode (zm_c M) pc = .ok (.sipush n, 3)) (hp : pc + 3 = pc2) (v : Int32) (hv : (Int16.ofInt n).toInt32 = v) (k : Wp M Q pc2 L (.int v :: st) h) : Wp M Q pc L (st) h := by
  subst hp
  intro p l e s m args below meth c D ad ca A H locs ls C Hh hl
  exact lv_sipush C.1 C.2.1 d hv (k p l e s m args below meth c D ad ca A H locs ls C Hh hl)
theorem Wp.ldc {M : zm_I} {Q : Option Value → zh → Prop} {pc pc2 : Nat} {L st : List Value} {h : zh} {idx : Nat} (d : decode (zm_c M) pc = .ok (.ldc idx, 2)) (hp : pc + 2 = pc2) (v : Int32) (hw : Cond.constant (zm_y M).cls idx v ∈ zT) (k : Wp M Q pc2 L (.int v :: st) h) : Wp M Q pc L st h := by
  subst hp
  intro p l e s m args below meth c D ad ca A H locs ls C Hh hl
  exact lv_ldc C.1 C.2.1 C.2.2.2.2.1 (C.2.2.2.2.2.2.1 _ hw) d (k p l e s m args below meth c D ad ca A H locs ls C Hh hl)
theorem Wp.iload_n {M : zm_I} {Q : Option Value → zh → Prop} {pc pc2 : Nat} {L st : List Value} {h : zh} {k0 : Fin 4} {x : Int32} (d : decode (zm_c M) pc = .ok (.iload_n k0, 1)) (hp : pc + 1 = pc2) (hL : L[(k0 : Nat)]? = some (.int x)) (k : Wp M Q pc2 L (.int x :: st) h) : Wp M Q pc L st h := by
  subst hp
  intro p l e s m args below meth c D ad ca A H locs ls C Hh hl
  exact lv_iload_n C.1 C.2.1 d rfl (zl_at hl hL (fun z => by cases z)) (k p l e s m args below meth c D ad ca A H locs ls C Hh hl)
theorem Wp.iload {M : zm_I} {Q : Option Value → zh → Prop} {pc pc2 : Nat} {L st : List Value} {h : zh} {i : Nat} {x : Int32} (d : decode (zm_c M) pc = .ok (.iload i, 2)) (hp : pc + 2 = pc2) (hL : L[i]? = some (.int x)) (k : Wp M Q pc2 L (.int x :: st) h) : Wp M Q pc L st h := by
  subst hp
  intro p l e s m args below meth c D ad ca A H locs ls C Hh hl
  exact lv_iload C.1 C.2.1 d (zl_at hl hL (fun z => by cases z)) (k p l e s m args below meth c D ad ca A H locs ls C Hh hl)
theorem Wp.lload_n {M : zm_I} {Q : Option Value → zh → Prop} {pc pc2 : Nat} {L st : List Value} {h : zh} {k0 : Fin 4} {x : Int64} (d : decode (zm_c M) pc = .ok (.lload_n k0, 1)) (hp : pc + 1 = pc2) (hL : L[(k0 : Nat)]? = some (.long x)) (k : Wp M Q pc2 L (.long x :: st) h) : Wp M Q pc L st h := by
  subst hp
  intro p l e s m args below meth c D ad ca A H locs ls C Hh hl
  exact lv_lload_n C.1 C.2.1 d rfl (zl_at hl hL (fun z => by cases z)) (k p l e s m args below meth c D ad ca A H locs ls C Hh hl)
theorem Wp.lload {M : zm_I} {Q : Option Value → zh → Prop} {pc pc2 : Nat} {L st : List Value} {h : zh} {i : Nat} {x : Int64} (d : decode (zm_c M) pc = .ok (.lload i, 2)) (hp : pc + 2 = pc2) (hL : L[i]? = some (.long x)) (k : Wp M Q pc2 L (.long x :: st) h) : Wp M Q pc L st h := by
  subst hp
  intro p l e s m args below meth c D ad ca A H locs ls C Hh hl
  exact lv_lload C.1 C.2.1 d (zl_at hl hL (fun z => by cases z)) (k p l e s m args below meth c D ad ca A H locs ls C Hh hl)
theorem Wp.aload_n {M : zm_I} {Q : Option Value → zh → Prop} {pc pc2 : Nat} {L st : List Value} {h : zh} {k0 : Fin 4} {x : Nat} (d : decode (zm_c M) pc = .ok (.aload_n k0, 1)) (hp : pc + 1 = pc2) (hL : L[(k0 : Nat)]? = some (.ref x)) (k : Wp M Q pc2 L (.ref x :: st) h) : Wp M Q pc L st h := by
  subst hp
  intro p l e s m args below meth c D ad ca A H locs ls C Hh hl
  exact lv_aload_n C.1 C.2.1 d rfl (zl_at hl hL (fun z => by cases z)) (k p l e s m args below meth c D ad ca A H locs ls C Hh hl)
theorem Wp.aload {M : zm_I} {Q : Option Value → zh → Prop} {pc pc2 : Nat} {L st : List Value} {h : zh} {i : Nat} {x : Nat} (d : decode (zm_c M) pc = .ok (.aload i, 2)) (hp : pc + 2 = pc2) (hL : L[i]? = some (.ref x)) (k : Wp M Q pc2 L (.ref x :: st) h) : Wp M Q pc L st h := by
  subst hp
  intro p l e s m args below meth c D ad ca A H locs ls C Hh hl
  exact lv_aload C.1 C.2.1 d (zl_at hl hL (fun z => by cases z)) (k p l e s m args below meth c D ad ca A H locs ls C Hh hl)
theorem Wp.istore_n {M : zm_I} {Q : Option Value → zh → Prop} {pc pc2 : Nat} {L st : List Value} {h : zh} {k0 : Fin 4} {x : Int32} (d : decode (zm_c M) pc = .ok (.istore_n k0, 1)) (hp : pc + 1 = pc2) (hn : (k0 : Nat) < zm_n M) (hc : (L.getD ((k0 : Nat) - 1) .null).category = 1) (k : Wp M Q pc2 (L.set (k0 : Nat) (.int x)) st h) : Wp M Q pc L (.int x :: st) h := by
  subst hp
  intro p l e s m args below meth c D ad ca A H locs ls C Hh hl
  exact lv_istore_n C.1 C.2.1 d rfl (zl_has hl) hn rfl (fun ls' hl' => k p l e s m args below meth c D ad ca A H locs ls' C Hh (zl_put (v := .int x) hc hl'))
theorem Wp.istore {M : zm_I} {Q : Option Value → zh → Prop} {pc pc2 : Nat} {L st : List Value} {h : zh} {i : Nat} {x : Int32} (d : decode (zm_c M) pc = .ok (.istore i, 2)) (hp : pc + 2 = pc2) (hn : i < zm_n M) (hc : (L.getD (i - 1) .null).category = 1) (k : Wp M Q pc2 (L.set i (.int x)) st h) : Wp M Q pc L (.int x :: st) h := by
  subst hp
  intro p l e s m args below meth c D ad ca A H locs ls C Hh hl
  exact lv_istore C.1 C.2.1 d (zl_has hl) hn rfl (fun ls' hl' => k p l e s m args below meth c D ad ca A H locs ls' C Hh (zl_put (v := .int x) hc hl'))
theorem Wp.astore_n {M : zm_I} {Q : Option Value → zh → Prop} {pc pc2 : Nat} {L st : List Value} {h : zh} {k0 : Fin 4} {x : Nat} (d : decode (zm_c M) pc = .ok (.astore_n k0, 1)) (hp : pc + 1 = pc2) (hn : (k0 : Nat) < zm_n M) (hc : (L.getD ((k0 : Nat) - 1) .null).category = 1) (k : Wp M Q pc2 (L.set (k0 : Nat) (.ref x)) st h) : Wp M Q pc L (.ref x :: st) h := by
  subst hp
  intro p l e s m args below meth c D ad ca A H locs ls C Hh hl
  exact lv_astore_n C.1 C.2.1 d rfl (zl_has hl) hn rfl (fun ls' hl' => k p l e s m args below meth c D ad ca A H locs ls' C Hh (zl_put (v := .ref x) hc hl'))
theorem Wp.astore {M : zm_I} {Q : Option Value → zh → Prop} {pc pc2 : Nat} {L st : List Value} {h : zh} {i : Nat} {x : Nat} (d : decode (zm_c M) pc = .ok (.astore i, 2)) (hp : pc + 2 = pc2) (hn : i < zm_n M) (hc : (L.getD (i - 1) .null).category = 1) (k : Wp M Q pc2 (L.set i (.ref x)) st h) : Wp M Q pc L (.ref x :: st) h := by
  subst hp
  intro p l e s m args below meth c D ad ca A H locs ls C Hh hl
  exact lv_astore C.1 C.2.1 d (zl_has hl) hn rfl (fun ls' hl' => k p l e s m args below meth c D ad ca A H locs ls' C Hh (zl_put (v := .ref x) hc hl'))
theorem Wp.lstore_n {M : zm_I} {Q : Option Value → zh → Prop} {pc pc2 : Nat} {L st : List Value} {h : zh} {k0 : Fin 4} {x : Int64} (d : decode (zm_c M) pc = .ok (.lstore_n k0, 1)) (hp : pc + 1 = pc2) (hn : (k0 : Nat) + 1 < zm_n M) (hc : (L.getD ((k0 : Nat) - 1) .null).category = 1) (k : Wp M Q pc2 ((L.set (k0 : Nat) (.long x)).set ((k0 : Nat) + 1) .null) st h) : Wp M Q pc L (.long x :: st) h := by
  subst hp
  intro p l e s m args below meth c D ad ca A H locs ls C Hh hl
  exact lv_lstore_n C.1 C.2.1 d rfl (zl_has hl) hn rfl (fun ls' hl' => k p l e s m args below meth c D ad ca A H locs ls' C Hh (zl_put2 (v := .long x) hc hl'))
theorem Wp.lstore {M : zm_I} {Q : Option Value → zh → Prop} {pc pc2 : Nat} {L st : List Value} {h : zh} {i : Nat} {x : Int64} (d : decode (zm_c M) pc = .ok (.lstore i, 2)) (hp : pc + 2 = pc2) (hn : i + 1 < zm_n M) (hc : (L.getD (i - 1) .null).category = 1) (k : Wp M Q pc2 ((L.set i (.long x)).set (i + 1) .null) st h) : Wp M Q pc L (.long x :: st) h := by
  subst hp
  intro p l e s m args below meth c D ad ca A H locs ls C Hh hl
  exact lv_lstore C.1 C.2.1 d (zl_has hl) hn rfl (fun ls' hl' => k p l e s m args below meth c D ad ca A H locs ls' C Hh (zl_put2 (v := .long x) hc hl'))
theorem Wp.iinc {M : zm_I} {Q : Option Value → zh → Prop} {pc pc2 : Nat} {L st : List Value} {h : zh} {i : Nat} {n : Int} {x : Int32} (d : decode (zm_c M) pc = .ok (.iinc i n, 3)) (hp : pc + 3 = pc2) (hL : L[i]? = some (.int x)) (v : Int32) (hv : x + Int32.ofInt n = v) (hn : i < zm_n M) (hc : (L.getD (i - 1) .null).category = 1) (k : Wp M Q pc2 (L.set i (.int v)) st h) : Wp M Q pc L st h := by
  subst hp
  intro p l e s m args below meth c D ad ca A H locs ls C Hh hl
  obtain ⟨kk, hkk⟩ := List.getElem?_of_mem (zls_mem (ad := ad) hL (fun z => by cases z))
  exact lv_iinc (v := v) C.1 C.2.1 d (zl_has hl) hkk hv hn rfl (fun ls' hl' => k p l e s m args below meth c D ad ca A H locs ls' C Hh (zl_put (v := .int v) hc hl'))
theorem Wp.iadd {M : zm_I} {Q : Option Value → zh → Prop} {pc pc2 : Nat} {L st : List Value} {h : zh} {x y : Int32} (d : decode (zm_c M) pc = .ok (.iadd, 1)) (hp : pc + 1 = pc2)  (k : Wp M Q pc2 L (.int (x + y) :: st) h) : Wp M Q pc L (.int y :: .int x :: st) h := by
  subst hp
  intro p l e s m args below meth c D ad ca A H locs ls C Hh hl
  exact lv_iadd C.1 C.2.1 d  (k p l e s m args below meth c D ad ca A H locs ls C Hh hl)
theorem Wp.isub {M : zm_I} {Q : Option Value → zh → Prop} {pc pc2 : Nat} {L st : List Value} {h : zh} {x y : Int32} (d : decode (zm_c M) pc = .ok (.isub, 1)) (hp : pc + 1 = pc2)  (k : Wp M Q pc2 L (.int (x - y) :: st) h) : Wp M Q pc L (.int y :: .int x :: st) h := by
  subst hp
  intro p l e s m args below meth c D ad ca A H locs ls C Hh hl
  exact lv_isub C.1 C.2.1 d  (k p l e s m args below meth c D ad ca A H locs ls C Hh hl)
theorem Wp.imul {M : zm_I} {Q : Option Value → zh → Prop} {pc pc2 : Nat} {L st : List Value} {h : zh} {x y : Int32} (d : decode (zm_c M) pc = .ok (.imul, 1)) (hp : pc + 1 = pc2)  (k : Wp M Q pc2 L (.int (x * y) :: st) h) : Wp M Q pc L (.int y :: .int x :: st) h := by
  subst hp
  intro p l e s m args below meth c D ad ca A H locs ls C Hh hl
  exact lv_imul C.1 C.2.1 d  (k p l e s m args below meth c D ad ca A H locs ls C Hh hl)
theorem Wp.iand {M : zm_I} {Q : Option Value → zh → Prop} {pc pc2 : Nat} {L st : List Value} {h : zh} {x y : Int32} (d : decode (zm_c M) pc = .ok (.iand, 1)) (hp : pc + 1 = pc2)  (k : Wp M Q pc2 L (.int (x &&& y) :: st) h) : Wp M Q pc L (.int y :: .int x :: st) h := by
  subst hp
  intro p l e s m args below meth c D ad ca A H locs ls C Hh hl
  exact lv_iand C.1 C.2.1 d  (k p l e s m args below meth c D ad ca A H locs ls C Hh hl)
theorem Wp.ior {M : zm_I} {Q : Option Value → zh → Prop} {pc pc2 : Nat} {L st : List Value} {h : zh} {x y : Int32} (d : decode (zm_c M) pc = .ok (.ior, 1)) (hp : pc + 1 = pc2)  (k : Wp M Q pc2 L (.int (x ||| y) :: st) h) : Wp M Q pc L (.int y :: .int x :: st) h := by
  subst hp
  intro p l e s m args below meth c D ad ca A H locs ls C Hh hl
  exact lv_ior C.1 C.2.1 d  (k p l e s m args below meth c D ad ca A H locs ls C Hh hl)
theorem Wp.ishl {M : zm_I} {Q : Option Value → zh → Prop} {pc pc2 : Nat} {L st : List Value} {h : zh} {x y : Int32} (d : decode (zm_c M) pc = .ok (.ishl, 1)) (hp : pc + 1 = pc2)  (k : Wp M Q pc2 L (.int (x <<< (y &&& 31)) :: st) h) : Wp M Q pc L (.int y :: .int x :: st) h := by
  subst hp
  intro p l e s m args below meth c D ad ca A H locs ls C Hh hl
  exact lv_ishl C.1 C.2.1 d  (k p l e s m args below meth c D ad ca A H locs ls C Hh hl)
theorem Wp.ishr {M : zm_I} {Q : Option Value → zh → Prop} {pc pc2 : Nat} {L st : List Value} {h : zh} {x y : Int32} (d : decode (zm_c M) pc = .ok (.ishr, 1)) (hp : pc + 1 = pc2)  (k : Wp M Q pc2 L (.int (x >>> (y &&& 31)) :: st) h) : Wp M Q pc L (.int y :: .int x :: st) h := by
  subst hp
  intro p l e s m args below meth c D ad ca A H locs ls C Hh hl
  exact lv_ishr C.1 C.2.1 d  (k p l e s m args below meth c D ad ca A H locs ls C Hh hl)
theorem Wp.idiv {M : zm_I} {Q : Option Value → zh → Prop} {pc pc2 : Nat} {L st : List Value} {h : zh} {x y : Int32} (d : decode (zm_c M) pc = .ok (.idiv, 1)) (hp : pc + 1 = pc2) (hne : ¬ y = 0) (k : Wp M Q pc2 L (.int (x / y) :: st) h) : Wp M Q pc L (.int y :: .int x :: st) h := by
  subst hp
  intro p l e s m args below meth c D ad ca A H locs ls C Hh hl
  exact lv_idiv C.1 C.2.1 d hne (k p l e s m args below meth c D ad ca A H locs ls C Hh hl)
theorem Wp.irem {M : zm_I} {Q : Option Value → zh → Prop} {pc pc2 : Nat} {L st : List Value} {h : zh} {x y : Int32} (d : decode (zm_c M) pc = .ok (.irem, 1)) (hp : pc + 1 = pc2) (hne : ¬ y = 0) (k : Wp M Q pc2 L (.int (x - x / y * y) :: st) h) : Wp M Q pc L (.int y :: .int x :: st) h := by
  subst hp
  intro p l e s m args below meth c D ad ca A H locs ls C Hh hl
  exact lv_irem C.1 C.2.1 d hne (k p l e s m args below meth c D ad ca A H locs ls C Hh hl)
theorem Wp.lmul {M : zm_I} {Q : Option Value → zh → Prop} {pc pc2 : Nat} {L st : List Value} {h : zh} {x y : Int64} (d : decode (zm_c M) pc = .ok (.lmul, 1)) (hp : pc + 1 = pc2)  (k : Wp M Q pc2 L (.long (x * y) :: st) h) : Wp M Q pc L (.long y :: .long x :: st) h := by
  subst hp
  intro p l e s m args below meth c D ad ca A H locs ls C Hh hl
  exact lv_lmul C.1 C.2.1 d  (k p l e s m args below meth c D ad ca A H locs ls C Hh hl)
theorem Wp.i2l {M : zm_I} {Q : Option Value → zh → Prop} {pc pc2 : Nat} {L st : List Value} {h : zh} {x : Int32} (d : decode (zm_c M) pc = .ok (.i2l, 1)) (hp : pc + 1 = pc2) (v : Int64) (hv : x.toInt64 = v) (k : Wp M Q pc2 L (.long v :: st) h) : Wp M Q pc L (.int x :: st) h := by
  subst hp
  intro p l e s m args below meth c D ad ca A H locs ls C Hh hl
  exact lv_i2l C.1 C.2.1 d hv (k p l e s m args below meth c D ad ca A H locs ls C Hh hl)
theorem Wp.lcmp {M : zm_I} {Q : Option Value → zh → Prop} {pc pc2 : Nat} {L st : List Value} {h : zh} {x y : Int64} (d : decode (zm_c M) pc = .ok (.lcmp, 1)) (hp : pc + 1 = pc2)  (k : Wp M Q pc2 L (.int (lg_cmp x y) :: st) h) : Wp M Q pc L (.long y :: .long x :: st) h := by
  subst hp
  intro p l e s m args below meth c D ad ca A H locs ls C Hh hl
  exact W.lcmp C.1 C.2.1 d  (k p l e s m args below meth c D ad ca A H locs ls C Hh hl)
theorem Wp.dup {M : zm_I} {Q : Option Value → zh → Prop} {pc pc2 : Nat} {L st : List Value} {h : zh} {v : Value} (d : decode (zm_c M) pc = .ok (.dup, 1)) (hp : pc + 1 = pc2) (hv : v.category = 1) (k : Wp M Q pc2 L (v :: v :: st) h) : Wp M Q pc L (v :: st) h := by
  subst hp
  intro p l e s m args below meth c D ad ca A H locs ls C Hh hl
  exact lv_dup C.1 C.2.1 d ((zv_cat ad v).trans hv) (k p l e s m args below meth c D ad ca A H locs ls C Hh hl)
theorem Wp.pop {M : zm_I} {Q : Option Value → zh → Prop} {pc pc2 : Nat} {L st : List Value} {h : zh} {v : Value} (d : decode (zm_c M) pc = .ok (.pop, 1)) (hp : pc + 1 = pc2) (hv : v.category = 1) (k : Wp M Q pc2 L st h) : Wp M Q pc L (v :: st) h := by
  subst hp
  intro p l e s m args below meth c D ad ca A H locs ls C Hh hl
  exact lv_pop C.1 C.2.1 d ((zv_cat ad v).trans hv) (k p l e s m args below meth c D ad ca A H locs ls C Hh hl)
theorem Wp.dup2 {M : zm_I} {Q : Option Value → zh → Prop} {pc pc2 : Nat} {L st : List Value} {h : zh} {v w : Value} (d : decode (zm_c M) pc = .ok (.dup2, 1)) (hp : pc + 1 = pc2) (hv : v.category = 1) (hw : w.category = 1) (k : Wp M Q pc2 L (v :: w :: v :: w :: st) h) : Wp M Q pc L (v :: w :: st) h := by
  subst hp
  intro p l e s m args below meth c D ad ca A H locs ls C Hh hl
  exact lv_dup2_11 C.1 C.2.1 d ((zv_cat ad v).trans hv) ((zv_cat ad w).trans hw) (k p l e s m args below meth c D ad ca A H locs ls C Hh hl)
theorem Wp.icmp_eq {M : zm_I} {Q : Option Value → zh → Prop} {pc pc2 : Nat} {L st : List Value} {h : zh} {x y : Int32} {off : Int} (tgt : Nat) (d : decode (zm_c M) pc = .ok (.if_icmp .eq off, 3)) (hp : pc + 3 = pc2) (ht : (pc : Int) + off = (tgt : Int)) (kt : x = y → Wp M Q tgt L st h) (kf : ¬ x = y → Wp M Q pc2 L st h) : Wp M Q pc L (.int y :: .int x :: st) h := by
  subst hp
  intro p l e s m args below meth c D ad ca A H locs ls C Hh hl
  exact lv_icmp_eq C.1 C.2.1 d ht (fun z => kt z p l e s m args below meth c D ad ca A H locs ls C Hh hl) (fun z => kf z p l e s m args below meth c D ad ca A H locs ls C Hh hl)
theorem Wp.if_eq {M : zm_I} {Q : Option Value → zh → Prop} {pc pc2 : Nat} {L st : List Value} {h : zh} {x : Int32} {off : Int} (tgt : Nat) (d : decode (zm_c M) pc = .ok (.ifCond .eq off, 3)) (hp : pc + 3 = pc2) (ht : (pc : Int) + off = (tgt : Int)) (kt : x = 0 → Wp M Q tgt L st h) (kf : ¬ x = 0 → Wp M Q pc2 L st h) : Wp M Q pc L (.int x :: st) h := by
  subst hp
  intro p l e s m args below meth c D ad ca A H locs ls C Hh hl
  exact lv_if_eq C.1 C.2.1 d ht (fun z => kt z p l e s m args below meth c D ad ca A H locs ls C Hh hl) (fun z => kf z p l e s m args below meth c D ad ca A H locs ls C Hh hl)
theorem Wp.icmp_ne {M : zm_I} {Q : Option Value → zh → Prop} {pc pc2 : Nat} {L st : List Value} {h : zh} {x y : Int32} {off : Int} (tgt : Nat) (d : decode (zm_c M) pc = .ok (.if_icmp .ne off, 3)) (hp : pc + 3 = pc2) (ht : (pc : Int) + off = (tgt : Int)) (kt : ¬ x = y → Wp M Q tgt L st h) (kf : x = y → Wp M Q pc2 L st h) : Wp M Q pc L (.int y :: .int x :: st) h := by
  subst hp
  intro p l e s m args below meth c D ad ca A H locs ls C Hh hl
  exact lv_icmp_ne C.1 C.2.1 d ht (fun z => kt z p l e s m args below meth c D ad ca A H locs ls C Hh hl) (fun z => kf z p l e s m args below meth c D ad ca A H locs ls C Hh hl)
theorem Wp.if_ne {M : zm_I} {Q : Option Value → zh → Prop} {pc pc2 : Nat} {L st : List Value} {h : zh} {x : Int32} {off : Int} (tgt : Nat) (d : decode (zm_c M) pc = .ok (.ifCond .ne off, 3)) (hp : pc + 3 = pc2) (ht : (pc : Int) + off = (tgt : Int)) (kt : ¬ x = 0 → Wp M Q tgt L st h) (kf : x = 0 → Wp M Q pc2 L st h) : Wp M Q pc L (.int x :: st) h := by
  subst hp
  intro p l e s m args below meth c D ad ca A H locs ls C Hh hl
  exact lv_if_ne C.1 C.2.1 d ht (fun z => kt z p l e s m args below meth c D ad ca A H locs ls C Hh hl) (fun z => kf z p l e s m args below meth c D ad ca A H locs ls C Hh hl)
theorem Wp.icmp_lt {M : zm_I} {Q : Option Value → zh → Prop} {pc pc2 : Nat} {L st : List Value} {h : zh} {x y : Int32} {off : Int} (tgt : Nat) (d : decode (zm_c M) pc = .ok (.if_icmp .lt off, 3)) (hp : pc + 3 = pc2) (ht : (pc : Int) + off = (tgt : Int)) (kt : x < y → Wp M Q tgt L st h) (kf : ¬ x < y → Wp M Q pc2 L st h) : Wp M Q pc L (.int y :: .int x :: st) h := by
  subst hp
  intro p l e s m args below meth c D ad ca A H locs ls C Hh hl
  exact lv_icmp_lt C.1 C.2.1 d ht (fun z => kt z p l e s m args below meth c D ad ca A H locs ls C Hh hl) (fun z => kf z p l e s m args below meth c D ad ca A H locs ls C Hh hl)
theorem Wp.if_lt {M : zm_I} {Q : Option Value → zh → Prop} {pc pc2 : Nat} {L st : List Value} {h : zh} {x : Int32} {off : Int} (tgt : Nat) (d : decode (zm_c M) pc = .ok (.ifCond .lt off, 3)) (hp : pc + 3 = pc2) (ht : (pc : Int) + off = (tgt : Int)) (kt : x < 0 → Wp M Q tgt L st h) (kf : ¬ x < 0 → Wp M Q pc2 L st h) : Wp M Q pc L (.int x :: st) h := by
  subst hp
  intro p l e s m args below meth c D ad ca A H locs ls C Hh hl
  exact lv_if_lt C.1 C.2.1 d ht (fun z => kt z p l e s m args below meth c D ad ca A H locs ls C Hh hl) (fun z => kf z p l e s m args below meth c D ad ca A H locs ls C Hh hl)
theorem Wp.icmp_ge {M : zm_I} {Q : Option Value → zh → Prop} {pc pc2 : Nat} {L st : List Value} {h : zh} {x y : Int32} {off : Int} (tgt : Nat) (d : decode (zm_c M) pc = .ok (.if_icmp .ge off, 3)) (hp : pc + 3 = pc2) (ht : (pc : Int) + off = (tgt : Int)) (kt : y ≤ x → Wp M Q tgt L st h) (kf : ¬ y ≤ x → Wp M Q pc2 L st h) : Wp M Q pc L (.int y :: .int x :: st) h := by
  subst hp
  intro p l e s m args below meth c D ad ca A H locs ls C Hh hl
  exact lv_icmp_ge C.1 C.2.1 d ht (fun z => kt z p l e s m args below meth c D ad ca A H locs ls C Hh hl) (fun z => kf z p l e s m args below meth c D ad ca A H locs ls C Hh hl)
theorem Wp.if_ge {M : zm_I} {Q : Option Value → zh → Prop} {pc pc2 : Nat} {L st : List Value} {h : zh} {x : Int32} {off : Int} (tgt : Nat) (d : decode (zm_c M) pc = .ok (.ifCond .ge off, 3)) (hp : pc + 3 = pc2) (ht : (pc : Int) + off = (tgt : Int)) (kt : 0 ≤ x → Wp M Q tgt L st h) (kf : ¬ 0 ≤ x → Wp M Q pc2 L st h) : Wp M Q pc L (.int x :: st) h := by
  subst hp
  intro p l e s m args below meth c D ad ca A H locs ls C Hh hl
  exact lv_if_ge C.1 C.2.1 d ht (fun z => kt z p l e s m args below meth c D ad ca A H locs ls C Hh hl) (fun z => kf z p l e s m args below meth c D ad ca A H locs ls C Hh hl)
theorem Wp.icmp_gt {M : zm_I} {Q : Option Value → zh → Prop} {pc pc2 : Nat} {L st : List Value} {h : zh} {x y : Int32} {off : Int} (tgt : Nat) (d : decode (zm_c M) pc = .ok (.if_icmp .gt off, 3)) (hp : pc + 3 = pc2) (ht : (pc : Int) + off = (tgt : Int)) (kt : y < x → Wp M Q tgt L st h) (kf : ¬ y < x → Wp M Q pc2 L st h) : Wp M Q pc L (.int y :: .int x :: st) h := by
  subst hp
  intro p l e s m args below meth c D ad ca A H locs ls C Hh hl
  exact lv_icmp_gt C.1 C.2.1 d ht (fun z => kt z p l e s m args below meth c D ad ca A H locs ls C Hh hl) (fun z => kf z p l e s m args below meth c D ad ca A H locs ls C Hh hl)
theorem Wp.if_gt {M : zm_I} {Q : Option Value → zh → Prop} {pc pc2 : Nat} {L st : List Value} {h : zh} {x : Int32} {off : Int} (tgt : Nat) (d : decode (zm_c M) pc = .ok (.ifCond .gt off, 3)) (hp : pc + 3 = pc2) (ht : (pc : Int) + off = (tgt : Int)) (kt : 0 < x → Wp M Q tgt L st h) (kf : ¬ 0 < x → Wp M Q pc2 L st h) : Wp M Q pc L (.int x :: st) h := by
  subst hp
  intro p l e s m args below meth c D ad ca A H locs ls C Hh hl
  exact lv_if_gt C.1 C.2.1 d ht (fun z => kt z p l e s m args below meth c D ad ca A H locs ls C Hh hl) (fun z => kf z p l e s m args below meth c D ad ca A H locs ls C Hh hl)
theorem Wp.icmp_le {M : zm_I} {Q : Option Value → zh → Prop} {pc pc2 : Nat} {L st : List Value} {h : zh} {x y : Int32} {off : Int} (tgt : Nat) (d : decode (zm_c M) pc = .ok (.if_icmp .le off, 3)) (hp : pc + 3 = pc2) (ht : (pc : Int) + off = (tgt : Int)) (kt : x ≤ y → Wp M Q tgt L st h) (kf : ¬ x ≤ y → Wp M Q pc2 L st h) : Wp M Q pc L (.int y :: .int x :: st) h := by
  subst hp
  intro p l e s m args below meth c D ad ca A H locs ls C Hh hl
  exact lv_icmp_le C.1 C.2.1 d ht (fun z => kt z p l e s m args below meth c D ad ca A H locs ls C Hh hl) (fun z => kf z p l e s m args below meth c D ad ca A H locs ls C Hh hl)
theorem Wp.if_le {M : zm_I} {Q : Option Value → zh → Prop} {pc pc2 : Nat} {L st : List Value} {h : zh} {x : Int32} {off : Int} (tgt : Nat) (d : decode (zm_c M) pc = .ok (.ifCond .le off, 3)) (hp : pc + 3 = pc2) (ht : (pc : Int) + off = (tgt : Int)) (kt : x ≤ 0 → Wp M Q tgt L st h) (kf : ¬ x ≤ 0 → Wp M Q pc2 L st h) : Wp M Q pc L (.int x :: st) h := by
  subst hp
  intro p l e s m args below meth c D ad ca A H locs ls C Hh hl
  exact lv_if_le C.1 C.2.1 d ht (fun z => kt z p l e s m args below meth c D ad ca A H locs ls C Hh hl) (fun z => kf z p l e s m args below meth c D ad ca A H locs ls C Hh hl)
theorem Wp.goto {M : zm_I} {Q : Option Value → zh → Prop} {pc pc2 : Nat} {L st : List Value} {h : zh} {off : Int} (d : decode (zm_c M) pc = .ok (.goto off, 3)) (ht : (pc : Int) + off = (pc2 : Int)) (k : Wp M Q pc2 L st h) : Wp M Q pc L st h := by
  intro p l e s m args below meth c D ad ca A H locs ls C Hh hl
  exact lv_goto C.1 C.2.1 d ht (k p l e s m args below meth c D ad ca A H locs ls C Hh hl)
theorem Wp.tableOut {M : zm_I} {Q : Option Value → zh → Prop} {pc pc2 : Nat} {L st : List Value} {h : zh} {dflt lo hi : Int} {offs : Array Int} {len : Nat} {x : Int32} (d : decode (zm_c M) pc = .ok (.tableswitch dflt lo hi offs, len)) (hx : x.toInt < lo ∨ hi < x.toInt) (ht : (pc : Int) + dflt = (pc2 : Int)) (k : Wp M Q pc2 L st h) : Wp M Q pc L (.int x :: st) h := by
  intro p l e s m args below meth c D ad ca A H locs ls C Hh hl
  exact lv_tableOut C.1 C.2.1 d hx ht (k p l e s m args below meth c D ad ca A H locs ls C Hh hl)
theorem Wp.tableIn {M : zm_I} {Q : Option Value → zh → Prop} {pc pc2 : Nat} {L st : List Value} {h : zh} {dflt lo hi off : Int} {offs : Array Int} {len : Nat} {x : Int32} (d : decode (zm_c M) pc = .ok (.tableswitch dflt lo hi offs, len)) (h1 : ¬ x.toInt < lo) (h2 : ¬ hi < x.toInt) (ho : offs[(x.toInt - lo).toNat]? = some off) (ht : (pc : Int) + off = (pc2 : Int)) (k : Wp M Q pc2 L st h) : Wp M Q pc L (.int x :: st) h := by
  intro p l e s m args below meth c D ad ca A H locs ls C Hh hl
  exact lv_tableIn C.1 C.2.1 d h1 h2 ho ht (k p l e s m args below meth c D ad ca A H locs ls C Hh hl)
theorem Wp.top {M : zm_I} {Q : Option Value → zh → Prop} {pc : Nat} {L st : List Value} {h : zh} {x : Int32} (y : Int32) (e : x = y) (k : Wp M Q pc L (.int y :: st) h) : Wp M Q pc L (.int x :: st) h := e ▸ k
def zF (own : String) (idx ci k : Nat) : Prop := ∃ (C : String) (T : u_T) (N : Nat), vwCl[ci]? = some (C, T, N) ∧ (∀ w ∈ u_ws C T N, w ∈ zT) ∧ k < N ∧ Cond.fieldLink own idx (T k).1 (T k).2.1 (T k).2.2.1 ∈ zT
def zG (own : String) (idx ci k : Nat) (ty : FieldType) : Prop := ∃ (C : String) (T : u_T) (N : Nat) (ty0 : Nat → FieldType), vwCl[ci]? = some (C, T, N) ∧ (∀ w ∈ u_ws C T N, w ∈ zT) ∧ (∀ k, k < N → parseFieldDescriptor (T k).2.2.1 = some (ty0 k)) ∧ (∀ a, a < N → ∀ b, b < N → a ≠ b → (T a).2.1 ≠ (T b).2.1) ∧ k < N ∧ Cond.fieldLink own idx (T k).1 (T k).2.1 (T k).2.2.1 ∈ zT ∧ (T k).2.2.2 = false ∧ parseFieldDescriptor (T k).2.2.1 = some ty
theorem Wp.getf {M : zm_I} {Q : Option Value → zh → Prop} {pc pc2 : Nat} {L st : List Value} {h : zh} {idx ci k0 a : Nat} {fs : List Value} {v : Value} (F : zF (zm_y M).cls idx ci k0) (d : decode (zm_c M) pc = .ok (.getfield idx, 3)) (hp : pc + 3 = pc2) (he : h[a]? = some (.inr (ci, fs))) (hv : fs[k0]? = some v) (k : Wp M Q pc2 L (v :: st) h) : Wp M Q pc L (.ref a :: st) h := by
  subst hp
  obtain ⟨Cn, Tn, N, f1, f2, f3, f4⟩ := F
  intro p l e s m args below meth c D ad ca A H locs ls C Hh hl
  exact va_get C.1 C.2.1 C.2.2.2.2.2.2.1 f2 C.2.2.2.2.1 C.2.2.2.2.2.2.2.2 Hh.1 a (zw_at he) f1 k0 f3 (C.2.2.2.2.2.2.1 _ f4) (fun _ h9 => h9) (v := zv ad v) (by rw [List.getElem?_map, hv]; rfl) d (k p l e s m args below meth c D ad ca A H locs ls C Hh hl)
theorem Wp.putf {M : zm_I} {Q : Option Value → zh → Prop} {pc pc2 : Nat} {L st : List Value} {h : zh} {idx ci k0 a : Nat} {fs : List Value} {x : Int32} {ty : FieldType} (F : zG (zm_y M).cls idx ci k0 ty) (d : decode (zm_c M) pc = .ok (.putfield idx, 3)) (hp : pc + 3 = pc2) (he : h[a]? = some (.inr (ci, fs))) (hk : k0 < fs.length) (hn : narrow ty (.int x) = .int x) (hf : fits ty (.int x) = true) (k : Wp M Q pc2 L st (h.set a (.inr (ci, fs.set k0 (.int x))))) : Wp M Q pc L (.int x :: .ref a :: st) h := by
  subst hp
  obtain ⟨Cn, Tn, N, ty0, f1, f2, f3, f4, f5, f6, f7, f8⟩ := F
  intro p l e s m args below meth c D ad ca A H locs ls C Hh hl
  refine va_put (v := .int x) C.1 C.2.1 C.2.2.2.2.2.2.1 f2 ty0 f3 f4 C.2.2.2.2.1 C.2.2.2.2.2.2.2.2 Hh.1 Hh.2.1 Hh.2.2 a (zw_at he) f1 k0 f5 (C.2.2.2.2.2.2.1 _ f6) (fun _ h9 => h9) f7 f8 hn hf (by rw [List.length_map]; exact hk) d (fun H1 locs1 hP hD hS => ?_)
  have e0 : (ad a, (Sum.inr (ci, (fs.map (zv ad)).set k0 (.int x)) : va_E)) = (ad a, ze ad ca (.inr (ci, fs.set k0 (.int x)))) := by
    show _ = (ad a, (Sum.inr (ci, (fs.set k0 (.int x)).map (zv ad)) : va_E))
    rw [List.map_set]; rfl
  rw [e0, zw_set] at hP hD
  exact k p l e s m args below meth c D ad ca A H1 locs1 ls C ⟨hP, hD, hS⟩ hl
theorem Wp.iald {M : zm_I} {Q : Option Value → zh → Prop} {pc pc2 : Nat} {L st : List Value} {h : zh} {a n : Nat} {f : Nat → Int32} {i : Int32} (d : decode (zm_c M) pc = .ok (.iaload, 1)) (hp : pc + 1 = pc2) (ha : h[a]? = some (.inl (0, n, .inl f))) (hin : vp_in i n) (k : Wp M Q pc2 L (.int (f i.toNatClampNeg) :: st) h) : Wp M Q pc L (.int i :: .ref a :: st) h := by
  subst hp
  intro p l e s m args below meth c D ad ca A H locs ls C Hh hl
  exact va_iald C.1 C.2.1 C.2.2.2.2.2.2.2.2 Hh.1 a 0 (zw_at ha) rfl hin d (k p l e s m args below meth c D ad ca A H locs ls C Hh hl)
theorem Wp.ialdN {M : zm_I} {Q : Option Value → zh → Prop} {pc pc2 : Nat} {L st : List Value} {h : zh} {a n j : Nat} {f : Nat → Int32} (d : decode (zm_c M) pc = .ok (.iaload, 1)) (hp : pc + 1 = pc2) (ha : h[a]? = some (.inl (0, n, .inl f))) (hj : j < n) (hn : n < 2 ^ 31) (k : Wp M Q pc2 L (.int (f j) :: st) h) : Wp M Q pc L (.int (nI j) :: .ref a :: st) h := by
  refine Wp.iald d hp ha (vp_in_nI hj hn) ?_
  rw [nI_clamp (by omega)]
  exact k
theorem Wp.zald {M : zm_I} {Q : Option Value → zh → Prop} {pc pc2 : Nat} {L st : List Value} {h : zh} {a n : Nat} {f : Nat → Int32} {i : Int32} (d : decode (zm_c M) pc = .ok (.baload, 1)) (hp : pc + 1 = pc2) (ha : h[a]? = some (.inl (1, n, .inl f))) (hin : vp_in i n) (k : Wp M Q pc2 L (.int (f i.toNatClampNeg) :: st) h) : Wp M Q pc L (.int i :: .ref a :: st) h := by
  subst hp
  intro p l e s m args below meth c D ad ca A H locs ls C Hh hl
  exact va_zald C.1 C.2.1 C.2.2.2.2.2.2.2.2 Hh.1 a 1 (zw_at ha) rfl hin d (k p l e s m args below meth c D ad ca A H locs ls C Hh hl)
theorem Wp.zaldN {M : zm_I} {Q : Option Value → zh → Prop} {pc pc2 : Nat} {L st : List Value} {h : zh} {a n j : Nat} {f : Nat → Int32} (d : decode (zm_c M) pc = .ok (.baload, 1)) (hp : pc + 1 = pc2) (ha : h[a]? = some (.inl (1, n, .inl f))) (hj : j < n) (hn : n < 2 ^ 31) (k : Wp M Q pc2 L (.int (f j) :: st) h) : Wp M Q pc L (.int (nI j) :: .ref a :: st) h := by
  refine Wp.zald d hp ha (vp_in_nI hj hn) ?_
  rw [nI_clamp (by omega)]
  exact k
theorem Wp.iast {M : zm_I} {Q : Option Value → zh → Prop} {pc pc2 : Nat} {L st : List Value} {h : zh} {a n : Nat} {f : Nat → Int32} {i x : Int32} (d : decode (zm_c M) pc = .ok (.iastore, 1)) (hp : pc + 1 = pc2) (ha : h[a]? = some (.inl (0, n, .inl f))) (hin : vp_in i n) (k : Wp M Q pc2 L st (h.set a (.inl (0, n, .inl (upd f i.toNatClampNeg x))))) : Wp M Q pc L (.int x :: .int i :: .ref a :: st) h := by
  subst hp
  intro p l e s m args below meth c D ad ca A H locs ls C Hh hl
  refine va_iast C.1 C.2.1 C.2.2.2.2.2.2.2.2 Hh.1 Hh.2.1 Hh.2.2 a 0 (zw_at ha) rfl hin d (fun H1 locs1 hP hD hS => ?_)
  have e0 := zw_set ad ca h a (.inl (0, n, .inl (upd f i.toNatClampNeg x)))
  exact k p l e s m args below meth c D ad ca A H1 locs1 ls C ⟨e0 ▸ hP, e0 ▸ hD, hS⟩ hl
theorem Wp.iastN {M : zm_I} {Q : Option Value → zh → Prop} {pc pc2 : Nat} {L st : List Value} {h : zh} {a n j : Nat} {f : Nat → Int32} {x : Int32} (d : decode (zm_c M) pc = .ok (.iastore, 1)) (hp : pc + 1 = pc2) (ha : h[a]? = some (.inl (0, n, .inl f))) (hj : j < n) (hn : n < 2 ^ 31) (k : Wp M Q pc2 L st (h.set a (.inl (0, n, .inl (upd f j x))))) : Wp M Q pc L (.int x :: .int (nI j) :: .ref a :: st) h := by
  refine Wp.iast d hp ha (vp_in_nI hj hn) ?_
  rw [nI_clamp (by omega)]
  exact k
theorem Wp.zast {M : zm_I} {Q : Option Value → zh → Prop} {pc pc2 : Nat} {L st : List Value} {h : zh} {a n : Nat} {f : Nat → Int32} {i x : Int32} (d : decode (zm_c M) pc = .ok (.bastore, 1)) (hp : pc + 1 = pc2) (ha : h[a]? = some (.inl (1, n, .inl f))) (hin : vp_in i n) (hx : vp_nar .boolean x = x) (k : Wp M Q pc2 L st (h.set a (.inl (1, n, .inl (upd f i.toNatClampNeg x))))) : Wp M Q pc L (.int x :: .int i :: .ref a :: st) h := by
  subst hp
  intro p l e s m args below meth c D ad ca A H locs ls C Hh hl
  refine va_zast C.1 C.2.1 C.2.2.2.2.2.2.2.2 Hh.1 Hh.2.1 Hh.2.2 a 1 (zw_at ha) rfl hin d (fun H1 locs1 hP hD hS => ?_)
  rw [hx] at hP hD
  have e0 := zw_set ad ca h a (.inl (1, n, .inl (upd f i.toNatClampNeg x)))
  exact k p l e s m args below meth c D ad ca A H1 locs1 ls C ⟨e0 ▸ hP, e0 ▸ hD, hS⟩ hl
theorem Wp.zastN {M : zm_I} {Q : Option Value → zh → Prop} {pc pc2 : Nat} {L st : List Value} {h : zh} {a n j : Nat} {f : Nat → Int32} {x : Int32} (d : decode (zm_c M) pc = .ok (.bastore, 1)) (hp : pc + 1 = pc2) (ha : h[a]? = some (.inl (1, n, .inl f))) (hj : j < n) (hn : n < 2 ^ 31) (hx : vp_nar .boolean x = x) (k : Wp M Q pc2 L st (h.set a (.inl (1, n, .inl (upd f j x))))) : Wp M Q pc L (.int x :: .int (nI j) :: .ref a :: st) h := by
  refine Wp.zast d hp ha (vp_in_nI hj hn) hx ?_
  rw [nI_clamp (by omega)]
  exact k
theorem Wp.alen {M : zm_I} {Q : Option Value → zh → Prop} {pc pc2 : Nat} {L st : List Value} {h : zh} {a n t0 : Nat} {f : Nat → Int32} (d : decode (zm_c M) pc = .ok (.arraylength, 1)) (hp : pc + 1 = pc2) (ha : h[a]? = some (.inl (t0, n, .inl f))) (ht : t0 < 2) (k : Wp M Q pc2 L (.int (nI n) :: st) h) : Wp M Q pc L (.ref a :: st) h := by
  subst hp
  intro p l e s m args below meth c D ad ca A H locs ls C Hh hl
  rcases (show t0 = 0 ∨ t0 = 1 by omega) with rfl | rfl
  · exact va_alen C.1 C.2.1 C.2.2.2.2.2.2.2.2 Hh.1 a 0 (zw_at ha) rfl rfl d (k p l e s m args below meth c D ad ca A H locs ls C Hh hl)
  · exact va_alen C.1 C.2.1 C.2.2.2.2.2.2.2.2 Hh.1 a 1 (zw_at ha) rfl rfl d (k p l e s m args below meth c D ad ca A H locs ls C Hh hl)
theorem Wp.aald {M : zm_I} {Q : Option Value → zh → Prop} {pc pc2 : Nat} {L st : List Value} {h : zh} {a n t0 j b : Nat} {f : Nat → Option Nat} (d : decode (zm_c M) pc = .ok (.aaload, 1)) (hp : pc + 1 = pc2) (ha : h[a]? = some (.inl (t0, n, .inr (.inr (.inr (.inr f)))))) (ht : t0 = 2 ∨ t0 = 3) (hj : j < n) (hn : n < 2 ^ 31) (hf : f j = some b) (k : Wp M Q pc2 L (.ref b :: st) h) : Wp M Q pc L (.int (nI j) :: .ref a :: st) h := by
  subst hp
  intro p l e s m args below meth c D ad ca A H locs ls C Hh hl
  have hw : va_rf ((f (nI j).toNatClampNeg).map ad) = .ref (ad b) := by rw [nI_clamp (by omega), hf]; rfl
  rcases ht with rfl | rfl
  · refine va_aldq C.1 C.2.1 C.2.2.2.2.2.2.2.2 Hh.1 a 2 (zw_at ha) rfl (vp_in_nI hj hn) d ?_
    rw [hw]
    exact k p l e s m args below meth c D ad ca A H locs ls C Hh hl
  · refine va_aldq C.1 C.2.1 C.2.2.2.2.2.2.2.2 Hh.1 a 3 (zw_at ha) rfl (vp_in_nI hj hn) d ?_
    rw [hw]
    exact k p l e s m args below meth c D ad ca A H locs ls C Hh hl
theorem Wp.ret {M : zm_I} {Q : Option Value → zh → Prop} {pc : Nat} {L : List Value} {h : zh} {x : Int32} {ty : FieldType} (d : decode (zm_c M) pc = .ok (.ireturn, 1)) (hr : zm_r M = some ty) (hn : narrow ty (.int x) = .int x) (q : Q (some (.int x)) h) : Wp M Q pc L [.int x] h := by
  intro p l e s m args below meth c D ad ca A H locs ls C Hh hl
  refine W.zret (v := x) (ty := ty) C.1 C.2.1 (C.2.2.1.trans hr) hn (fun t ht hW => ?_) Hh.2.2.2.2 d C.2.2.2.2.2.1
  exact ⟨⟨some (.int x), h, rfl, q, by rw [ht]; exact Hh.1, va_K.moved hW.alike C.2.2.2.2.2.2.2.2, Hh.2.1⟩, Hh.2.2.F ht⟩
theorem Wp.retv {M : zm_I} {Q : Option Value → zh → Prop} {pc : Nat} {L : List Value} {h : zh} (d : decode (zm_c M) pc = .ok (.return_, 1)) (hr : zm_r M = none) (q : Q none h) : Wp M Q pc L [] h := by
  intro p l e s m args below meth c D ad ca A H locs ls C Hh hl
  refine W.vret C.1 C.2.1 (C.2.2.1.trans hr) (fun t ht hW => ?_) Hh.2.2.2.2 d C.2.2.2.2.2.1
  exact ⟨⟨none, h, rfl, q, by rw [ht]; exact Hh.1, va_K.moved hW.alike C.2.2.2.2.2.2.2.2, Hh.2.1⟩, Hh.2.2.F ht⟩
/-- what a call needs of the tables: link, code, room -/
def zK (M M' : zm_I) (idx n : Nat) : Prop := (M'.2.2.2.2.1 + 1 ≤ M.2.2.2.2.1 ∧ 8 + (zm_n M' + 11) + M'.2.2.2.2.2 ≤ M.2.2.2.2.2) ∧ Cond.code (zm_y M') (zm_c M') (zm_n M') (zm_r M') ∈ zT ∧ Cond.methodLink (zm_y M).cls idx (zm_y M') ∈ zT ∧ Cond.initialized (zm_y M').cls ∈ zT ∧ ((zm_y M').cls ≠ "java/lang/invoke/MethodHandle" ∧ (zm_y M').cls ≠ "java/lang/invoke/VarHandle" ∧ (parseMethodDescriptor (zm_y M').desc).map (fun d => d.parameters.length) = some n)
def zKv (M' : zm_I) : Prop := Cond.instanceMethod (zm_y M') ∈ zT ∧ Cond.selects (zm_y M').cls (zm_y M') (zm_y M') ∈ zT
theorem zB {M M' : zm_I} {idx n : Nat} (K : zK M M' idx n) {s : State} {args : Array Value} (hts : ∀ w ∈ zT, w.before args s = true) : CallB (zm_R M) s args (zm_y M).cls idx (zm_y M') (zm_c M') (zm_n M') (zm_r M') (zm_w M') (zm_R M') 0 0 n := by
  obtain ⟨k1, k2, k3, k4, k5⟩ := K
  refine callB_of (Ts := zT) n hts ?_ rfl rfl rfl (hts _ k4) (hts _ k3) k5 k1
  intro w hw
  rcases List.mem_cons.mp hw with rfl | hw
  · exact ⟨k2, good_of_word (zgood k2)⟩
  · exact ⟨hw, good_of_word (zgood hw)⟩
theorem zblind (D : va_G) (ad : Nat → Nat) (ca : Nat → ClassId) (av : List Value) (h : zh) (sz : Nat) : FrameBlind (zP D ad ca av h sz) := by
  intro a U g mk q
  obtain ⟨q0, q1, qP, qK, qD⟩ := q
  exact ⟨q0, q1, qP, va_K.moved (u := U) (U := U.calling g mk a) (Vm.Alike.refl U.vm) qK, qD⟩
theorem zrest {m : MethodId} {pc : Nat} {ls : Array Slot} {st0 : List Value} {ad : Nat → Nat} {rest : List Value} (h : (rest.map fun v => v.category).sum ≤ 8) : 2 * (F0 m pc ls st0).monitorRoom + ((rest.map (zv ad)).map fun v => v.category).sum ≤ 8 := by
  refine lv_room ?_
  rw [List.map_map]
  have : ((fun v : Value => v.category) ∘ zv ad) = (fun v : Value => v.category) := funext fun v => zv_cat ad v
  rw [this]; exact h
theorem zafter {M : zm_I} {Q Qc : Option Value → zh → Prop} {pc : Nat} {L rest st0 : List Value} {h : zh} {a : Array Value}
    {p : Program} {l : Launch} {e : Env} {s : State} {m : MethodId} {args : Array Value} {below : List Frame} {meth : Method} {c : Code} {D : va_G} {ad : Nat → Nat} {ca : Nat → ClassId} {A : Nat → Prop} {H : Heap} {locs : List Loc} {ls : Array Slot}
    (C : zC M p s m args meth c D ca A) (Hh : zH s D ad ca A h H locs) (hl : zl ad ls (zm_n M) L)
    (hr : va_Run p l e (zm_R M) s m args below meth c H locs 0 0 0 0 (F0 m pc ls st0) (rest.map (zv ad)) (zQ D ad ca (va_A (zw ad ca h) H.size) Qc a) (va_A (zw ad ca h) H.size))
    (kk : ∀ (r : Option Value) (h' : zh), Qc r h' → Wp M Q (pc + 3) L (r.toList ++ rest) h') : W p l e (zm_R M) s m args below meth c H locs 0 0 (MQ below (zQ D ad ca A Q) args s 0 0 A) (F0 m pc ls st0) := by
  have hA : ∀ q, va_A (zw ad ca h) H.size q → A q := by
    intro q hq
    rcases hq with ⟨k, x, hk⟩ | hq
    · exact Hh.2.1.2 k _ hk
    · exact C.2.2.2.2.2.2.2.1 q (Nat.le_trans Hh.2.2.1 hq)
  intro T hT X
  obtain ⟨v, st₀, t, T', Lc, h0, X', hL, e1, e2, ⟨⟨r, h', hv, hq, hP, hK, hD⟩, hz, hk⟩, st⟩ := hr T hT X
  cases hv
  rw [h0] at hz hk
  have hS : va_S A s.heap T'.heap (locs ++ Lc) := ⟨Nat.le_trans Hh.2.2.1 (by rw [e1]; exact hz), fun q h1 h2 => by rw [e1, hk q (Nat.lt_of_lt_of_le h1 Hh.2.2.1) (fun z => h2 (hA q z))]; exact Hh.2.2.2.1 q h1 h2, fun q hq => by
      rcases List.mem_append.mp hq with h | h
      · exact Hh.2.2.2.2 q h
      · exact hA _ (hL q h)⟩
  have key := kk r h' hq p l e s m args below meth c D ad ca A T'.heap (locs ++ Lc) ls C ⟨by rw [e1]; exact hP, hD.weaken (fun k q _ h => hA q.1 h), hS⟩ hl
  rw [List.map_append] at key
  have er : (r.toList.map (zv ad)) = (r.map (zv ad)).toList := by cases r <;> rfl
  rw [er] at key
  obtain ⟨t2, a1, b1⟩ := key T' rfl X'
  exact ⟨t2, st t2 a1, b1⟩
theorem zpre {M : zm_I} {h : zh} {av : List Value} {p : Program} {s : State} {m : MethodId} {args : Array Value} {meth : Method} {c : Code} {D : va_G} {ad : Nat → Nat} {ca : Nat → ClassId} {A : Nat → Prop} {H : Heap} {locs : List Loc}
    (C : zC M p s m args meth c D ca A) (Hh : zH s D ad ca A h H locs) : ∀ U : State, U.heap = H → s.WarmedH U.vm → zP D ad ca av h H.size (av.map (zv ad)).toArray U := fun U hU hW =>
  ⟨rfl, by rw [hU], by rw [hU]; exact Hh.1, va_K.moved hW.alike C.2.2.2.2.2.2.2.2, Hh.2.1.weaken (fun _ _ _ _ => trivial)⟩
theorem Wp.callV {M : zm_I} {Q : Option Value → zh → Prop} {pc pc2 : Nat} {L : List Value} {h : zh} {M' : zm_I} {Qc : Option Value → zh → Prop} {idx n b ci : Nat} {As rest st0 : List Value} {fs : List Value} (K : zK M M' idx n) (Kv : zKv M') (hM : PM M' (.ref b :: As) h Qc) (d : decode (zm_c M) pc = .ok (.invokevirtual idx, 3)) (hp : pc + 3 = pc2) (he : h[b]? = some (.inr (ci, fs))) (hci : (vwCl[ci]?).map (fun q => q.1) = some (zm_y M').cls) (hn : As.length = n) (hst : st0 = As.reverse ++ .ref b :: rest) (hr : (rest.map fun v => v.category).sum ≤ 8)
    (kk : ∀ (r : Option Value) (h' : zh), Qc r h' → Wp M Q pc2 L (r.toList ++ rest) h') : Wp M Q pc L st0 h := by
  subst hp
  subst hst
  intro p l e s m args below meth c D ad ca A H locs ls C Hh hl
  obtain ⟨hx, hb, hret, hml, hown, hlk, hts, hA, hK⟩ := id C
  obtain ⟨q, hq, hq2⟩ := Option.map_eq_some_iff.mp hci
  have hrc : ∃ cell : Cell, H[ad b]? = some cell ∧ cell.vm.isStatics = false ∧ s.vm.findClass (zm_y M').cls = some cell.cls := by
    rw [← hq2]; exact va_recv hK Hh.1 hq (zw_at he)
  refine zafter (st0 := (As.reverse ++ .ref b :: rest).map (zv ad)) C Hh hl (va_runV (C := (zm_y M').cls) (b := ad b) (As := As.map (zv ad)) (g := F0 m pc ls ((As.reverse ++ .ref b :: rest).map (zv ad))) ⟨hx, hb, hml, hown, hts⟩ (hM l D ad ca H.size) ⟨zB K hts, hts _ Kv.1, hts _ Kv.2⟩ ⟨zblind _ _ _ _ _ _, hrc, zpre (av := .ref b :: As) C Hh⟩ rfl (by rw [List.length_map]; exact hn) hl.1 ?_ (zrest hr) d ⟨Nat.zero_le _, Nat.zero_le _⟩) kk
  simp [List.map_append, List.map_reverse, zv]
theorem Wp.callS {M : zm_I} {Q : Option Value → zh → Prop} {pc pc2 : Nat} {L : List Value} {h : zh} {M' : zm_I} {Qc : Option Value → zh → Prop} {idx n : Nat} {As rest st0 : List Value} (K : zK M M' idx n) (Ks : Cond.static (zm_y M') ∈ zT) (hM : PM M' As h Qc) (d : decode (zm_c M) pc = .ok (.invokestatic idx, 3)) (hp : pc + 3 = pc2) (hn : As.length = n) (hst : st0 = As.reverse ++ rest) (hr : (rest.map fun v => v.category).sum ≤ 8)
    (kk : ∀ (r : Option Value) (h' : zh), Qc r h' → Wp M Q pc2 L (r.toList ++ rest) h') : Wp M Q pc L st0 h := by
  subst hp
  subst hst
  intro p l e s m args below meth c D ad ca A H locs ls C Hh hl
  obtain ⟨hx, hb, hret, hml, hown, hlk, hts, hA, hK⟩ := id C
  refine zafter (st0 := (As.reverse ++ rest).map (zv ad)) C Hh hl (va_runS (As := As.map (zv ad)) (g := F0 m pc ls ((As.reverse ++ rest).map (zv ad))) ⟨hx, hb, hml, hown, hts⟩ (hM l D ad ca H.size) ⟨zB K hts, hts _ Ks⟩ ⟨zblind _ _ _ _ _ _, zpre (av := As) C Hh⟩ rfl (by rw [List.length_map]; exact hn) hl.1 ?_ (zrest hr) d ⟨Nat.zero_le _, Nat.zero_le _⟩) kk
  simp [List.map_append, List.map_reverse]
end
section
theorem zT_t {w : Cond} (i : Nat) (h : tables_1[i]? = some w) (g : goodWord w = true) : w ∈ zT := zT_in (List.mem_append_right _ (List.mem_of_getElem? h)) g
theorem zT_s {w : Cond} (i : Nat) (h : (k2_sels lw_privs)[i]? = some w) (g : goodWord w = true) : w ∈ zT := zT_in (List.mem_append_left _ (List.mem_of_getElem? h)) g
theorem inX0 : ∀ w ∈ u_ws RX0 TX0 4, w ∈ zT := by decide +kernel
theorem inX1 : ∀ w ∈ u_ws RX1 TX1 3, w ∈ zT := by decide +kernel
theorem inX2 : ∀ w ∈ u_ws RX2 TX2 13, w ∈ zT := by decide +kernel
theorem inX3 : ∀ w ∈ u_ws RX3 TX3 7, w ∈ zT := by decide +kernel
theorem inX4 : ∀ w ∈ u_ws RX4 TX4 14, w ∈ zT := by decide +kernel
theorem inX5 : ∀ w ∈ u_ws RX5 TX5 32, w ∈ zT := by decide +kernel
abbrev mX4_row : zm_I := (yX4_row, cX4_row, 5, (some .int), 1, 24)
abbrev mX4_isTable : zm_I := (yX4_isTable, cX4_isTable, 1, (some .boolean), 0, 0)
abbrev mX4_isValue : zm_I := (yX4_isValue, cX4_isValue, 1, (some .boolean), 0, 0)
abbrev mX3_addRow : zm_I := (yX3_addRow, cX3_addRow, 5, (some .int), 0, 0)
abbrev mX4_test : zm_I := (yX4_test, cX4_test, 6, (some .int), 1, 24)
abbrev mX4_isColumn : zm_I := (yX4_isColumn, cX4_isColumn, 1, (some .boolean), 0, 0)
abbrev mX3_addTest : zm_I := (yX3_addTest, cX3_addTest, 5, (some .int), 0, 0)
abbrev mX4_join : zm_I := (yX4_join, cX4_join, 3, (some .boolean), 1, 20)
abbrev mX4_ask : zm_I := (yX4_ask, cX4_ask, 1, (some .boolean), 5, 104)
abbrev mX2_begin : zm_I := (yX2_begin, cX2_begin, 2, none, 1, 23)
abbrev mJ7_fill_53178 : zm_I := (yJ7_fill_53178, cJ7_fill_53178, 4, none, 0, 0)
abbrev mX0_empty : zm_I := (yX0_empty, cX0_empty, 1, none, 0, 0)
abbrev mX1_empty : zm_I := (yX1_empty, cX1_empty, 2, none, 0, 0)
abbrev mX4_endIfNothingIsLeft : zm_I := (yX4_endIfNothingIsLeft, cX4_endIfNothingIsLeft, 1, none, 4, 84)
abbrev mX4_bothAreReadOut : zm_I := (yX4_bothAreReadOut, cX4_bothAreReadOut, 1, (some .boolean), 1, 20)
abbrev mX2_isReadOut : zm_I := (yX2_isReadOut, cX2_isReadOut, 1, (some .boolean), 0, 0)
abbrev mX4_findLatePair : zm_I := (yX4_findLatePair, cX4_findLatePair, 1, (some .boolean), 3, 64)
abbrev mX2_hasPassed : zm_I := (yX2_hasPassed, cX2_hasPassed, 2, (some .boolean), 0, 0)
abbrev mX4_findLateRow1 : zm_I := (yX4_findLateRow1, cX4_findLateRow1, 1, (some .boolean), 2, 44)
abbrev mX4_joinValue : zm_I := (yX4_joinValue, cX4_joinValue, 3, (some .int), 1, 22)
abbrev mX3_valueAt : zm_I := (yX3_valueAt, cX3_valueAt, 3, (some .int), 0, 0)
abbrev mX1_has : zm_I := (yX1_has, cX1_has, 3, (some .boolean), 0, 0)
abbrev mX4_stop : zm_I := (yX4_stop, cX4_stop, 1, (some .boolean), 0, 0)
abbrev mX4_go : zm_I := (yX4_go, cX4_go, 3, (some .int), 6, 124)
abbrev mX4_makeStep : zm_I := (yX4_makeStep, cX4_makeStep, 1, none, 5, 104)
abbrev mX4_giveLatePair : zm_I := (yX4_giveLatePair, cX4_giveLatePair, 1, none, 1, 23)
abbrev mX1_give : zm_I := (yX1_give, cX1_give, 4, none, 0, 0)
abbrev mX4_tableToRead : zm_I := (yX4_tableToRead, cX4_tableToRead, 1, (some .int), 2, 41)
abbrev mX2_gainsMoreThan : zm_I := (yX2_gainsMoreThan, cX2_gainsMoreThan, 2, (some .boolean), 1, 20)
abbrev mX2_wholeCost : zm_I := (yX2_wholeCost, cX2_wholeCost, 1, (some .int), 0, 0)
abbrev mX4_readFrom : zm_I := (yX4_readFrom, cX4_readFrom, 4, none, 3, 70)
abbrev mX2_tryTests : zm_I := (yX2_tryTests, cX2_tryTests, 4, (some .boolean), 2, 45)
abbrev mX3_passes : zm_I := (yX3_passes, cX3_passes, 4, (some .boolean), 1, 22)
abbrev mX4_givePairsOf : zm_I := (yX4_givePairsOf, cX4_givePairsOf, 7, none, 2, 44)
abbrev mX0_rowAt : zm_I := (yX0_rowAt, cX0_rowAt, 2, (some .int), 0, 0)
abbrev mX0_tableAt : zm_I := (yX0_tableAt, cX0_tableAt, 2, (some .int), 0, 0)
abbrev mX0_take : zm_I := (yX0_take, cX0_take, 3, none, 0, 0)
abbrev mX4_spillExcess : zm_I := (yX4_spillExcess, cX4_spillExcess, 3, none, 1, 21)
abbrev mX0_size : zm_I := (yX0_size, cX0_size, 1, (some .int), 0, 0)
abbrev mX2_isAtPoint : zm_I := (yX2_isAtPoint, cX2_isAtPoint, 1, (some .boolean), 0, 0)
abbrev mX2_turnOrder : zm_I := (yX2_turnOrder, cX2_turnOrder, 1, (some .boolean), 2, 44)
abbrev mX2_sortIntoNewOrder : zm_I := (yX2_sortIntoNewOrder, cX2_sortIntoNewOrder, 3, none, 1, 22)
abbrev mX2_isCheaperToFail : zm_I := (yX2_isCheaperToFail, cX2_isCheaperToFail, 3, (some .boolean), 0, 0)
abbrev mX2_takeNewOrder : zm_I := (yX2_takeNewOrder, cX2_takeNewOrder, 3, (some .boolean), 0, 0)
abbrev mX4_memory : zm_I := (yX4_memory, cX4_memory, 2, (some .boolean), 2, 43)
abbrev mX4_force : zm_I := (yX4_force, cX4_force, 2, (some .boolean), 1, 20)
abbrev mX4_order : zm_I := (yX4_order, cX4_order, 4, (some .boolean), 2, 46)
abbrev mX2_forceOrder : zm_I := (yX2_forceOrder, cX2_forceOrder, 2, (some .boolean), 1, 25)
abbrev mX2_readIntoNewOrder : zm_I := (yX2_readIntoNewOrder, cX2_readIntoNewOrder, 6, (some .boolean), 0, 0)
abbrev mX4_ordered : zm_I := (yX4_ordered, cX4_ordered, 3, (some .int), 1, 20)
abbrev mX4_told : zm_I := (yX4_told, cX4_told, 4, (some .int), 1, 20)
abbrev mX4_given : zm_I := (yX4_given, cX4_given, 3, (some .int), 1, 22)
abbrev mX1_rowOf : zm_I := (yX1_rowOf, cX1_rowOf, 3, (some .int), 0, 0)
abbrev mX4_where : zm_I := (yX4_where, cX4_where, 3, (some .int), 1, 20)
abbrev mX4_sum : zm_I := (yX4_sum, cX4_sum, 5, (some .int), 1, 22)
abbrev mX4_plain : zm_I := (yX4_plain, cX4_plain, 3, (some .int), 3, 67)
abbrev mX3_passesAll : zm_I := (yX3_passesAll, cX3_passesAll, 3, (some .boolean), 2, 45)
abbrev mX4_fixed : zm_I := (yX4_fixed, cX4_fixed, 2, (some .int), 4, 93)
abbrev mX2_cheapestFixedOrder : zm_I := (yX2_cheapestFixedOrder, cX2_cheapestFixedOrder, 7, (some .int), 3, 67)
abbrev mX2_findFailedTests : zm_I := (yX2_findFailedTests, cX2_findFailedTests, 3, none, 2, 45)
abbrev mX2_rowsThatPass : zm_I := (yX2_rowsThatPass, cX2_rowsThatPass, 4, (some .int), 0, 0)
abbrev mJ9_min_7cf53 : zm_I := (yJ9_min_7cf53, cJ9_min_7cf53, 2, (some .int), 0, 0)
abbrev mX4_cost : zm_I := (yX4_cost, cX4_cost, 2, (some .int), 1, 20)
abbrev mX4_count : zm_I := (yX4_count, cX4_count, 2, (some .int), 1, 20)
abbrev mX5_row : zm_I := (yX5_row, cX5_row, 6, (some .int), 2, 42)
abbrev mX5_isTable : zm_I := (yX5_isTable, cX5_isTable, 1, (some .boolean), 1, 22)
abbrev mX5_in : zm_I := (yX5_in, cX5_in, 3, (some .boolean), 0, 0)
abbrev mX5_test : zm_I := (yX5_test, cX5_test, 5, (some .int), 2, 42)
abbrev mX5_join : zm_I := (yX5_join, cX5_join, 3, (some .boolean), 1, 22)
abbrev mX5_ask : zm_I := (yX5_ask, cX5_ask, 2, (some .boolean), 4, 88)
abbrev mX5_ends : zm_I := (yX5_ends, cX5_ends, 1, none, 3, 68)
abbrev mX5_isReadOut : zm_I := (yX5_isReadOut, cX5_isReadOut, 2, (some .boolean), 0, 0)
abbrev mX5_lacking : zm_I := (yX5_lacking, cX5_lacking, 4, (some .int), 2, 45)
abbrev mX5_isAlike : zm_I := (yX5_isAlike, cX5_isAlike, 3, (some .boolean), 1, 23)
abbrev mX5_cell : zm_I := (yX5_cell, cX5_cell, 4, (some .int), 0, 0)
abbrev mX5_stop : zm_I := (yX5_stop, cX5_stop, 1, (some .boolean), 0, 0)
abbrev mX5_go : zm_I := (yX5_go, cX5_go, 4, (some .int), 4, 98)
abbrev mX5_gives : zm_I := (yX5_gives, cX5_gives, 3, none, 0, 0)
abbrev mX5_choose : zm_I := (yX5_choose, cX5_choose, 5, (some .int), 1, 21)
abbrev mX5_reads : zm_I := (yX5_reads, cX5_reads, 7, none, 3, 72)
abbrev mX5_passes : zm_I := (yX5_passes, cX5_passes, 6, (some .boolean), 1, 23)
abbrev mX5_finds : zm_I := (yX5_finds, cX5_finds, 8, (some .int), 2, 45)
abbrev mX5_nextIn : zm_I := (yX5_nextIn, cX5_nextIn, 6, (some .int), 0, 0)
abbrev mX5_spills : zm_I := (yX5_spills, cX5_spills, 3, none, 1, 22)
abbrev mX5_inMemory : zm_I := (yX5_inMemory, cX5_inMemory, 3, (some .int), 0, 0)
abbrev mX5_turns : zm_I := (yX5_turns, cX5_turns, 6, none, 1, 29)
abbrev mX5_isCheaper : zm_I := (yX5_isCheaper, cX5_isCheaper, 10, (some .boolean), 0, 0)
abbrev mX5_memory : zm_I := (yX5_memory, cX5_memory, 2, (some .boolean), 2, 44)
abbrev mX5_force : zm_I := (yX5_force, cX5_force, 2, (some .boolean), 1, 22)
abbrev mX5_order : zm_I := (yX5_order, cX5_order, 6, (some .boolean), 2, 42)
abbrev mX5_ordered : zm_I := (yX5_ordered, cX5_ordered, 3, (some .int), 2, 42)
abbrev mX5_told : zm_I := (yX5_told, cX5_told, 5, (some .int), 2, 42)
abbrev mX5_given : zm_I := (yX5_given, cX5_given, 3, (some .int), 2, 42)
abbrev mX5_where : zm_I := (yX5_where, cX5_where, 3, (some .int), 2, 42)
abbrev mX5_sum : zm_I := (yX5_sum, cX5_sum, 5, (some .int), 3, 64)
abbrev mX5_plain : zm_I := (yX5_plain, cX5_plain, 4, (some .int), 3, 71)
abbrev mX5_passesAll : zm_I := (yX5_passesAll, cX5_passesAll, 4, (some .boolean), 2, 48)
abbrev mX5_fixed : zm_I := (yX5_fixed, cX5_fixed, 5, (some .int), 3, 77)
abbrev mX5_costOf : zm_I := (yX5_costOf, cX5_costOf, 10, (some .int), 2, 48)
abbrev mX5_cost : zm_I := (yX5_cost, cX5_cost, 2, (some .int), 2, 42)
abbrev mX5_count : zm_I := (yX5_count, cX5_count, 2, (some .int), 1, 22)
theorem fX4_12 : zF RX4 12 4 0 := ⟨_, _, _, rfl, inX4, by decide, zT_t 149 (by decide +kernel) (by decide +kernel)⟩
theorem fX4_21 : zF RX4 21 4 1 := ⟨_, _, _, rfl, inX4, by decide, zT_t 150 (by decide +kernel) (by decide +kernel)⟩
theorem fX4_25 : zF RX4 25 4 2 := ⟨_, _, _, rfl, inX4, by decide, zT_t 151 (by decide +kernel) (by decide +kernel)⟩
theorem fX4_32 : zF RX4 32 4 3 := ⟨_, _, _, rfl, inX4, by decide, zT_t 152 (by decide +kernel) (by decide +kernel)⟩
theorem fX4_39 : zF RX4 39 4 4 := ⟨_, _, _, rfl, inX4, by decide, zT_t 153 (by decide +kernel) (by decide +kernel)⟩
theorem fX4_43 : zF RX4 43 4 5 := ⟨_, _, _, rfl, inX4, by decide, zT_t 154 (by decide +kernel) (by decide +kernel)⟩
theorem fX4_46 : zF RX4 46 4 6 := ⟨_, _, _, rfl, inX4, by decide, zT_t 155 (by decide +kernel) (by decide +kernel)⟩
theorem gX4_46 : zG RX4 46 4 6 .int := ⟨_, _, _, tyX4, rfl, inX4, tyX4_ok, nmX4, by decide, zT_t 155 (by decide +kernel) (by decide +kernel), rfl, by decide +kernel⟩
theorem fX4_50 : zF RX4 50 4 7 := ⟨_, _, _, rfl, inX4, by decide, zT_t 156 (by decide +kernel) (by decide +kernel)⟩
theorem gX4_50 : zG RX4 50 4 7 .int := ⟨_, _, _, tyX4, rfl, inX4, tyX4_ok, nmX4, by decide, zT_t 156 (by decide +kernel) (by decide +kernel), rfl, by decide +kernel⟩
theorem fX4_78 : zF RX4 78 4 8 := ⟨_, _, _, rfl, inX4, by decide, zT_t 157 (by decide +kernel) (by decide +kernel)⟩
theorem gX4_78 : zG RX4 78 4 8 .int := ⟨_, _, _, tyX4, rfl, inX4, tyX4_ok, nmX4, by decide, zT_t 157 (by decide +kernel) (by decide +kernel), rfl, by decide +kernel⟩
theorem fX4_81 : zF RX4 81 4 9 := ⟨_, _, _, rfl, inX4, by decide, zT_t 158 (by decide +kernel) (by decide +kernel)⟩
theorem gX4_81 : zG RX4 81 4 9 .int := ⟨_, _, _, tyX4, rfl, inX4, tyX4_ok, nmX4, by decide, zT_t 158 (by decide +kernel) (by decide +kernel), rfl, by decide +kernel⟩
theorem fX4_84 : zF RX4 84 4 10 := ⟨_, _, _, rfl, inX4, by decide, zT_t 159 (by decide +kernel) (by decide +kernel)⟩
theorem gX4_84 : zG RX4 84 4 10 .int := ⟨_, _, _, tyX4, rfl, inX4, tyX4_ok, nmX4, by decide, zT_t 159 (by decide +kernel) (by decide +kernel), rfl, by decide +kernel⟩
theorem fX4_87 : zF RX4 87 4 11 := ⟨_, _, _, rfl, inX4, by decide, zT_t 160 (by decide +kernel) (by decide +kernel)⟩
theorem gX4_87 : zG RX4 87 4 11 .int := ⟨_, _, _, tyX4, rfl, inX4, tyX4_ok, nmX4, by decide, zT_t 160 (by decide +kernel) (by decide +kernel), rfl, by decide +kernel⟩
theorem fX4_90 : zF RX4 90 4 12 := ⟨_, _, _, rfl, inX4, by decide, zT_t 161 (by decide +kernel) (by decide +kernel)⟩
theorem gX4_90 : zG RX4 90 4 12 .int := ⟨_, _, _, tyX4, rfl, inX4, tyX4_ok, nmX4, by decide, zT_t 161 (by decide +kernel) (by decide +kernel), rfl, by decide +kernel⟩
theorem fX4_93 : zF RX4 93 4 13 := ⟨_, _, _, rfl, inX4, by decide, zT_t 162 (by decide +kernel) (by decide +kernel)⟩
theorem gX4_93 : zG RX4 93 4 13 .int := ⟨_, _, _, tyX4, rfl, inX4, tyX4_ok, nmX4, by decide, zT_t 162 (by decide +kernel) (by decide +kernel), rfl, by decide +kernel⟩
theorem fX4_102 : zF RX4 102 0 1 := ⟨_, _, _, rfl, inX0, by decide, zT_t 117 (by decide +kernel) (by decide +kernel)⟩
theorem gX4_102 : zG RX4 102 0 1 .int := ⟨_, _, _, tyX0, rfl, inX0, tyX0_ok, nmX0, by decide, zT_t 117 (by decide +kernel) (by decide +kernel), rfl, by decide +kernel⟩
theorem gX4_108 : zG RX4 108 2 9 .boolean := ⟨_, _, _, tyX2, rfl, inX2, tyX2_ok, nmX2, by decide, zT_t 75 (by decide +kernel) (by decide +kernel), rfl, by decide +kernel⟩
theorem fX4_115 : zF RX4 115 2 8 := ⟨_, _, _, rfl, inX2, by decide, zT_t 73 (by decide +kernel) (by decide +kernel)⟩
theorem fX4_118 : zF RX4 118 2 4 := ⟨_, _, _, rfl, inX2, by decide, zT_t 68 (by decide +kernel) (by decide +kernel)⟩
theorem fX4_121 : zF RX4 121 3 6 := ⟨_, _, _, rfl, inX3, by decide, zT_t 35 (by decide +kernel) (by decide +kernel)⟩
theorem fX4_122 : zF RX4 122 2 2 := ⟨_, _, _, rfl, inX2, by decide, zT_t 64 (by decide +kernel) (by decide +kernel)⟩
theorem fX4_125 : zF RX4 125 2 3 := ⟨_, _, _, rfl, inX2, by decide, zT_t 66 (by decide +kernel) (by decide +kernel)⟩
theorem fX4_128 : zF RX4 128 3 4 := ⟨_, _, _, rfl, inX3, by decide, zT_t 29 (by decide +kernel) (by decide +kernel)⟩
theorem fX4_131 : zF RX4 131 1 2 := ⟨_, _, _, rfl, inX1, by decide, zT_t 140 (by decide +kernel) (by decide +kernel)⟩
theorem fX4_138 : zF RX4 138 3 5 := ⟨_, _, _, rfl, inX3, by decide, zT_t 32 (by decide +kernel) (by decide +kernel)⟩
theorem fX4_141 : zF RX4 141 2 1 := ⟨_, _, _, rfl, inX2, by decide, zT_t 62 (by decide +kernel) (by decide +kernel)⟩
theorem fX4_163 : zF RX4 163 2 11 := ⟨_, _, _, rfl, inX2, by decide, zT_t 79 (by decide +kernel) (by decide +kernel)⟩
theorem fX4_171 : zF RX4 171 0 3 := ⟨_, _, _, rfl, inX0, by decide, zT_t 121 (by decide +kernel) (by decide +kernel)⟩
theorem gX4_171 : zG RX4 171 0 3 .int := ⟨_, _, _, tyX0, rfl, inX0, tyX0_ok, nmX0, by decide, zT_t 121 (by decide +kernel) (by decide +kernel), rfl, by decide +kernel⟩
theorem fX4_174 : zF RX4 174 2 10 := ⟨_, _, _, rfl, inX2, by decide, zT_t 77 (by decide +kernel) (by decide +kernel)⟩
theorem gX4_174 : zG RX4 174 2 10 .int := ⟨_, _, _, tyX2, rfl, inX2, tyX2_ok, nmX2, by decide, zT_t 77 (by decide +kernel) (by decide +kernel), rfl, by decide +kernel⟩
theorem fX4_214 : zF RX4 214 0 2 := ⟨_, _, _, rfl, inX0, by decide, zT_t 119 (by decide +kernel) (by decide +kernel)⟩
theorem fX4_227 : zF RX4 227 2 12 := ⟨_, _, _, rfl, inX2, by decide, zT_t 81 (by decide +kernel) (by decide +kernel)⟩
theorem gX4_227 : zG RX4 227 2 12 .int := ⟨_, _, _, tyX2, rfl, inX2, tyX2_ok, nmX2, by decide, zT_t 81 (by decide +kernel) (by decide +kernel), rfl, by decide +kernel⟩
theorem fX0_9 : zF RX0 9 0 0 := ⟨_, _, _, rfl, inX0, by decide, zT_t 115 (by decide +kernel) (by decide +kernel)⟩
theorem fX0_19 : zF RX0 19 0 2 := ⟨_, _, _, rfl, inX0, by decide, zT_t 118 (by decide +kernel) (by decide +kernel)⟩
theorem gX0_19 : zG RX0 19 0 2 .int := ⟨_, _, _, tyX0, rfl, inX0, tyX0_ok, nmX0, by decide, zT_t 118 (by decide +kernel) (by decide +kernel), rfl, by decide +kernel⟩
theorem fX0_22 : zF RX0 22 0 3 := ⟨_, _, _, rfl, inX0, by decide, zT_t 120 (by decide +kernel) (by decide +kernel)⟩
theorem gX0_22 : zG RX0 22 0 3 .int := ⟨_, _, _, tyX0, rfl, inX0, tyX0_ok, nmX0, by decide, zT_t 120 (by decide +kernel) (by decide +kernel), rfl, by decide +kernel⟩
theorem fX1_9 : zF RX1 9 1 0 := ⟨_, _, _, rfl, inX1, by decide, zT_t 137 (by decide +kernel) (by decide +kernel)⟩
theorem fX1_15 : zF RX1 15 1 1 := ⟨_, _, _, rfl, inX1, by decide, zT_t 138 (by decide +kernel) (by decide +kernel)⟩
theorem fX1_19 : zF RX1 19 1 2 := ⟨_, _, _, rfl, inX1, by decide, zT_t 139 (by decide +kernel) (by decide +kernel)⟩
theorem gX1_19 : zG RX1 19 1 2 .int := ⟨_, _, _, tyX1, rfl, inX1, tyX1_ok, nmX1, by decide, zT_t 139 (by decide +kernel) (by decide +kernel), rfl, by decide +kernel⟩
theorem fX2_9 : zF RX2 9 2 1 := ⟨_, _, _, rfl, inX2, by decide, zT_t 61 (by decide +kernel) (by decide +kernel)⟩
theorem fX2_15 : zF RX2 15 2 2 := ⟨_, _, _, rfl, inX2, by decide, zT_t 63 (by decide +kernel) (by decide +kernel)⟩
theorem fX2_18 : zF RX2 18 2 3 := ⟨_, _, _, rfl, inX2, by decide, zT_t 65 (by decide +kernel) (by decide +kernel)⟩
theorem fX2_21 : zF RX2 21 2 4 := ⟨_, _, _, rfl, inX2, by decide, zT_t 67 (by decide +kernel) (by decide +kernel)⟩
theorem fX2_24 : zF RX2 24 2 5 := ⟨_, _, _, rfl, inX2, by decide, zT_t 69 (by decide +kernel) (by decide +kernel)⟩
theorem fX2_27 : zF RX2 27 2 6 := ⟨_, _, _, rfl, inX2, by decide, zT_t 70 (by decide +kernel) (by decide +kernel)⟩
theorem fX2_30 : zF RX2 30 2 7 := ⟨_, _, _, rfl, inX2, by decide, zT_t 71 (by decide +kernel) (by decide +kernel)⟩
theorem fX2_33 : zF RX2 33 2 0 := ⟨_, _, _, rfl, inX2, by decide, zT_t 60 (by decide +kernel) (by decide +kernel)⟩
theorem fX2_43 : zF RX2 43 3 6 := ⟨_, _, _, rfl, inX3, by decide, zT_t 33 (by decide +kernel) (by decide +kernel)⟩
theorem fX2_49 : zF RX2 49 2 8 := ⟨_, _, _, rfl, inX2, by decide, zT_t 72 (by decide +kernel) (by decide +kernel)⟩
theorem gX2_49 : zG RX2 49 2 8 .int := ⟨_, _, _, tyX2, rfl, inX2, tyX2_ok, nmX2, by decide, zT_t 72 (by decide +kernel) (by decide +kernel), rfl, by decide +kernel⟩
theorem fX2_50 : zF RX2 50 2 9 := ⟨_, _, _, rfl, inX2, by decide, zT_t 74 (by decide +kernel) (by decide +kernel)⟩
theorem gX2_50 : zG RX2 50 2 9 .boolean := ⟨_, _, _, tyX2, rfl, inX2, tyX2_ok, nmX2, by decide, zT_t 74 (by decide +kernel) (by decide +kernel), rfl, by decide +kernel⟩
theorem fX2_54 : zF RX2 54 2 10 := ⟨_, _, _, rfl, inX2, by decide, zT_t 76 (by decide +kernel) (by decide +kernel)⟩
theorem gX2_54 : zG RX2 54 2 10 .int := ⟨_, _, _, tyX2, rfl, inX2, tyX2_ok, nmX2, by decide, zT_t 76 (by decide +kernel) (by decide +kernel), rfl, by decide +kernel⟩
theorem fX2_57 : zF RX2 57 2 11 := ⟨_, _, _, rfl, inX2, by decide, zT_t 78 (by decide +kernel) (by decide +kernel)⟩
theorem gX2_57 : zG RX2 57 2 11 .int := ⟨_, _, _, tyX2, rfl, inX2, tyX2_ok, nmX2, by decide, zT_t 78 (by decide +kernel) (by decide +kernel), rfl, by decide +kernel⟩
theorem fX2_60 : zF RX2 60 2 12 := ⟨_, _, _, rfl, inX2, by decide, zT_t 80 (by decide +kernel) (by decide +kernel)⟩
theorem gX2_60 : zG RX2 60 2 12 .int := ⟨_, _, _, tyX2, rfl, inX2, tyX2_ok, nmX2, by decide, zT_t 80 (by decide +kernel) (by decide +kernel), rfl, by decide +kernel⟩
theorem fX2_63 : zF RX2 63 3 5 := ⟨_, _, _, rfl, inX3, by decide, zT_t 31 (by decide +kernel) (by decide +kernel)⟩
theorem fX2_70 : zF RX2 70 3 4 := ⟨_, _, _, rfl, inX3, by decide, zT_t 28 (by decide +kernel) (by decide +kernel)⟩
theorem fX3_9 : zF RX3 9 3 0 := ⟨_, _, _, rfl, inX3, by decide, zT_t 23 (by decide +kernel) (by decide +kernel)⟩
theorem fX3_15 : zF RX3 15 3 1 := ⟨_, _, _, rfl, inX3, by decide, zT_t 24 (by decide +kernel) (by decide +kernel)⟩
theorem fX3_18 : zF RX3 18 3 2 := ⟨_, _, _, rfl, inX3, by decide, zT_t 25 (by decide +kernel) (by decide +kernel)⟩
theorem fX3_21 : zF RX3 21 3 3 := ⟨_, _, _, rfl, inX3, by decide, zT_t 26 (by decide +kernel) (by decide +kernel)⟩
theorem fX3_24 : zF RX3 24 3 4 := ⟨_, _, _, rfl, inX3, by decide, zT_t 27 (by decide +kernel) (by decide +kernel)⟩
theorem fX3_27 : zF RX3 27 3 5 := ⟨_, _, _, rfl, inX3, by decide, zT_t 30 (by decide +kernel) (by decide +kernel)⟩
theorem gX3_27 : zG RX3 27 3 5 .int := ⟨_, _, _, tyX3, rfl, inX3, tyX3_ok, nmX3, by decide, zT_t 30 (by decide +kernel) (by decide +kernel), rfl, by decide +kernel⟩
theorem fX3_31 : zF RX3 31 3 6 := ⟨_, _, _, rfl, inX3, by decide, zT_t 34 (by decide +kernel) (by decide +kernel)⟩
theorem gX3_31 : zG RX3 31 3 6 .int := ⟨_, _, _, tyX3, rfl, inX3, tyX3_ok, nmX3, by decide, zT_t 34 (by decide +kernel) (by decide +kernel), rfl, by decide +kernel⟩
theorem fX5_7 : zF RX5 7 5 0 := ⟨_, _, _, rfl, inX5, by decide, zT_t 454 (by decide +kernel) (by decide +kernel)⟩
theorem fX5_13 : zF RX5 13 5 1 := ⟨_, _, _, rfl, inX5, by decide, zT_t 455 (by decide +kernel) (by decide +kernel)⟩
theorem fX5_16 : zF RX5 16 5 2 := ⟨_, _, _, rfl, inX5, by decide, zT_t 456 (by decide +kernel) (by decide +kernel)⟩
theorem fX5_19 : zF RX5 19 5 3 := ⟨_, _, _, rfl, inX5, by decide, zT_t 457 (by decide +kernel) (by decide +kernel)⟩
theorem fX5_22 : zF RX5 22 5 4 := ⟨_, _, _, rfl, inX5, by decide, zT_t 458 (by decide +kernel) (by decide +kernel)⟩
theorem fX5_25 : zF RX5 25 5 5 := ⟨_, _, _, rfl, inX5, by decide, zT_t 459 (by decide +kernel) (by decide +kernel)⟩
theorem fX5_28 : zF RX5 28 5 6 := ⟨_, _, _, rfl, inX5, by decide, zT_t 460 (by decide +kernel) (by decide +kernel)⟩
theorem fX5_31 : zF RX5 31 5 7 := ⟨_, _, _, rfl, inX5, by decide, zT_t 461 (by decide +kernel) (by decide +kernel)⟩
theorem fX5_34 : zF RX5 34 5 8 := ⟨_, _, _, rfl, inX5, by decide, zT_t 462 (by decide +kernel) (by decide +kernel)⟩
theorem gX5_34 : zG RX5 34 5 8 .int := ⟨_, _, _, tyX5, rfl, inX5, tyX5_ok, nmX5, by decide, zT_t 462 (by decide +kernel) (by decide +kernel), rfl, by decide +kernel⟩
theorem fX5_38 : zF RX5 38 5 9 := ⟨_, _, _, rfl, inX5, by decide, zT_t 463 (by decide +kernel) (by decide +kernel)⟩
theorem gX5_38 : zG RX5 38 5 9 .int := ⟨_, _, _, tyX5, rfl, inX5, tyX5_ok, nmX5, by decide, zT_t 463 (by decide +kernel) (by decide +kernel), rfl, by decide +kernel⟩
theorem fX5_41 : zF RX5 41 5 12 := ⟨_, _, _, rfl, inX5, by decide, zT_t 466 (by decide +kernel) (by decide +kernel)⟩
theorem fX5_44 : zF RX5 44 5 13 := ⟨_, _, _, rfl, inX5, by decide, zT_t 467 (by decide +kernel) (by decide +kernel)⟩
theorem fX5_47 : zF RX5 47 5 14 := ⟨_, _, _, rfl, inX5, by decide, zT_t 468 (by decide +kernel) (by decide +kernel)⟩
theorem fX5_50 : zF RX5 50 5 15 := ⟨_, _, _, rfl, inX5, by decide, zT_t 469 (by decide +kernel) (by decide +kernel)⟩
theorem fX5_54 : zF RX5 54 5 16 := ⟨_, _, _, rfl, inX5, by decide, zT_t 470 (by decide +kernel) (by decide +kernel)⟩
theorem fX5_57 : zF RX5 57 5 17 := ⟨_, _, _, rfl, inX5, by decide, zT_t 471 (by decide +kernel) (by decide +kernel)⟩
theorem fX5_60 : zF RX5 60 5 18 := ⟨_, _, _, rfl, inX5, by decide, zT_t 472 (by decide +kernel) (by decide +kernel)⟩
theorem fX5_63 : zF RX5 63 5 19 := ⟨_, _, _, rfl, inX5, by decide, zT_t 473 (by decide +kernel) (by decide +kernel)⟩
theorem fX5_66 : zF RX5 66 5 20 := ⟨_, _, _, rfl, inX5, by decide, zT_t 474 (by decide +kernel) (by decide +kernel)⟩
theorem fX5_69 : zF RX5 69 5 21 := ⟨_, _, _, rfl, inX5, by decide, zT_t 475 (by decide +kernel) (by decide +kernel)⟩
theorem fX5_72 : zF RX5 72 5 22 := ⟨_, _, _, rfl, inX5, by decide, zT_t 476 (by decide +kernel) (by decide +kernel)⟩
theorem fX5_75 : zF RX5 75 5 24 := ⟨_, _, _, rfl, inX5, by decide, zT_t 478 (by decide +kernel) (by decide +kernel)⟩
theorem fX5_78 : zF RX5 78 5 25 := ⟨_, _, _, rfl, inX5, by decide, zT_t 479 (by decide +kernel) (by decide +kernel)⟩
theorem fX5_89 : zF RX5 89 5 10 := ⟨_, _, _, rfl, inX5, by decide, zT_t 464 (by decide +kernel) (by decide +kernel)⟩
theorem gX5_89 : zG RX5 89 5 10 .int := ⟨_, _, _, tyX5, rfl, inX5, tyX5_ok, nmX5, by decide, zT_t 464 (by decide +kernel) (by decide +kernel), rfl, by decide +kernel⟩
theorem fX5_96 : zF RX5 96 5 11 := ⟨_, _, _, rfl, inX5, by decide, zT_t 465 (by decide +kernel) (by decide +kernel)⟩
theorem gX5_96 : zG RX5 96 5 11 .boolean := ⟨_, _, _, tyX5, rfl, inX5, tyX5_ok, nmX5, by decide, zT_t 465 (by decide +kernel) (by decide +kernel), rfl, by decide +kernel⟩
theorem fX5_100 : zF RX5 100 5 23 := ⟨_, _, _, rfl, inX5, by decide, zT_t 477 (by decide +kernel) (by decide +kernel)⟩
theorem gX5_100 : zG RX5 100 5 23 .int := ⟨_, _, _, tyX5, rfl, inX5, tyX5_ok, nmX5, by decide, zT_t 477 (by decide +kernel) (by decide +kernel), rfl, by decide +kernel⟩
theorem fX5_103 : zF RX5 103 5 26 := ⟨_, _, _, rfl, inX5, by decide, zT_t 480 (by decide +kernel) (by decide +kernel)⟩
theorem gX5_103 : zG RX5 103 5 26 .int := ⟨_, _, _, tyX5, rfl, inX5, tyX5_ok, nmX5, by decide, zT_t 480 (by decide +kernel) (by decide +kernel), rfl, by decide +kernel⟩
theorem fX5_106 : zF RX5 106 5 27 := ⟨_, _, _, rfl, inX5, by decide, zT_t 481 (by decide +kernel) (by decide +kernel)⟩
theorem gX5_106 : zG RX5 106 5 27 .int := ⟨_, _, _, tyX5, rfl, inX5, tyX5_ok, nmX5, by decide, zT_t 481 (by decide +kernel) (by decide +kernel), rfl, by decide +kernel⟩
theorem fX5_109 : zF RX5 109 5 28 := ⟨_, _, _, rfl, inX5, by decide, zT_t 482 (by decide +kernel) (by decide +kernel)⟩
theorem gX5_109 : zG RX5 109 5 28 .int := ⟨_, _, _, tyX5, rfl, inX5, tyX5_ok, nmX5, by decide, zT_t 482 (by decide +kernel) (by decide +kernel), rfl, by decide +kernel⟩
theorem fX5_112 : zF RX5 112 5 29 := ⟨_, _, _, rfl, inX5, by decide, zT_t 483 (by decide +kernel) (by decide +kernel)⟩
theorem gX5_112 : zG RX5 112 5 29 .int := ⟨_, _, _, tyX5, rfl, inX5, tyX5_ok, nmX5, by decide, zT_t 483 (by decide +kernel) (by decide +kernel), rfl, by decide +kernel⟩
theorem fX5_115 : zF RX5 115 5 30 := ⟨_, _, _, rfl, inX5, by decide, zT_t 484 (by decide +kernel) (by decide +kernel)⟩
theorem gX5_115 : zG RX5 115 5 30 .int := ⟨_, _, _, tyX5, rfl, inX5, tyX5_ok, nmX5, by decide, zT_t 484 (by decide +kernel) (by decide +kernel), rfl, by decide +kernel⟩
theorem fX5_118 : zF RX5 118 5 31 := ⟨_, _, _, rfl, inX5, by decide, zT_t 485 (by decide +kernel) (by decide +kernel)⟩
theorem gX5_118 : zG RX5 118 5 31 .int := ⟨_, _, _, tyX5, rfl, inX5, tyX5_ok, nmX5, by decide, zT_t 485 (by decide +kernel) (by decide +kernel), rfl, by decide +kernel⟩
theorem vX4_row : zKv mX4_row := ⟨zT_t 193 (by decide +kernel) (by decide +kernel), zT_t 194 (by decide +kernel) (by decide +kernel)⟩
theorem sX4_isTable : Cond.static yX4_isTable ∈ zT := zT_t 197 (by decide +kernel) (by decide +kernel)
theorem sX4_isValue : Cond.static yX4_isValue ∈ zT := zT_t 200 (by decide +kernel) (by decide +kernel)
theorem vX3_addRow : zKv mX3_addRow := ⟨zT_t 203 (by decide +kernel) (by decide +kernel), zT_t 204 (by decide +kernel) (by decide +kernel)⟩
theorem vX4_test : zKv mX4_test := ⟨zT_t 207 (by decide +kernel) (by decide +kernel), zT_t 208 (by decide +kernel) (by decide +kernel)⟩
theorem sX4_isColumn : Cond.static yX4_isColumn ∈ zT := zT_t 211 (by decide +kernel) (by decide +kernel)
theorem vX3_addTest : zKv mX3_addTest := ⟨zT_t 214 (by decide +kernel) (by decide +kernel), zT_t 215 (by decide +kernel) (by decide +kernel)⟩
theorem vX4_join : zKv mX4_join := ⟨zT_t 218 (by decide +kernel) (by decide +kernel), zT_t 219 (by decide +kernel) (by decide +kernel)⟩
theorem vX4_ask : zKv mX4_ask := ⟨zT_t 222 (by decide +kernel) (by decide +kernel), zT_t 223 (by decide +kernel) (by decide +kernel)⟩
theorem vX2_begin : zKv mX2_begin := ⟨zT_t 226 (by decide +kernel) (by decide +kernel), zT_t 227 (by decide +kernel) (by decide +kernel)⟩
theorem sJ7_fill_53178 : Cond.static yJ7_fill_53178 ∈ zT := zT_t 230 (by decide +kernel) (by decide +kernel)
theorem vX0_empty : zKv mX0_empty := ⟨zT_t 233 (by decide +kernel) (by decide +kernel), zT_t 234 (by decide +kernel) (by decide +kernel)⟩
theorem vX1_empty : zKv mX1_empty := ⟨zT_t 237 (by decide +kernel) (by decide +kernel), zT_t 238 (by decide +kernel) (by decide +kernel)⟩
theorem vX4_endIfNothingIsLeft : zKv mX4_endIfNothingIsLeft := ⟨zT_t 242 (by decide +kernel) (by decide +kernel), zT_s 0 (by decide +kernel) (by decide +kernel)⟩
theorem vX4_bothAreReadOut : zKv mX4_bothAreReadOut := ⟨zT_t 246 (by decide +kernel) (by decide +kernel), zT_s 1 (by decide +kernel) (by decide +kernel)⟩
theorem vX2_isReadOut : zKv mX2_isReadOut := ⟨zT_t 249 (by decide +kernel) (by decide +kernel), zT_t 250 (by decide +kernel) (by decide +kernel)⟩
theorem vX4_findLatePair : zKv mX4_findLatePair := ⟨zT_t 254 (by decide +kernel) (by decide +kernel), zT_s 2 (by decide +kernel) (by decide +kernel)⟩
theorem vX2_hasPassed : zKv mX2_hasPassed := ⟨zT_t 257 (by decide +kernel) (by decide +kernel), zT_t 258 (by decide +kernel) (by decide +kernel)⟩
theorem vX4_findLateRow1 : zKv mX4_findLateRow1 := ⟨zT_t 262 (by decide +kernel) (by decide +kernel), zT_s 3 (by decide +kernel) (by decide +kernel)⟩
theorem vX4_joinValue : zKv mX4_joinValue := ⟨zT_t 266 (by decide +kernel) (by decide +kernel), zT_s 4 (by decide +kernel) (by decide +kernel)⟩
theorem vX3_valueAt : zKv mX3_valueAt := ⟨zT_t 269 (by decide +kernel) (by decide +kernel), zT_t 270 (by decide +kernel) (by decide +kernel)⟩
theorem vX1_has : zKv mX1_has := ⟨zT_t 273 (by decide +kernel) (by decide +kernel), zT_t 274 (by decide +kernel) (by decide +kernel)⟩
theorem vX4_stop : zKv mX4_stop := ⟨zT_t 277 (by decide +kernel) (by decide +kernel), zT_t 278 (by decide +kernel) (by decide +kernel)⟩
theorem vX4_go : zKv mX4_go := ⟨zT_t 281 (by decide +kernel) (by decide +kernel), zT_t 282 (by decide +kernel) (by decide +kernel)⟩
theorem vX4_makeStep : zKv mX4_makeStep := ⟨zT_t 286 (by decide +kernel) (by decide +kernel), zT_s 5 (by decide +kernel) (by decide +kernel)⟩
theorem vX4_giveLatePair : zKv mX4_giveLatePair := ⟨zT_t 290 (by decide +kernel) (by decide +kernel), zT_s 6 (by decide +kernel) (by decide +kernel)⟩
theorem vX1_give : zKv mX1_give := ⟨zT_t 293 (by decide +kernel) (by decide +kernel), zT_t 294 (by decide +kernel) (by decide +kernel)⟩
theorem vX4_tableToRead : zKv mX4_tableToRead := ⟨zT_t 298 (by decide +kernel) (by decide +kernel), zT_s 7 (by decide +kernel) (by decide +kernel)⟩
theorem vX2_gainsMoreThan : zKv mX2_gainsMoreThan := ⟨zT_t 301 (by decide +kernel) (by decide +kernel), zT_t 302 (by decide +kernel) (by decide +kernel)⟩
theorem vX2_wholeCost : zKv mX2_wholeCost := ⟨zT_t 305 (by decide +kernel) (by decide +kernel), zT_t 306 (by decide +kernel) (by decide +kernel)⟩
theorem vX4_readFrom : zKv mX4_readFrom := ⟨zT_t 310 (by decide +kernel) (by decide +kernel), zT_s 8 (by decide +kernel) (by decide +kernel)⟩
theorem vX2_tryTests : zKv mX2_tryTests := ⟨zT_t 313 (by decide +kernel) (by decide +kernel), zT_t 314 (by decide +kernel) (by decide +kernel)⟩
theorem vX3_passes : zKv mX3_passes := ⟨zT_t 317 (by decide +kernel) (by decide +kernel), zT_t 318 (by decide +kernel) (by decide +kernel)⟩
theorem vX4_givePairsOf : zKv mX4_givePairsOf := ⟨zT_t 323 (by decide +kernel) (by decide +kernel), zT_s 9 (by decide +kernel) (by decide +kernel)⟩
theorem vX0_rowAt : zKv mX0_rowAt := ⟨zT_t 326 (by decide +kernel) (by decide +kernel), zT_t 327 (by decide +kernel) (by decide +kernel)⟩
theorem vX0_tableAt : zKv mX0_tableAt := ⟨zT_t 330 (by decide +kernel) (by decide +kernel), zT_t 331 (by decide +kernel) (by decide +kernel)⟩
theorem vX0_take : zKv mX0_take := ⟨zT_t 334 (by decide +kernel) (by decide +kernel), zT_t 335 (by decide +kernel) (by decide +kernel)⟩
theorem vX4_spillExcess : zKv mX4_spillExcess := ⟨zT_t 339 (by decide +kernel) (by decide +kernel), zT_s 10 (by decide +kernel) (by decide +kernel)⟩
theorem vX0_size : zKv mX0_size := ⟨zT_t 342 (by decide +kernel) (by decide +kernel), zT_t 343 (by decide +kernel) (by decide +kernel)⟩
theorem vX2_isAtPoint : zKv mX2_isAtPoint := ⟨zT_t 346 (by decide +kernel) (by decide +kernel), zT_t 347 (by decide +kernel) (by decide +kernel)⟩
theorem vX2_turnOrder : zKv mX2_turnOrder := ⟨zT_t 350 (by decide +kernel) (by decide +kernel), zT_t 351 (by decide +kernel) (by decide +kernel)⟩
theorem vX2_sortIntoNewOrder : zKv mX2_sortIntoNewOrder := ⟨zT_t 355 (by decide +kernel) (by decide +kernel), zT_s 11 (by decide +kernel) (by decide +kernel)⟩
theorem vX2_isCheaperToFail : zKv mX2_isCheaperToFail := ⟨zT_t 359 (by decide +kernel) (by decide +kernel), zT_s 12 (by decide +kernel) (by decide +kernel)⟩
theorem vX2_takeNewOrder : zKv mX2_takeNewOrder := ⟨zT_t 363 (by decide +kernel) (by decide +kernel), zT_s 13 (by decide +kernel) (by decide +kernel)⟩
theorem vX4_memory : zKv mX4_memory := ⟨zT_t 366 (by decide +kernel) (by decide +kernel), zT_t 367 (by decide +kernel) (by decide +kernel)⟩
theorem vX4_force : zKv mX4_force := ⟨zT_t 370 (by decide +kernel) (by decide +kernel), zT_t 371 (by decide +kernel) (by decide +kernel)⟩
theorem vX4_order : zKv mX4_order := ⟨zT_t 374 (by decide +kernel) (by decide +kernel), zT_t 375 (by decide +kernel) (by decide +kernel)⟩
theorem vX2_forceOrder : zKv mX2_forceOrder := ⟨zT_t 378 (by decide +kernel) (by decide +kernel), zT_t 379 (by decide +kernel) (by decide +kernel)⟩
theorem vX2_readIntoNewOrder : zKv mX2_readIntoNewOrder := ⟨zT_t 383 (by decide +kernel) (by decide +kernel), zT_s 14 (by decide +kernel) (by decide +kernel)⟩
theorem vX4_ordered : zKv mX4_ordered := ⟨zT_t 386 (by decide +kernel) (by decide +kernel), zT_t 387 (by decide +kernel) (by decide +kernel)⟩
theorem vX4_told : zKv mX4_told := ⟨zT_t 390 (by decide +kernel) (by decide +kernel), zT_t 391 (by decide +kernel) (by decide +kernel)⟩
theorem vX4_given : zKv mX4_given := ⟨zT_t 394 (by decide +kernel) (by decide +kernel), zT_t 395 (by decide +kernel) (by decide +kernel)⟩
theorem vX1_rowOf : zKv mX1_rowOf := ⟨zT_t 398 (by decide +kernel) (by decide +kernel), zT_t 399 (by decide +kernel) (by decide +kernel)⟩
theorem vX4_where : zKv mX4_where := ⟨zT_t 402 (by decide +kernel) (by decide +kernel), zT_t 403 (by decide +kernel) (by decide +kernel)⟩
theorem vX4_sum : zKv mX4_sum := ⟨zT_t 406 (by decide +kernel) (by decide +kernel), zT_t 407 (by decide +kernel) (by decide +kernel)⟩
theorem vX4_plain : zKv mX4_plain := ⟨zT_t 410 (by decide +kernel) (by decide +kernel), zT_t 411 (by decide +kernel) (by decide +kernel)⟩
theorem vX3_passesAll : zKv mX3_passesAll := ⟨zT_t 415 (by decide +kernel) (by decide +kernel), zT_t 416 (by decide +kernel) (by decide +kernel)⟩
theorem vX4_fixed : zKv mX4_fixed := ⟨zT_t 420 (by decide +kernel) (by decide +kernel), zT_t 421 (by decide +kernel) (by decide +kernel)⟩
theorem vX2_cheapestFixedOrder : zKv mX2_cheapestFixedOrder := ⟨zT_t 424 (by decide +kernel) (by decide +kernel), zT_t 425 (by decide +kernel) (by decide +kernel)⟩
theorem vX2_findFailedTests : zKv mX2_findFailedTests := ⟨zT_t 429 (by decide +kernel) (by decide +kernel), zT_s 15 (by decide +kernel) (by decide +kernel)⟩
theorem vX2_rowsThatPass : zKv mX2_rowsThatPass := ⟨zT_t 434 (by decide +kernel) (by decide +kernel), zT_s 16 (by decide +kernel) (by decide +kernel)⟩
theorem sJ9_min_7cf53 : Cond.static yJ9_min_7cf53 ∈ zT := zT_t 437 (by decide +kernel) (by decide +kernel)
theorem vX4_cost : zKv mX4_cost := ⟨zT_t 440 (by decide +kernel) (by decide +kernel), zT_t 441 (by decide +kernel) (by decide +kernel)⟩
theorem vX4_count : zKv mX4_count := ⟨zT_t 444 (by decide +kernel) (by decide +kernel), zT_t 445 (by decide +kernel) (by decide +kernel)⟩
theorem vX5_row : zKv mX5_row := ⟨zT_t 552 (by decide +kernel) (by decide +kernel), zT_t 553 (by decide +kernel) (by decide +kernel)⟩
theorem sX5_isTable : Cond.static yX5_isTable ∈ zT := zT_t 556 (by decide +kernel) (by decide +kernel)
theorem sX5_in : Cond.static yX5_in ∈ zT := zT_t 559 (by decide +kernel) (by decide +kernel)
theorem vX5_test : zKv mX5_test := ⟨zT_t 562 (by decide +kernel) (by decide +kernel), zT_t 563 (by decide +kernel) (by decide +kernel)⟩
theorem vX5_join : zKv mX5_join := ⟨zT_t 566 (by decide +kernel) (by decide +kernel), zT_t 567 (by decide +kernel) (by decide +kernel)⟩
theorem vX5_ask : zKv mX5_ask := ⟨zT_t 570 (by decide +kernel) (by decide +kernel), zT_t 571 (by decide +kernel) (by decide +kernel)⟩
theorem vX5_ends : zKv mX5_ends := ⟨zT_t 575 (by decide +kernel) (by decide +kernel), zT_s 17 (by decide +kernel) (by decide +kernel)⟩
theorem vX5_isReadOut : zKv mX5_isReadOut := ⟨zT_t 579 (by decide +kernel) (by decide +kernel), zT_s 18 (by decide +kernel) (by decide +kernel)⟩
theorem vX5_lacking : zKv mX5_lacking := ⟨zT_t 583 (by decide +kernel) (by decide +kernel), zT_s 19 (by decide +kernel) (by decide +kernel)⟩
theorem vX5_isAlike : zKv mX5_isAlike := ⟨zT_t 587 (by decide +kernel) (by decide +kernel), zT_s 20 (by decide +kernel) (by decide +kernel)⟩
theorem vX5_cell : zKv mX5_cell := ⟨zT_t 591 (by decide +kernel) (by decide +kernel), zT_s 21 (by decide +kernel) (by decide +kernel)⟩
theorem vX5_stop : zKv mX5_stop := ⟨zT_t 594 (by decide +kernel) (by decide +kernel), zT_t 595 (by decide +kernel) (by decide +kernel)⟩
theorem vX5_go : zKv mX5_go := ⟨zT_t 598 (by decide +kernel) (by decide +kernel), zT_t 599 (by decide +kernel) (by decide +kernel)⟩
theorem vX5_gives : zKv mX5_gives := ⟨zT_t 603 (by decide +kernel) (by decide +kernel), zT_s 22 (by decide +kernel) (by decide +kernel)⟩
theorem vX5_choose : zKv mX5_choose := ⟨zT_t 607 (by decide +kernel) (by decide +kernel), zT_s 23 (by decide +kernel) (by decide +kernel)⟩
theorem vX5_reads : zKv mX5_reads := ⟨zT_t 611 (by decide +kernel) (by decide +kernel), zT_s 24 (by decide +kernel) (by decide +kernel)⟩
theorem vX5_passes : zKv mX5_passes := ⟨zT_t 615 (by decide +kernel) (by decide +kernel), zT_s 25 (by decide +kernel) (by decide +kernel)⟩
theorem vX5_finds : zKv mX5_finds := ⟨zT_t 619 (by decide +kernel) (by decide +kernel), zT_s 26 (by decide +kernel) (by decide +kernel)⟩
theorem vX5_nextIn : zKv mX5_nextIn := ⟨zT_t 623 (by decide +kernel) (by decide +kernel), zT_s 27 (by decide +kernel) (by decide +kernel)⟩
theorem vX5_spills : zKv mX5_spills := ⟨zT_t 627 (by decide +kernel) (by decide +kernel), zT_s 28 (by decide +kernel) (by decide +kernel)⟩
theorem vX5_inMemory : zKv mX5_inMemory := ⟨zT_t 631 (by decide +kernel) (by decide +kernel), zT_s 29 (by decide +kernel) (by decide +kernel)⟩
theorem vX5_turns : zKv mX5_turns := ⟨zT_t 635 (by decide +kernel) (by decide +kernel), zT_s 30 (by decide +kernel) (by decide +kernel)⟩
theorem vX5_isCheaper : zKv mX5_isCheaper := ⟨zT_t 639 (by decide +kernel) (by decide +kernel), zT_s 31 (by decide +kernel) (by decide +kernel)⟩
theorem vX5_memory : zKv mX5_memory := ⟨zT_t 642 (by decide +kernel) (by decide +kernel), zT_t 643 (by decide +kernel) (by decide +kernel)⟩
theorem vX5_force : zKv mX5_force := ⟨zT_t 646 (by decide +kernel) (by decide +kernel), zT_t 647 (by decide +kernel) (by decide +kernel)⟩
theorem vX5_order : zKv mX5_order := ⟨zT_t 650 (by decide +kernel) (by decide +kernel), zT_t 651 (by decide +kernel) (by decide +kernel)⟩
theorem vX5_ordered : zKv mX5_ordered := ⟨zT_t 654 (by decide +kernel) (by decide +kernel), zT_t 655 (by decide +kernel) (by decide +kernel)⟩
theorem vX5_told : zKv mX5_told := ⟨zT_t 658 (by decide +kernel) (by decide +kernel), zT_t 659 (by decide +kernel) (by decide +kernel)⟩
theorem vX5_given : zKv mX5_given := ⟨zT_t 662 (by decide +kernel) (by decide +kernel), zT_t 663 (by decide +kernel) (by decide +kernel)⟩
theorem vX5_where : zKv mX5_where := ⟨zT_t 666 (by decide +kernel) (by decide +kernel), zT_t 667 (by decide +kernel) (by decide +kernel)⟩
theorem vX5_sum : zKv mX5_sum := ⟨zT_t 670 (by decide +kernel) (by decide +kernel), zT_t 671 (by decide +kernel) (by decide +kernel)⟩
theorem vX5_plain : zKv mX5_plain := ⟨zT_t 675 (by decide +kernel) (by decide +kernel), zT_t 676 (by decide +kernel) (by decide +kernel)⟩
theorem vX5_passesAll : zKv mX5_passesAll := ⟨zT_t 680 (by decide +kernel) (by decide +kernel), zT_s 32 (by decide +kernel) (by decide +kernel)⟩
theorem vX5_fixed : zKv mX5_fixed := ⟨zT_t 683 (by decide +kernel) (by decide +kernel), zT_t 684 (by decide +kernel) (by decide +kernel)⟩
theorem vX5_costOf : zKv mX5_costOf := ⟨zT_t 688 (by decide +kernel) (by decide +kernel), zT_s 33 (by decide +kernel) (by decide +kernel)⟩
theorem vX5_cost : zKv mX5_cost := ⟨zT_t 691 (by decide +kernel) (by decide +kernel), zT_t 692 (by decide +kernel) (by decide +kernel)⟩
theorem vX5_count : zKv mX5_count := ⟨zT_t 695 (by decide +kernel) (by decide +kernel), zT_t 696 (by decide +kernel) (by decide +kernel)⟩
theorem kX4_row_53 : zK mX4_row mX4_isTable 53 1 := ⟨by decide, zT_t 198 (by decide +kernel) (by decide +kernel), zT_t 196 (by decide +kernel) (by decide +kernel), zT_t 1 (by decide +kernel) (by decide +kernel), by decide +kernel⟩
theorem kX4_row_57 : zK mX4_row mX4_isValue 57 1 := ⟨by decide, zT_t 201 (by decide +kernel) (by decide +kernel), zT_t 199 (by decide +kernel) (by decide +kernel), zT_t 1 (by decide +kernel) (by decide +kernel), by decide +kernel⟩
theorem kX4_row_60 : zK mX4_row mX3_addRow 60 3 := ⟨by decide, zT_t 205 (by decide +kernel) (by decide +kernel), zT_t 202 (by decide +kernel) (by decide +kernel), zT_t 2 (by decide +kernel) (by decide +kernel), by decide +kernel⟩
theorem kX4_test_53 : zK mX4_test mX4_isTable 53 1 := ⟨by decide, zT_t 198 (by decide +kernel) (by decide +kernel), zT_t 196 (by decide +kernel) (by decide +kernel), zT_t 1 (by decide +kernel) (by decide +kernel), by decide +kernel⟩
theorem kX4_test_64 : zK mX4_test mX4_isColumn 64 1 := ⟨by decide, zT_t 212 (by decide +kernel) (by decide +kernel), zT_t 210 (by decide +kernel) (by decide +kernel), zT_t 1 (by decide +kernel) (by decide +kernel), by decide +kernel⟩
theorem kX4_test_67 : zK mX4_test mX3_addTest 67 4 := ⟨by decide, zT_t 216 (by decide +kernel) (by decide +kernel), zT_t 213 (by decide +kernel) (by decide +kernel), zT_t 2 (by decide +kernel) (by decide +kernel), by decide +kernel⟩
theorem kX4_join_64 : zK mX4_join mX4_isColumn 64 1 := ⟨by decide, zT_t 212 (by decide +kernel) (by decide +kernel), zT_t 210 (by decide +kernel) (by decide +kernel), zT_t 1 (by decide +kernel) (by decide +kernel), by decide +kernel⟩
theorem kX4_ask_71 : zK mX4_ask mX2_begin 71 0 := ⟨by decide, zT_t 228 (by decide +kernel) (by decide +kernel), zT_t 225 (by decide +kernel) (by decide +kernel), zT_t 3 (by decide +kernel) (by decide +kernel), by decide +kernel⟩
theorem kX4_ask_74 : zK mX4_ask mX0_empty 74 0 := ⟨by decide, zT_t 235 (by decide +kernel) (by decide +kernel), zT_t 232 (by decide +kernel) (by decide +kernel), zT_t 4 (by decide +kernel) (by decide +kernel), by decide +kernel⟩
theorem kX4_ask_77 : zK mX4_ask mX1_empty 77 0 := ⟨by decide, zT_t 239 (by decide +kernel) (by decide +kernel), zT_t 236 (by decide +kernel) (by decide +kernel), zT_t 5 (by decide +kernel) (by decide +kernel), by decide +kernel⟩
theorem kX4_ask_96 : zK mX4_ask mX4_endIfNothingIsLeft 96 0 := ⟨by decide, zT_t 243 (by decide +kernel) (by decide +kernel), zT_t 240 (by decide +kernel) (by decide +kernel), zT_t 1 (by decide +kernel) (by decide +kernel), by decide +kernel⟩
theorem kX2_begin_37 : zK mX2_begin mJ7_fill_53178 37 2 := ⟨by decide, zT_t 231 (by decide +kernel) (by decide +kernel), zT_t 229 (by decide +kernel) (by decide +kernel), zT_t 7 (by decide +kernel) (by decide +kernel), by decide +kernel⟩
theorem kX4_endIfNothingIsLeft_177 : zK mX4_endIfNothingIsLeft mX4_bothAreReadOut 177 0 := ⟨by decide, zT_t 247 (by decide +kernel) (by decide +kernel), zT_t 244 (by decide +kernel) (by decide +kernel), zT_t 1 (by decide +kernel) (by decide +kernel), by decide +kernel⟩
theorem kX4_endIfNothingIsLeft_230 : zK mX4_endIfNothingIsLeft mX4_findLatePair 230 0 := ⟨by decide, zT_t 255 (by decide +kernel) (by decide +kernel), zT_t 252 (by decide +kernel) (by decide +kernel), zT_t 1 (by decide +kernel) (by decide +kernel), by decide +kernel⟩
theorem kX4_bothAreReadOut_191 : zK mX4_bothAreReadOut mX2_isReadOut 191 0 := ⟨by decide, zT_t 251 (by decide +kernel) (by decide +kernel), zT_t 248 (by decide +kernel) (by decide +kernel), zT_t 3 (by decide +kernel) (by decide +kernel), by decide +kernel⟩
theorem kX4_findLatePair_233 : zK mX4_findLatePair mX2_hasPassed 233 1 := ⟨by decide, zT_t 259 (by decide +kernel) (by decide +kernel), zT_t 256 (by decide +kernel) (by decide +kernel), zT_t 3 (by decide +kernel) (by decide +kernel), by decide +kernel⟩
theorem kX4_findLatePair_236 : zK mX4_findLatePair mX4_findLateRow1 236 0 := ⟨by decide, zT_t 263 (by decide +kernel) (by decide +kernel), zT_t 260 (by decide +kernel) (by decide +kernel), zT_t 1 (by decide +kernel) (by decide +kernel), by decide +kernel⟩
theorem kX4_findLateRow1_156 : zK mX4_findLateRow1 mX4_joinValue 156 2 := ⟨by decide, zT_t 267 (by decide +kernel) (by decide +kernel), zT_t 264 (by decide +kernel) (by decide +kernel), zT_t 1 (by decide +kernel) (by decide +kernel), by decide +kernel⟩
theorem kX4_findLateRow1_233 : zK mX4_findLateRow1 mX2_hasPassed 233 1 := ⟨by decide, zT_t 259 (by decide +kernel) (by decide +kernel), zT_t 256 (by decide +kernel) (by decide +kernel), zT_t 3 (by decide +kernel) (by decide +kernel), by decide +kernel⟩
theorem kX4_findLateRow1_239 : zK mX4_findLateRow1 mX1_has 239 2 := ⟨by decide, zT_t 275 (by decide +kernel) (by decide +kernel), zT_t 272 (by decide +kernel) (by decide +kernel), zT_t 5 (by decide +kernel) (by decide +kernel), by decide +kernel⟩
theorem kX4_joinValue_144 : zK mX4_joinValue mX3_valueAt 144 2 := ⟨by decide, zT_t 271 (by decide +kernel) (by decide +kernel), zT_t 268 (by decide +kernel) (by decide +kernel), zT_t 2 (by decide +kernel) (by decide +kernel), by decide +kernel⟩
theorem kX4_go_99 : zK mX4_go mX4_makeStep 99 0 := ⟨by decide, zT_t 287 (by decide +kernel) (by decide +kernel), zT_t 284 (by decide +kernel) (by decide +kernel), zT_t 1 (by decide +kernel) (by decide +kernel), by decide +kernel⟩
theorem kX4_makeStep_96 : zK mX4_makeStep mX4_endIfNothingIsLeft 96 0 := ⟨by decide, zT_t 243 (by decide +kernel) (by decide +kernel), zT_t 240 (by decide +kernel) (by decide +kernel), zT_t 1 (by decide +kernel) (by decide +kernel), by decide +kernel⟩
theorem kX4_makeStep_177 : zK mX4_makeStep mX4_bothAreReadOut 177 0 := ⟨by decide, zT_t 247 (by decide +kernel) (by decide +kernel), zT_t 244 (by decide +kernel) (by decide +kernel), zT_t 1 (by decide +kernel) (by decide +kernel), by decide +kernel⟩
theorem kX4_makeStep_181 : zK mX4_makeStep mX4_giveLatePair 181 0 := ⟨by decide, zT_t 291 (by decide +kernel) (by decide +kernel), zT_t 288 (by decide +kernel) (by decide +kernel), zT_t 1 (by decide +kernel) (by decide +kernel), by decide +kernel⟩
theorem kX4_makeStep_184 : zK mX4_makeStep mX4_tableToRead 184 0 := ⟨by decide, zT_t 299 (by decide +kernel) (by decide +kernel), zT_t 296 (by decide +kernel) (by decide +kernel), zT_t 1 (by decide +kernel) (by decide +kernel), by decide +kernel⟩
theorem kX4_makeStep_187 : zK mX4_makeStep mX4_readFrom 187 1 := ⟨by decide, zT_t 311 (by decide +kernel) (by decide +kernel), zT_t 308 (by decide +kernel) (by decide +kernel), zT_t 1 (by decide +kernel) (by decide +kernel), by decide +kernel⟩
theorem kX4_giveLatePair_224 : zK mX4_giveLatePair mX1_give 224 2 := ⟨by decide, zT_t 295 (by decide +kernel) (by decide +kernel), zT_t 292 (by decide +kernel) (by decide +kernel), zT_t 5 (by decide +kernel) (by decide +kernel), by decide +kernel⟩
theorem kX4_tableToRead_191 : zK mX4_tableToRead mX2_isReadOut 191 0 := ⟨by decide, zT_t 251 (by decide +kernel) (by decide +kernel), zT_t 248 (by decide +kernel) (by decide +kernel), zT_t 3 (by decide +kernel) (by decide +kernel), by decide +kernel⟩
theorem kX4_tableToRead_194 : zK mX4_tableToRead mX2_gainsMoreThan 194 1 := ⟨by decide, zT_t 303 (by decide +kernel) (by decide +kernel), zT_t 300 (by decide +kernel) (by decide +kernel), zT_t 3 (by decide +kernel) (by decide +kernel), by decide +kernel⟩
theorem kX2_gainsMoreThan_66 : zK mX2_gainsMoreThan mX2_wholeCost 66 0 := ⟨by decide, zT_t 307 (by decide +kernel) (by decide +kernel), zT_t 304 (by decide +kernel) (by decide +kernel), zT_t 3 (by decide +kernel) (by decide +kernel), by decide +kernel⟩
theorem kX4_readFrom_105 : zK mX4_readFrom mX4_spillExcess 105 0 := ⟨by decide, zT_t 340 (by decide +kernel) (by decide +kernel), zT_t 337 (by decide +kernel) (by decide +kernel), zT_t 1 (by decide +kernel) (by decide +kernel), by decide +kernel⟩
theorem kX4_readFrom_198 : zK mX4_readFrom mX2_tryTests 198 1 := ⟨by decide, zT_t 315 (by decide +kernel) (by decide +kernel), zT_t 312 (by decide +kernel) (by decide +kernel), zT_t 3 (by decide +kernel) (by decide +kernel), by decide +kernel⟩
theorem kX4_readFrom_201 : zK mX4_readFrom mX4_givePairsOf 201 2 := ⟨by decide, zT_t 324 (by decide +kernel) (by decide +kernel), zT_t 321 (by decide +kernel) (by decide +kernel), zT_t 1 (by decide +kernel) (by decide +kernel), by decide +kernel⟩
theorem kX4_readFrom_205 : zK mX4_readFrom mX0_take 205 2 := ⟨by decide, zT_t 336 (by decide +kernel) (by decide +kernel), zT_t 333 (by decide +kernel) (by decide +kernel), zT_t 4 (by decide +kernel) (by decide +kernel), by decide +kernel⟩
theorem kX4_readFrom_208 : zK mX4_readFrom mX2_isAtPoint 208 0 := ⟨by decide, zT_t 348 (by decide +kernel) (by decide +kernel), zT_t 345 (by decide +kernel) (by decide +kernel), zT_t 3 (by decide +kernel) (by decide +kernel), by decide +kernel⟩
theorem kX4_readFrom_211 : zK mX4_readFrom mX2_turnOrder 211 0 := ⟨by decide, zT_t 352 (by decide +kernel) (by decide +kernel), zT_t 349 (by decide +kernel) (by decide +kernel), zT_t 3 (by decide +kernel) (by decide +kernel), by decide +kernel⟩
theorem kX2_tryTests_73 : zK mX2_tryTests mX3_passes 73 2 := ⟨by decide, zT_t 319 (by decide +kernel) (by decide +kernel), zT_t 316 (by decide +kernel) (by decide +kernel), zT_t 2 (by decide +kernel) (by decide +kernel), by decide +kernel⟩
theorem kX3_passes_34 : zK mX3_passes mX3_valueAt 34 2 := ⟨by decide, zT_t 271 (by decide +kernel) (by decide +kernel), zT_t 320 (by decide +kernel) (by decide +kernel), zT_t 2 (by decide +kernel) (by decide +kernel), by decide +kernel⟩
theorem kX4_givePairsOf_156 : zK mX4_givePairsOf mX4_joinValue 156 2 := ⟨by decide, zT_t 267 (by decide +kernel) (by decide +kernel), zT_t 264 (by decide +kernel) (by decide +kernel), zT_t 1 (by decide +kernel) (by decide +kernel), by decide +kernel⟩
theorem kX4_givePairsOf_217 : zK mX4_givePairsOf mX0_rowAt 217 1 := ⟨by decide, zT_t 328 (by decide +kernel) (by decide +kernel), zT_t 325 (by decide +kernel) (by decide +kernel), zT_t 4 (by decide +kernel) (by decide +kernel), by decide +kernel⟩
theorem kX4_givePairsOf_221 : zK mX4_givePairsOf mX0_tableAt 221 1 := ⟨by decide, zT_t 332 (by decide +kernel) (by decide +kernel), zT_t 329 (by decide +kernel) (by decide +kernel), zT_t 4 (by decide +kernel) (by decide +kernel), by decide +kernel⟩
theorem kX4_givePairsOf_224 : zK mX4_givePairsOf mX1_give 224 2 := ⟨by decide, zT_t 295 (by decide +kernel) (by decide +kernel), zT_t 292 (by decide +kernel) (by decide +kernel), zT_t 5 (by decide +kernel) (by decide +kernel), by decide +kernel⟩
theorem kX4_spillExcess_169 : zK mX4_spillExcess mX0_size 169 0 := ⟨by decide, zT_t 344 (by decide +kernel) (by decide +kernel), zT_t 341 (by decide +kernel) (by decide +kernel), zT_t 4 (by decide +kernel) (by decide +kernel), by decide +kernel⟩
theorem kX4_spillExcess_217 : zK mX4_spillExcess mX0_rowAt 217 1 := ⟨by decide, zT_t 328 (by decide +kernel) (by decide +kernel), zT_t 325 (by decide +kernel) (by decide +kernel), zT_t 4 (by decide +kernel) (by decide +kernel), by decide +kernel⟩
theorem kX4_spillExcess_221 : zK mX4_spillExcess mX0_tableAt 221 1 := ⟨by decide, zT_t 332 (by decide +kernel) (by decide +kernel), zT_t 329 (by decide +kernel) (by decide +kernel), zT_t 4 (by decide +kernel) (by decide +kernel), by decide +kernel⟩
theorem kX2_turnOrder_77 : zK mX2_turnOrder mX2_sortIntoNewOrder 77 0 := ⟨by decide, zT_t 356 (by decide +kernel) (by decide +kernel), zT_t 353 (by decide +kernel) (by decide +kernel), zT_t 3 (by decide +kernel) (by decide +kernel), by decide +kernel⟩
theorem kX2_turnOrder_80 : zK mX2_turnOrder mX2_takeNewOrder 80 0 := ⟨by decide, zT_t 364 (by decide +kernel) (by decide +kernel), zT_t 361 (by decide +kernel) (by decide +kernel), zT_t 3 (by decide +kernel) (by decide +kernel), by decide +kernel⟩
theorem kX2_sortIntoNewOrder_88 : zK mX2_sortIntoNewOrder mX2_isCheaperToFail 88 2 := ⟨by decide, zT_t 360 (by decide +kernel) (by decide +kernel), zT_t 357 (by decide +kernel) (by decide +kernel), zT_t 3 (by decide +kernel) (by decide +kernel), by decide +kernel⟩
theorem kX4_memory_105 : zK mX4_memory mX4_spillExcess 105 0 := ⟨by decide, zT_t 340 (by decide +kernel) (by decide +kernel), zT_t 337 (by decide +kernel) (by decide +kernel), zT_t 1 (by decide +kernel) (by decide +kernel), by decide +kernel⟩
theorem kX4_force_53 : zK mX4_force mX4_isTable 53 1 := ⟨by decide, zT_t 198 (by decide +kernel) (by decide +kernel), zT_t 196 (by decide +kernel) (by decide +kernel), zT_t 1 (by decide +kernel) (by decide +kernel), by decide +kernel⟩
theorem kX4_order_53 : zK mX4_order mX4_isTable 53 1 := ⟨by decide, zT_t 198 (by decide +kernel) (by decide +kernel), zT_t 196 (by decide +kernel) (by decide +kernel), zT_t 1 (by decide +kernel) (by decide +kernel), by decide +kernel⟩
theorem kX4_order_112 : zK mX4_order mX2_forceOrder 112 1 := ⟨by decide, zT_t 380 (by decide +kernel) (by decide +kernel), zT_t 377 (by decide +kernel) (by decide +kernel), zT_t 3 (by decide +kernel) (by decide +kernel), by decide +kernel⟩
theorem kX2_forceOrder_80 : zK mX2_forceOrder mX2_takeNewOrder 80 0 := ⟨by decide, zT_t 364 (by decide +kernel) (by decide +kernel), zT_t 361 (by decide +kernel) (by decide +kernel), zT_t 3 (by decide +kernel) (by decide +kernel), by decide +kernel⟩
theorem kX2_forceOrder_84 : zK mX2_forceOrder mX2_readIntoNewOrder 84 1 := ⟨by decide, zT_t 384 (by decide +kernel) (by decide +kernel), zT_t 381 (by decide +kernel) (by decide +kernel), zT_t 3 (by decide +kernel) (by decide +kernel), by decide +kernel⟩
theorem kX4_ordered_53 : zK mX4_ordered mX4_isTable 53 1 := ⟨by decide, zT_t 198 (by decide +kernel) (by decide +kernel), zT_t 196 (by decide +kernel) (by decide +kernel), zT_t 1 (by decide +kernel) (by decide +kernel), by decide +kernel⟩
theorem kX4_told_53 : zK mX4_told mX4_isTable 53 1 := ⟨by decide, zT_t 198 (by decide +kernel) (by decide +kernel), zT_t 196 (by decide +kernel) (by decide +kernel), zT_t 1 (by decide +kernel) (by decide +kernel), by decide +kernel⟩
theorem kX4_given_53 : zK mX4_given mX4_isTable 53 1 := ⟨by decide, zT_t 198 (by decide +kernel) (by decide +kernel), zT_t 196 (by decide +kernel) (by decide +kernel), zT_t 1 (by decide +kernel) (by decide +kernel), by decide +kernel⟩
theorem kX4_given_134 : zK mX4_given mX1_rowOf 134 2 := ⟨by decide, zT_t 400 (by decide +kernel) (by decide +kernel), zT_t 397 (by decide +kernel) (by decide +kernel), zT_t 5 (by decide +kernel) (by decide +kernel), by decide +kernel⟩
theorem kX4_where_53 : zK mX4_where mX4_isTable 53 1 := ⟨by decide, zT_t 198 (by decide +kernel) (by decide +kernel), zT_t 196 (by decide +kernel) (by decide +kernel), zT_t 1 (by decide +kernel) (by decide +kernel), by decide +kernel⟩
theorem kX4_sum_53 : zK mX4_sum mX4_isTable 53 1 := ⟨by decide, zT_t 198 (by decide +kernel) (by decide +kernel), zT_t 196 (by decide +kernel) (by decide +kernel), zT_t 1 (by decide +kernel) (by decide +kernel), by decide +kernel⟩
theorem kX4_sum_64 : zK mX4_sum mX4_isColumn 64 1 := ⟨by decide, zT_t 212 (by decide +kernel) (by decide +kernel), zT_t 210 (by decide +kernel) (by decide +kernel), zT_t 1 (by decide +kernel) (by decide +kernel), by decide +kernel⟩
theorem kX4_sum_134 : zK mX4_sum mX1_rowOf 134 2 := ⟨by decide, zT_t 400 (by decide +kernel) (by decide +kernel), zT_t 397 (by decide +kernel) (by decide +kernel), zT_t 5 (by decide +kernel) (by decide +kernel), by decide +kernel⟩
theorem kX4_sum_144 : zK mX4_sum mX3_valueAt 144 2 := ⟨by decide, zT_t 271 (by decide +kernel) (by decide +kernel), zT_t 268 (by decide +kernel) (by decide +kernel), zT_t 2 (by decide +kernel) (by decide +kernel), by decide +kernel⟩
theorem kX4_plain_147 : zK mX4_plain mJ7_fill_53178 147 2 := ⟨by decide, zT_t 231 (by decide +kernel) (by decide +kernel), zT_t 413 (by decide +kernel) (by decide +kernel), zT_t 7 (by decide +kernel) (by decide +kernel), by decide +kernel⟩
theorem kX4_plain_153 : zK mX4_plain mX3_passesAll 153 1 := ⟨by decide, zT_t 417 (by decide +kernel) (by decide +kernel), zT_t 414 (by decide +kernel) (by decide +kernel), zT_t 2 (by decide +kernel) (by decide +kernel), by decide +kernel⟩
theorem kX4_plain_156 : zK mX4_plain mX4_joinValue 156 2 := ⟨by decide, zT_t 267 (by decide +kernel) (by decide +kernel), zT_t 264 (by decide +kernel) (by decide +kernel), zT_t 1 (by decide +kernel) (by decide +kernel), by decide +kernel⟩
theorem kX3_passesAll_38 : zK mX3_passesAll mX3_passes 38 2 := ⟨by decide, zT_t 319 (by decide +kernel) (by decide +kernel), zT_t 418 (by decide +kernel) (by decide +kernel), zT_t 2 (by decide +kernel) (by decide +kernel), by decide +kernel⟩
theorem kX4_fixed_53 : zK mX4_fixed mX4_isTable 53 1 := ⟨by decide, zT_t 198 (by decide +kernel) (by decide +kernel), zT_t 196 (by decide +kernel) (by decide +kernel), zT_t 1 (by decide +kernel) (by decide +kernel), by decide +kernel⟩
theorem kX4_fixed_159 : zK mX4_fixed mX2_cheapestFixedOrder 159 0 := ⟨by decide, zT_t 426 (by decide +kernel) (by decide +kernel), zT_t 423 (by decide +kernel) (by decide +kernel), zT_t 3 (by decide +kernel) (by decide +kernel), by decide +kernel⟩
theorem kX2_cheapestFixedOrder_37 : zK mX2_cheapestFixedOrder mJ7_fill_53178 37 2 := ⟨by decide, zT_t 231 (by decide +kernel) (by decide +kernel), zT_t 229 (by decide +kernel) (by decide +kernel), zT_t 7 (by decide +kernel) (by decide +kernel), by decide +kernel⟩
theorem kX2_cheapestFixedOrder_101 : zK mX2_cheapestFixedOrder mJ9_min_7cf53 101 2 := ⟨by decide, zT_t 438 (by decide +kernel) (by decide +kernel), zT_t 436 (by decide +kernel) (by decide +kernel), zT_t 8 (by decide +kernel) (by decide +kernel), by decide +kernel⟩
theorem kX2_cheapestFixedOrder_91 : zK mX2_cheapestFixedOrder mX2_findFailedTests 91 0 := ⟨by decide, zT_t 430 (by decide +kernel) (by decide +kernel), zT_t 427 (by decide +kernel) (by decide +kernel), zT_t 3 (by decide +kernel) (by decide +kernel), by decide +kernel⟩
theorem kX2_cheapestFixedOrder_97 : zK mX2_cheapestFixedOrder mX2_rowsThatPass 97 1 := ⟨by decide, zT_t 435 (by decide +kernel) (by decide +kernel), zT_t 432 (by decide +kernel) (by decide +kernel), zT_t 3 (by decide +kernel) (by decide +kernel), by decide +kernel⟩
theorem kX2_findFailedTests_73 : zK mX2_findFailedTests mX3_passes 73 2 := ⟨by decide, zT_t 319 (by decide +kernel) (by decide +kernel), zT_t 316 (by decide +kernel) (by decide +kernel), zT_t 2 (by decide +kernel) (by decide +kernel), by decide +kernel⟩
theorem kX4_cost_53 : zK mX4_cost mX4_isTable 53 1 := ⟨by decide, zT_t 198 (by decide +kernel) (by decide +kernel), zT_t 196 (by decide +kernel) (by decide +kernel), zT_t 1 (by decide +kernel) (by decide +kernel), by decide +kernel⟩
theorem kX4_count_166 : zK mX4_count mX2_wholeCost 166 0 := ⟨by decide, zT_t 307 (by decide +kernel) (by decide +kernel), zT_t 447 (by decide +kernel) (by decide +kernel), zT_t 3 (by decide +kernel) (by decide +kernel), by decide +kernel⟩
theorem kX4_count_169 : zK mX4_count mX0_size 169 0 := ⟨by decide, zT_t 344 (by decide +kernel) (by decide +kernel), zT_t 341 (by decide +kernel) (by decide +kernel), zT_t 4 (by decide +kernel) (by decide +kernel), by decide +kernel⟩
theorem kX5_row_81 : zK mX5_row mX5_in 81 3 := ⟨by decide, zT_t 560 (by decide +kernel) (by decide +kernel), zT_t 558 (by decide +kernel) (by decide +kernel), zT_t 6 (by decide +kernel) (by decide +kernel), by decide +kernel⟩
theorem kX5_row_85 : zK mX5_row mX5_isTable 85 1 := ⟨by decide, zT_t 557 (by decide +kernel) (by decide +kernel), zT_t 555 (by decide +kernel) (by decide +kernel), zT_t 6 (by decide +kernel) (by decide +kernel), by decide +kernel⟩
theorem kX5_isTable_81 : zK mX5_isTable mX5_in 81 3 := ⟨by decide, zT_t 560 (by decide +kernel) (by decide +kernel), zT_t 558 (by decide +kernel) (by decide +kernel), zT_t 6 (by decide +kernel) (by decide +kernel), by decide +kernel⟩
theorem kX5_test_81 : zK mX5_test mX5_in 81 3 := ⟨by decide, zT_t 560 (by decide +kernel) (by decide +kernel), zT_t 558 (by decide +kernel) (by decide +kernel), zT_t 6 (by decide +kernel) (by decide +kernel), by decide +kernel⟩
theorem kX5_test_85 : zK mX5_test mX5_isTable 85 1 := ⟨by decide, zT_t 557 (by decide +kernel) (by decide +kernel), zT_t 555 (by decide +kernel) (by decide +kernel), zT_t 6 (by decide +kernel) (by decide +kernel), by decide +kernel⟩
theorem kX5_join_81 : zK mX5_join mX5_in 81 3 := ⟨by decide, zT_t 560 (by decide +kernel) (by decide +kernel), zT_t 558 (by decide +kernel) (by decide +kernel), zT_t 6 (by decide +kernel) (by decide +kernel), by decide +kernel⟩
theorem kX5_ask_121 : zK mX5_ask mX5_ends 121 0 := ⟨by decide, zT_t 576 (by decide +kernel) (by decide +kernel), zT_t 573 (by decide +kernel) (by decide +kernel), zT_t 6 (by decide +kernel) (by decide +kernel), by decide +kernel⟩
theorem kX5_ends_128 : zK mX5_ends mX5_isReadOut 128 1 := ⟨by decide, zT_t 580 (by decide +kernel) (by decide +kernel), zT_t 577 (by decide +kernel) (by decide +kernel), zT_t 6 (by decide +kernel) (by decide +kernel), by decide +kernel⟩
theorem kX5_ends_131 : zK mX5_ends mX5_lacking 131 0 := ⟨by decide, zT_t 584 (by decide +kernel) (by decide +kernel), zT_t 581 (by decide +kernel) (by decide +kernel), zT_t 6 (by decide +kernel) (by decide +kernel), by decide +kernel⟩
theorem kX5_lacking_124 : zK mX5_lacking mX5_isAlike 124 2 := ⟨by decide, zT_t 588 (by decide +kernel) (by decide +kernel), zT_t 585 (by decide +kernel) (by decide +kernel), zT_t 6 (by decide +kernel) (by decide +kernel), by decide +kernel⟩
theorem kX5_isAlike_92 : zK mX5_isAlike mX5_cell 92 3 := ⟨by decide, zT_t 592 (by decide +kernel) (by decide +kernel), zT_t 589 (by decide +kernel) (by decide +kernel), zT_t 6 (by decide +kernel) (by decide +kernel), by decide +kernel⟩
theorem kX5_go_81 : zK mX5_go mX5_in 81 3 := ⟨by decide, zT_t 560 (by decide +kernel) (by decide +kernel), zT_t 558 (by decide +kernel) (by decide +kernel), zT_t 6 (by decide +kernel) (by decide +kernel), by decide +kernel⟩
theorem kX5_go_121 : zK mX5_go mX5_ends 121 0 := ⟨by decide, zT_t 576 (by decide +kernel) (by decide +kernel), zT_t 573 (by decide +kernel) (by decide +kernel), zT_t 6 (by decide +kernel) (by decide +kernel), by decide +kernel⟩
theorem kX5_go_128 : zK mX5_go mX5_isReadOut 128 1 := ⟨by decide, zT_t 580 (by decide +kernel) (by decide +kernel), zT_t 577 (by decide +kernel) (by decide +kernel), zT_t 6 (by decide +kernel) (by decide +kernel), by decide +kernel⟩
theorem kX5_go_131 : zK mX5_go mX5_lacking 131 0 := ⟨by decide, zT_t 584 (by decide +kernel) (by decide +kernel), zT_t 581 (by decide +kernel) (by decide +kernel), zT_t 6 (by decide +kernel) (by decide +kernel), by decide +kernel⟩
theorem kX5_go_148 : zK mX5_go mX5_gives 148 2 := ⟨by decide, zT_t 604 (by decide +kernel) (by decide +kernel), zT_t 601 (by decide +kernel) (by decide +kernel), zT_t 6 (by decide +kernel) (by decide +kernel), by decide +kernel⟩
theorem kX5_go_161 : zK mX5_go mX5_choose 161 0 := ⟨by decide, zT_t 608 (by decide +kernel) (by decide +kernel), zT_t 605 (by decide +kernel) (by decide +kernel), zT_t 6 (by decide +kernel) (by decide +kernel), by decide +kernel⟩
theorem kX5_go_164 : zK mX5_go mX5_reads 164 1 := ⟨by decide, zT_t 612 (by decide +kernel) (by decide +kernel), zT_t 609 (by decide +kernel) (by decide +kernel), zT_t 6 (by decide +kernel) (by decide +kernel), by decide +kernel⟩
theorem kX5_choose_128 : zK mX5_choose mX5_isReadOut 128 1 := ⟨by decide, zT_t 580 (by decide +kernel) (by decide +kernel), zT_t 577 (by decide +kernel) (by decide +kernel), zT_t 6 (by decide +kernel) (by decide +kernel), by decide +kernel⟩
theorem kX5_reads_135 : zK mX5_reads mX5_passes 135 3 := ⟨by decide, zT_t 616 (by decide +kernel) (by decide +kernel), zT_t 613 (by decide +kernel) (by decide +kernel), zT_t 6 (by decide +kernel) (by decide +kernel), by decide +kernel⟩
theorem kX5_reads_138 : zK mX5_reads mX5_finds 138 2 := ⟨by decide, zT_t 620 (by decide +kernel) (by decide +kernel), zT_t 617 (by decide +kernel) (by decide +kernel), zT_t 6 (by decide +kernel) (by decide +kernel), by decide +kernel⟩
theorem kX5_reads_142 : zK mX5_reads mX5_turns 142 1 := ⟨by decide, zT_t 636 (by decide +kernel) (by decide +kernel), zT_t 633 (by decide +kernel) (by decide +kernel), zT_t 6 (by decide +kernel) (by decide +kernel), by decide +kernel⟩
theorem kX5_passes_92 : zK mX5_passes mX5_cell 92 3 := ⟨by decide, zT_t 592 (by decide +kernel) (by decide +kernel), zT_t 589 (by decide +kernel) (by decide +kernel), zT_t 6 (by decide +kernel) (by decide +kernel), by decide +kernel⟩
theorem kX5_finds_124 : zK mX5_finds mX5_isAlike 124 2 := ⟨by decide, zT_t 588 (by decide +kernel) (by decide +kernel), zT_t 585 (by decide +kernel) (by decide +kernel), zT_t 6 (by decide +kernel) (by decide +kernel), by decide +kernel⟩
theorem kX5_finds_145 : zK mX5_finds mX5_nextIn 145 2 := ⟨by decide, zT_t 624 (by decide +kernel) (by decide +kernel), zT_t 621 (by decide +kernel) (by decide +kernel), zT_t 6 (by decide +kernel) (by decide +kernel), by decide +kernel⟩
theorem kX5_finds_148 : zK mX5_finds mX5_gives 148 2 := ⟨by decide, zT_t 604 (by decide +kernel) (by decide +kernel), zT_t 601 (by decide +kernel) (by decide +kernel), zT_t 6 (by decide +kernel) (by decide +kernel), by decide +kernel⟩
theorem kX5_finds_152 : zK mX5_finds mX5_spills 152 0 := ⟨by decide, zT_t 628 (by decide +kernel) (by decide +kernel), zT_t 625 (by decide +kernel) (by decide +kernel), zT_t 6 (by decide +kernel) (by decide +kernel), by decide +kernel⟩
theorem kX5_spills_155 : zK mX5_spills mX5_inMemory 155 0 := ⟨by decide, zT_t 632 (by decide +kernel) (by decide +kernel), zT_t 629 (by decide +kernel) (by decide +kernel), zT_t 6 (by decide +kernel) (by decide +kernel), by decide +kernel⟩
theorem kX5_turns_158 : zK mX5_turns mX5_isCheaper 158 3 := ⟨by decide, zT_t 640 (by decide +kernel) (by decide +kernel), zT_t 637 (by decide +kernel) (by decide +kernel), zT_t 6 (by decide +kernel) (by decide +kernel), by decide +kernel⟩
theorem kX5_memory_81 : zK mX5_memory mX5_in 81 3 := ⟨by decide, zT_t 560 (by decide +kernel) (by decide +kernel), zT_t 558 (by decide +kernel) (by decide +kernel), zT_t 6 (by decide +kernel) (by decide +kernel), by decide +kernel⟩
theorem kX5_memory_152 : zK mX5_memory mX5_spills 152 0 := ⟨by decide, zT_t 628 (by decide +kernel) (by decide +kernel), zT_t 625 (by decide +kernel) (by decide +kernel), zT_t 6 (by decide +kernel) (by decide +kernel), by decide +kernel⟩
theorem kX5_force_81 : zK mX5_force mX5_in 81 3 := ⟨by decide, zT_t 560 (by decide +kernel) (by decide +kernel), zT_t 558 (by decide +kernel) (by decide +kernel), zT_t 6 (by decide +kernel) (by decide +kernel), by decide +kernel⟩
theorem kX5_order_85 : zK mX5_order mX5_isTable 85 1 := ⟨by decide, zT_t 557 (by decide +kernel) (by decide +kernel), zT_t 555 (by decide +kernel) (by decide +kernel), zT_t 6 (by decide +kernel) (by decide +kernel), by decide +kernel⟩
theorem kX5_ordered_81 : zK mX5_ordered mX5_in 81 3 := ⟨by decide, zT_t 560 (by decide +kernel) (by decide +kernel), zT_t 558 (by decide +kernel) (by decide +kernel), zT_t 6 (by decide +kernel) (by decide +kernel), by decide +kernel⟩
theorem kX5_ordered_85 : zK mX5_ordered mX5_isTable 85 1 := ⟨by decide, zT_t 557 (by decide +kernel) (by decide +kernel), zT_t 555 (by decide +kernel) (by decide +kernel), zT_t 6 (by decide +kernel) (by decide +kernel), by decide +kernel⟩
theorem kX5_told_81 : zK mX5_told mX5_in 81 3 := ⟨by decide, zT_t 560 (by decide +kernel) (by decide +kernel), zT_t 558 (by decide +kernel) (by decide +kernel), zT_t 6 (by decide +kernel) (by decide +kernel), by decide +kernel⟩
theorem kX5_told_85 : zK mX5_told mX5_isTable 85 1 := ⟨by decide, zT_t 557 (by decide +kernel) (by decide +kernel), zT_t 555 (by decide +kernel) (by decide +kernel), zT_t 6 (by decide +kernel) (by decide +kernel), by decide +kernel⟩
theorem kX5_given_81 : zK mX5_given mX5_in 81 3 := ⟨by decide, zT_t 560 (by decide +kernel) (by decide +kernel), zT_t 558 (by decide +kernel) (by decide +kernel), zT_t 6 (by decide +kernel) (by decide +kernel), by decide +kernel⟩
theorem kX5_given_85 : zK mX5_given mX5_isTable 85 1 := ⟨by decide, zT_t 557 (by decide +kernel) (by decide +kernel), zT_t 555 (by decide +kernel) (by decide +kernel), zT_t 6 (by decide +kernel) (by decide +kernel), by decide +kernel⟩
theorem kX5_where_81 : zK mX5_where mX5_in 81 3 := ⟨by decide, zT_t 560 (by decide +kernel) (by decide +kernel), zT_t 558 (by decide +kernel) (by decide +kernel), zT_t 6 (by decide +kernel) (by decide +kernel), by decide +kernel⟩
theorem kX5_where_85 : zK mX5_where mX5_isTable 85 1 := ⟨by decide, zT_t 557 (by decide +kernel) (by decide +kernel), zT_t 555 (by decide +kernel) (by decide +kernel), zT_t 6 (by decide +kernel) (by decide +kernel), by decide +kernel⟩
theorem kX5_sum_81 : zK mX5_sum mX5_in 81 3 := ⟨by decide, zT_t 560 (by decide +kernel) (by decide +kernel), zT_t 558 (by decide +kernel) (by decide +kernel), zT_t 6 (by decide +kernel) (by decide +kernel), by decide +kernel⟩
theorem kX5_sum_85 : zK mX5_sum mX5_isTable 85 1 := ⟨by decide, zT_t 557 (by decide +kernel) (by decide +kernel), zT_t 555 (by decide +kernel) (by decide +kernel), zT_t 6 (by decide +kernel) (by decide +kernel), by decide +kernel⟩
theorem kX5_sum_92 : zK mX5_sum mX5_cell 92 3 := ⟨by decide, zT_t 592 (by decide +kernel) (by decide +kernel), zT_t 589 (by decide +kernel) (by decide +kernel), zT_t 6 (by decide +kernel) (by decide +kernel), by decide +kernel⟩
theorem kX5_sum_167 : zK mX5_sum mX5_given 167 2 := ⟨by decide, zT_t 664 (by decide +kernel) (by decide +kernel), zT_t 673 (by decide +kernel) (by decide +kernel), zT_t 6 (by decide +kernel) (by decide +kernel), by decide +kernel⟩
theorem kX5_plain_124 : zK mX5_plain mX5_isAlike 124 2 := ⟨by decide, zT_t 588 (by decide +kernel) (by decide +kernel), zT_t 585 (by decide +kernel) (by decide +kernel), zT_t 6 (by decide +kernel) (by decide +kernel), by decide +kernel⟩
theorem kX5_plain_169 : zK mX5_plain mX5_passesAll 169 2 := ⟨by decide, zT_t 681 (by decide +kernel) (by decide +kernel), zT_t 678 (by decide +kernel) (by decide +kernel), zT_t 6 (by decide +kernel) (by decide +kernel), by decide +kernel⟩
theorem kX5_passesAll_135 : zK mX5_passesAll mX5_passes 135 3 := ⟨by decide, zT_t 616 (by decide +kernel) (by decide +kernel), zT_t 613 (by decide +kernel) (by decide +kernel), zT_t 6 (by decide +kernel) (by decide +kernel), by decide +kernel⟩
theorem kX5_fixed_85 : zK mX5_fixed mX5_isTable 85 1 := ⟨by decide, zT_t 557 (by decide +kernel) (by decide +kernel), zT_t 555 (by decide +kernel) (by decide +kernel), zT_t 6 (by decide +kernel) (by decide +kernel), by decide +kernel⟩
theorem kX5_fixed_172 : zK mX5_fixed mX5_costOf 172 2 := ⟨by decide, zT_t 689 (by decide +kernel) (by decide +kernel), zT_t 686 (by decide +kernel) (by decide +kernel), zT_t 6 (by decide +kernel) (by decide +kernel), by decide +kernel⟩
theorem kX5_costOf_135 : zK mX5_costOf mX5_passes 135 3 := ⟨by decide, zT_t 616 (by decide +kernel) (by decide +kernel), zT_t 613 (by decide +kernel) (by decide +kernel), zT_t 6 (by decide +kernel) (by decide +kernel), by decide +kernel⟩
theorem kX5_cost_85 : zK mX5_cost mX5_isTable 85 1 := ⟨by decide, zT_t 557 (by decide +kernel) (by decide +kernel), zT_t 555 (by decide +kernel) (by decide +kernel), zT_t 6 (by decide +kernel) (by decide +kernel), by decide +kernel⟩
theorem kX5_count_155 : zK mX5_count mX5_inMemory 155 0 := ⟨by decide, zT_t 632 (by decide +kernel) (by decide +kernel), zT_t 629 (by decide +kernel) (by decide +kernel), zT_t 6 (by decide +kernel) (by decide +kernel), by decide +kernel⟩
end
section
/-- the numbers of a picture: cell k, place i -/
def vs (V : Nat → Nat → Nat) (k i x : Nat) : Nat → Nat → Nat := fun a b => if a = k then (if b = i then x else V a b) else V a b
/-- a number that may be -1: 0 stands for it -/
def zo (n : Nat) : Int32 := nI n - 1
theorem upd_vs (V : Nat → Nat → Nat) (k i x : Nat) : upd (fun j => nI (V k j)) i (nI x) = fun j => nI (vs V k i x k j) := by
  funext j
  simp only [upd, vs, if_true]
  by_cases h : j = i <;> simp [h]
theorem Wp.heq {M : zm_I} {Q : Option Value → zh → Prop} {pc : Nat} {L st : List Value} {h h' : zh} (e : h = h') (k : Wp M Q pc L st h') : Wp M Q pc L st h := e ▸ k
theorem Wp.leq {M : zm_I} {Q : Option Value → zh → Prop} {pc : Nat} {L L' st : List Value} {h : zh} (e : L = L') (k : Wp M Q pc L' st h) : Wp M Q pc L st h := e ▸ k
theorem Wp.iaddN {M : zm_I} {Q : Option Value → zh → Prop} {pc pc2 : Nat} {L st : List Value} {h : zh} {a b : Nat} (d : decode (zm_c M) pc = .ok (.iadd, 1)) (hp : pc + 1 = pc2) (k : Wp M Q pc2 L (.int (nI (a + b)) :: st) h) : Wp M Q pc L (.int (nI b) :: .int (nI a) :: st) h := Wp.iadd d hp (Wp.top _ (nI_add a b) k)
theorem Wp.imulN {M : zm_I} {Q : Option Value → zh → Prop} {pc pc2 : Nat} {L st : List Value} {h : zh} {a b : Nat} (d : decode (zm_c M) pc = .ok (.imul, 1)) (hp : pc + 1 = pc2) (k : Wp M Q pc2 L (.int (nI (a * b)) :: st) h) : Wp M Q pc L (.int (nI b) :: .int (nI a) :: st) h := Wp.imul d hp (Wp.top _ (pk_mul a b) k)
theorem Wp.isubN {M : zm_I} {Q : Option Value → zh → Prop} {pc pc2 : Nat} {L st : List Value} {h : zh} {a b : Nat} (d : decode (zm_c M) pc = .ok (.isub, 1)) (hp : pc + 1 = pc2) (hb : b ≤ a) (k : Wp M Q pc2 L (.int (nI (a - b)) :: st) h) : Wp M Q pc L (.int (nI b) :: .int (nI a) :: st) h := Wp.isub d hp (Wp.top _ (pk_sub hb) k)
theorem nI_ne {b : Nat} (h0 : 0 < b) (hb : b < 2 ^ 31) : ¬ nI b = 0 := nI_ne0 h0 hb
theorem Wp.idivN {M : zm_I} {Q : Option Value → zh → Prop} {pc pc2 : Nat} {L st : List Value} {h : zh} {a b : Nat} (d : decode (zm_c M) pc = .ok (.idiv, 1)) (hp : pc + 1 = pc2) (ha : a < 2 ^ 31) (h0 : 0 < b) (hb : b < 2 ^ 31) (k : Wp M Q pc2 L (.int (nI (a / b)) :: st) h) : Wp M Q pc L (.int (nI b) :: .int (nI a) :: st) h := Wp.idiv d hp (nI_ne h0 hb) (Wp.top _ (pk_div ha h0 hb) k)
theorem Wp.iremN {M : zm_I} {Q : Option Value → zh → Prop} {pc pc2 : Nat} {L st : List Value} {h : zh} {a b : Nat} (d : decode (zm_c M) pc = .ok (.irem, 1)) (hp : pc + 1 = pc2) (ha : a < 2 ^ 31) (h0 : 0 < b) (hb : b < 2 ^ 31) (k : Wp M Q pc2 L (.int (nI (a % b)) :: st) h) : Wp M Q pc L (.int (nI b) :: .int (nI a) :: st) h := Wp.irem d hp (nI_ne h0 hb) (Wp.top _ (pk_rem ha h0 hb) k)
theorem Wp.iincN {M : zm_I} {Q : Option Value → zh → Prop} {pc pc2 : Nat} {L st : List Value} {h : zh} {i a : Nat} (d : decode (zm_c M) pc = .ok (.iinc i 1, 3)) (hp : pc + 3 = pc2) (hL : L[i]? = some (.int (nI a))) (hn : i < zm_n M) (hc : (L.getD (i - 1) .null).category = 1) (k : Wp M Q pc2 (L.set i (.int (nI (a + 1)))) st h) : Wp M Q pc L st h := Wp.iinc d hp hL (nI (a + 1)) (by rw [nI_succ]; rfl) hn hc k
theorem Wp.iconN {M : zm_I} {Q : Option Value → zh → Prop} {pc pc2 : Nat} {L st : List Value} {h : zh} (n : Nat) (d : decode (zm_c M) pc = .ok (.iconst (Int.ofNat n), 1)) (hp : pc + 1 = pc2) (k : Wp M Q pc2 L (.int (nI n) :: st) h) : Wp M Q pc L st h := Wp.icon d hp (nI n) (by show Int32.ofInt (n : Int) = nI n; rw [Int32.ofInt_eq_ofNat]; rfl) k
theorem Wp.bipN {M : zm_I} {Q : Option Value → zh → Prop} {pc pc2 : Nat} {L st : List Value} {h : zh} (n : Nat) (d : decode (zm_c M) pc = .ok (.bipush (Int.ofNat n), 2)) (hp : pc + 2 = pc2) (hn : (Int8.ofInt (Int.ofNat n)).toInt32 = nI n) (k : Wp M Q pc2 L (.int (nI n) :: st) h) : Wp M Q pc L st h := Wp.bipush d hp (nI n) hn k
theorem Wp.sipN {M : zm_I} {Q : Option Value → zh → Prop} {pc pc2 : Nat} {L st : List Value} {h : zh} (n : Nat) (d : decode (zm_c M) pc = .ok (.sipush (Int.ofNat n), 3)) (hp : pc + 3 = pc2) (hn : (Int16.ofInt (Int.ofNat n)).toInt32 = nI n) (k : Wp M Q pc2 L (.int (nI n) :: st) h) : Wp M Q pc L st h := Wp.sipush d hp (nI n) hn k
theorem Wp.icmpN_eq {M : zm_I} {Q : Option Value → zh → Prop} {pc pc2 : Nat} {L st : List Value} {h : zh} {a b : Nat} {off : Int} (tgt : Nat) (d : decode (zm_c M) pc = .ok (.if_icmp .eq off, 3)) (hp : pc + 3 = pc2) (ht : (pc : Int) + off = (tgt : Int)) (ha : a < 2 ^ 31) (hb : b < 2 ^ 31) (kt : a = b → Wp M Q tgt L st h) (kf : a ≠ b → Wp M Q pc2 L st h) : Wp M Q pc L (.int (nI b) :: .int (nI a) :: st) h := Wp.icmp_eq tgt d hp ht (fun z => kt ((nI_eq ha hb).mp z)) (fun z => kf (fun q => z ((nI_eq ha hb).mpr q)))
theorem Wp.icmpN_ne {M : zm_I} {Q : Option Value → zh → Prop} {pc pc2 : Nat} {L st : List Value} {h : zh} {a b : Nat} {off : Int} (tgt : Nat) (d : decode (zm_c M) pc = .ok (.if_icmp .ne off, 3)) (hp : pc + 3 = pc2) (ht : (pc : Int) + off = (tgt : Int)) (ha : a < 2 ^ 31) (hb : b < 2 ^ 31) (kt : a ≠ b → Wp M Q tgt L st h) (kf : a = b → Wp M Q pc2 L st h) : Wp M Q pc L (.int (nI b) :: .int (nI a) :: st) h := Wp.icmp_ne tgt d hp ht (fun z => kt (fun q => z ((nI_eq ha hb).mpr q))) (fun z => kf ((nI_eq ha hb).mp z))
theorem Wp.icmpN_lt {M : zm_I} {Q : Option Value → zh → Prop} {pc pc2 : Nat} {L st : List Value} {h : zh} {a b : Nat} {off : Int} (tgt : Nat) (d : decode (zm_c M) pc = .ok (.if_icmp .lt off, 3)) (hp : pc + 3 = pc2) (ht : (pc : Int) + off = (tgt : Int)) (ha : a < 2 ^ 31) (hb : b < 2 ^ 31) (kt : a < b → Wp M Q tgt L st h) (kf : b ≤ a → Wp M Q pc2 L st h) : Wp M Q pc L (.int (nI b) :: .int (nI a) :: st) h := Wp.icmp_lt tgt d hp ht (fun z => kt ((nI_ltI ha hb).mp z)) (fun z => kf (Nat.le_of_not_lt (fun q => z ((nI_ltI ha hb).mpr q))))
theorem Wp.icmpN_ge {M : zm_I} {Q : Option Value → zh → Prop} {pc pc2 : Nat} {L st : List Value} {h : zh} {a b : Nat} {off : Int} (tgt : Nat) (d : decode (zm_c M) pc = .ok (.if_icmp .ge off, 3)) (hp : pc + 3 = pc2) (ht : (pc : Int) + off = (tgt : Int)) (ha : a < 2 ^ 31) (hb : b < 2 ^ 31) (kt : b ≤ a → Wp M Q tgt L st h) (kf : a < b → Wp M Q pc2 L st h) : Wp M Q pc L (.int (nI b) :: .int (nI a) :: st) h := Wp.icmp_ge tgt d hp ht (fun z => kt ((nI_leI hb ha).mp z)) (fun z => kf (Nat.lt_of_not_le (fun q => z ((nI_leI hb ha).mpr q))))
theorem Wp.icmpN_gt {M : zm_I} {Q : Option Value → zh → Prop} {pc pc2 : Nat} {L st : List Value} {h : zh} {a b : Nat} {off : Int} (tgt : Nat) (d : decode (zm_c M) pc = .ok (.if_icmp .gt off, 3)) (hp : pc + 3 = pc2) (ht : (pc : Int) + off = (tgt : Int)) (ha : a < 2 ^ 31) (hb : b < 2 ^ 31) (kt : b < a → Wp M Q tgt L st h) (kf : a ≤ b → Wp M Q pc2 L st h) : Wp M Q pc L (.int (nI b) :: .int (nI a) :: st) h := Wp.icmp_gt tgt d hp ht (fun z => kt ((nI_ltI hb ha).mp z)) (fun z => kf (Nat.le_of_not_lt (fun q => z ((nI_ltI hb ha).mpr q))))
theorem Wp.icmpN_le {M : zm_I} {Q : Option Value → zh → Prop} {pc pc2 : Nat} {L st : List Value} {h : zh} {a b : Nat} {off : Int} (tgt : Nat) (d : decode (zm_c M) pc = .ok (.if_icmp .le off, 3)) (hp : pc + 3 = pc2) (ht : (pc : Int) + off = (tgt : Int)) (ha : a < 2 ^ 31) (hb : b < 2 ^ 31) (kt : a ≤ b → Wp M Q tgt L st h) (kf : b < a → Wp M Q pc2 L st h) : Wp M Q pc L (.int (nI b) :: .int (nI a) :: st) h := Wp.icmp_le tgt d hp ht (fun z => kt ((nI_leI ha hb).mp z)) (fun z => kf (Nat.lt_of_not_le (fun q => z ((nI_leI ha hb).mpr q))))
theorem Wp.ifN_eq {M : zm_I} {Q : Option Value → zh → Prop} {pc pc2 : Nat} {L st : List Value} {h : zh} {a : Nat} {off : Int} (tgt : Nat) (d : decode (zm_c M) pc = .ok (.ifCond .eq off, 3)) (hp : pc + 3 = pc2) (ht : (pc : Int) + off = (tgt : Int)) (ha : a < 2 ^ 31) (kt : a = 0 → Wp M Q tgt L st h) (kf : a ≠ 0 → Wp M Q pc2 L st h) : Wp M Q pc L (.int (nI a) :: st) h := by
  have hz : 0 < 2 ^ 31 := by decide
  exact Wp.if_eq tgt d hp ht (fun z => kt ((nI_eq ha hz).mp z)) (fun z => kf (fun q => z ((nI_eq ha hz).mpr q)))
theorem Wp.ifN_ne {M : zm_I} {Q : Option Value → zh → Prop} {pc pc2 : Nat} {L st : List Value} {h : zh} {a : Nat} {off : Int} (tgt : Nat) (d : decode (zm_c M) pc = .ok (.ifCond .ne off, 3)) (hp : pc + 3 = pc2) (ht : (pc : Int) + off = (tgt : Int)) (ha : a < 2 ^ 31) (kt : a ≠ 0 → Wp M Q tgt L st h) (kf : a = 0 → Wp M Q pc2 L st h) : Wp M Q pc L (.int (nI a) :: st) h := by
  have hz : 0 < 2 ^ 31 := by decide
  exact Wp.if_ne tgt d hp ht (fun z => kt (fun q => z ((nI_eq ha hz).mpr q))) (fun z => kf ((nI_eq ha hz).mp z))
theorem Wp.ifN_lt {M : zm_I} {Q : Option Value → zh → Prop} {pc pc2 : Nat} {L st : List Value} {h : zh} {a : Nat} {off : Int} (tgt : Nat) (d : decode (zm_c M) pc = .ok (.ifCond .lt off, 3)) (hp : pc + 3 = pc2) (ht : (pc : Int) + off = (tgt : Int)) (ha : a < 2 ^ 31) (kt : False → Wp M Q tgt L st h) (kf : True → Wp M Q pc2 L st h) : Wp M Q pc L (.int (nI a) :: st) h := by
  have hz : 0 < 2 ^ 31 := by decide
  exact Wp.if_lt tgt d hp ht (fun z => kt (absurd z (nI_pos ha))) (fun z => kf (trivial))
theorem Wp.ifN_ge {M : zm_I} {Q : Option Value → zh → Prop} {pc pc2 : Nat} {L st : List Value} {h : zh} {a : Nat} {off : Int} (tgt : Nat) (d : decode (zm_c M) pc = .ok (.ifCond .ge off, 3)) (hp : pc + 3 = pc2) (ht : (pc : Int) + off = (tgt : Int)) (ha : a < 2 ^ 31) (kt : True → Wp M Q tgt L st h) (kf : False → Wp M Q pc2 L st h) : Wp M Q pc L (.int (nI a) :: st) h := by
  have hz : 0 < 2 ^ 31 := by decide
  exact Wp.if_ge tgt d hp ht (fun z => kt (trivial)) (fun z => kf (z (nI_pos' ha)))
theorem Wp.ifN_gt {M : zm_I} {Q : Option Value → zh → Prop} {pc pc2 : Nat} {L st : List Value} {h : zh} {a : Nat} {off : Int} (tgt : Nat) (d : decode (zm_c M) pc = .ok (.ifCond .gt off, 3)) (hp : pc + 3 = pc2) (ht : (pc : Int) + off = (tgt : Int)) (ha : a < 2 ^ 31) (kt : 0 < a → Wp M Q tgt L st h) (kf : a = 0 → Wp M Q pc2 L st h) : Wp M Q pc L (.int (nI a) :: st) h := by
  have hz : 0 < 2 ^ 31 := by decide
  exact Wp.if_gt tgt d hp ht (fun z => kt ((nI_ltI hz ha).mp z)) (fun z => kf (Nat.le_zero.mp (Nat.le_of_not_lt (fun q => z ((nI_ltI hz ha).mpr q)))))
theorem Wp.ifN_le {M : zm_I} {Q : Option Value → zh → Prop} {pc pc2 : Nat} {L st : List Value} {h : zh} {a : Nat} {off : Int} (tgt : Nat) (d : decode (zm_c M) pc = .ok (.ifCond .le off, 3)) (hp : pc + 3 = pc2) (ht : (pc : Int) + off = (tgt : Int)) (ha : a < 2 ^ 31) (kt : a = 0 → Wp M Q tgt L st h) (kf : 0 < a → Wp M Q pc2 L st h) : Wp M Q pc L (.int (nI a) :: st) h := by
  have hz : 0 < 2 ^ 31 := by decide
  exact Wp.if_le tgt d hp ht (fun z => kt (Nat.le_zero.mp ((nI_leI ha hz).mp z))) (fun z => kf (Nat.lt_of_not_le (fun q => z ((nI_leI ha hz).mpr q))))
/-- a boolean as the machine has it -/
def zb (b : Bool) : Nat := if b then 1 else 0
theorem zb_t {b : Bool} (h : b = true) : zb b = 1 := by subst h; rfl
theorem zb_f {b : Bool} (h : b = false) : zb b = 0 := by subst h; rfl
theorem zb_le (b : Bool) : zb b ≤ 1 := by cases b <;> decide
theorem zb_lt (b : Bool) : zb b < 2 ^ 31 := by cases b <;> decide
theorem zb_0 {b : Bool} (h : zb b = 0) : b = false := by cases b <;> first | rfl | exact absurd h (by decide)
theorem zb_1 {b : Bool} (h : zb b ≠ 0) : b = true := by cases b <;> first | rfl | exact absurd rfl h
theorem zb_nar (b : Bool) : narrow .boolean (.int (nI (zb b))) = .int (nI (zb b)) := by cases b <;> decide +kernel
theorem zb_fits (b : Bool) : fits .boolean (.int (nI (zb b))) = true := by cases b <;> decide +kernel
def hM (V : Nat → Nat → Nat) : zh := [
  .inr (5, [.ref 1, .ref 2, .ref 3, .ref 4, .ref 5, .ref 6, .ref 7, .ref 8, .int (nI (V 0 8)), .int (zo (V 0 9)), .int (nI (V 0 10)), .int (nI (V 0 11)), .ref 9, .ref 10, .ref 11, .ref 12, .ref 13, .ref 14, .ref 15, .ref 16, .ref 17, .ref 18, .ref 19, .int (nI (V 0 23)), .ref 20, .ref 21, .int (nI (V 0 26)), .int (nI (V 0 27)), .int (nI (V 0 28)), .int (zo (V 0 29)), .int (nI (V 0 30)), .int (nI (V 0 31))]),
  .inl (0, 2, .inl (fun j => nI (V 1 j))),
  .inl (0, 300, .inl (fun j => nI (V 2 j))),
  .inl (0, 2, .inl (fun j => nI (V 3 j))),
  .inl (0, 8, .inl (fun j => nI (V 4 j))),
  .inl (0, 8, .inl (fun j => nI (V 5 j))),
  .inl (0, 8, .inl (fun j => nI (V 6 j))),
  .inl (0, 8, .inl (fun j => nI (V 7 j))),
  .inl (0, 2, .inl (fun j => nI (V 8 j))),
  .inl (0, 2, .inl (fun j => nI (V 9 j))),
  .inl (0, 2, .inl (fun j => nI (V 10 j))),
  .inl (0, 8, .inl (fun j => nI (V 11 j))),
  .inl (1, 2, .inl (fun j => nI (V 12 j))),
  .inl (0, 8, .inl (fun j => nI (V 13 j))),
  .inl (0, 8, .inl (fun j => nI (V 14 j))),
  .inl (0, 2, .inl (fun j => nI (V 15 j))),
  .inl (0, 2, .inl (fun j => nI (V 16 j))),
  .inl (0, 2, .inl (fun j => nI (V 17 j))),
  .inl (0, 100, .inl (fun j => nI (V 18 j))),
  .inl (0, 100, .inl (fun j => nI (V 19 j))),
  .inl (1, 2500, .inl (fun j => nI (V 20 j))),
  .inl (0, 2500, .inl (fun j => nI (V 21 j)))]
theorem hM_o0_8 (V : Nat → Nat → Nat) (x : Nat) : (hM V).set 0 (.inr (5, ([.ref 1, .ref 2, .ref 3, .ref 4, .ref 5, .ref 6, .ref 7, .ref 8, .int (nI (V 0 8)), .int (zo (V 0 9)), .int (nI (V 0 10)), .int (nI (V 0 11)), .ref 9, .ref 10, .ref 11, .ref 12, .ref 13, .ref 14, .ref 15, .ref 16, .ref 17, .ref 18, .ref 19, .int (nI (V 0 23)), .ref 20, .ref 21, .int (nI (V 0 26)), .int (nI (V 0 27)), .int (nI (V 0 28)), .int (zo (V 0 29)), .int (nI (V 0 30)), .int (nI (V 0 31))] : List Value).set 8 (.int (nI x)))) = hM (vs V 0 8 x) := rfl
theorem hM_o0_9 (V : Nat → Nat → Nat) (x : Nat) : (hM V).set 0 (.inr (5, ([.ref 1, .ref 2, .ref 3, .ref 4, .ref 5, .ref 6, .ref 7, .ref 8, .int (nI (V 0 8)), .int (zo (V 0 9)), .int (nI (V 0 10)), .int (nI (V 0 11)), .ref 9, .ref 10, .ref 11, .ref 12, .ref 13, .ref 14, .ref 15, .ref 16, .ref 17, .ref 18, .ref 19, .int (nI (V 0 23)), .ref 20, .ref 21, .int (nI (V 0 26)), .int (nI (V 0 27)), .int (nI (V 0 28)), .int (zo (V 0 29)), .int (nI (V 0 30)), .int (nI (V 0 31))] : List Value).set 9 (.int (zo x)))) = hM (vs V 0 9 x) := rfl
theorem hM_o0_10 (V : Nat → Nat → Nat) (x : Nat) : (hM V).set 0 (.inr (5, ([.ref 1, .ref 2, .ref 3, .ref 4, .ref 5, .ref 6, .ref 7, .ref 8, .int (nI (V 0 8)), .int (zo (V 0 9)), .int (nI (V 0 10)), .int (nI (V 0 11)), .ref 9, .ref 10, .ref 11, .ref 12, .ref 13, .ref 14, .ref 15, .ref 16, .ref 17, .ref 18, .ref 19, .int (nI (V 0 23)), .ref 20, .ref 21, .int (nI (V 0 26)), .int (nI (V 0 27)), .int (nI (V 0 28)), .int (zo (V 0 29)), .int (nI (V 0 30)), .int (nI (V 0 31))] : List Value).set 10 (.int (nI x)))) = hM (vs V 0 10 x) := rfl
theorem hM_o0_11 (V : Nat → Nat → Nat) (x : Nat) : (hM V).set 0 (.inr (5, ([.ref 1, .ref 2, .ref 3, .ref 4, .ref 5, .ref 6, .ref 7, .ref 8, .int (nI (V 0 8)), .int (zo (V 0 9)), .int (nI (V 0 10)), .int (nI (V 0 11)), .ref 9, .ref 10, .ref 11, .ref 12, .ref 13, .ref 14, .ref 15, .ref 16, .ref 17, .ref 18, .ref 19, .int (nI (V 0 23)), .ref 20, .ref 21, .int (nI (V 0 26)), .int (nI (V 0 27)), .int (nI (V 0 28)), .int (zo (V 0 29)), .int (nI (V 0 30)), .int (nI (V 0 31))] : List Value).set 11 (.int (nI x)))) = hM (vs V 0 11 x) := rfl
theorem hM_o0_23 (V : Nat → Nat → Nat) (x : Nat) : (hM V).set 0 (.inr (5, ([.ref 1, .ref 2, .ref 3, .ref 4, .ref 5, .ref 6, .ref 7, .ref 8, .int (nI (V 0 8)), .int (zo (V 0 9)), .int (nI (V 0 10)), .int (nI (V 0 11)), .ref 9, .ref 10, .ref 11, .ref 12, .ref 13, .ref 14, .ref 15, .ref 16, .ref 17, .ref 18, .ref 19, .int (nI (V 0 23)), .ref 20, .ref 21, .int (nI (V 0 26)), .int (nI (V 0 27)), .int (nI (V 0 28)), .int (zo (V 0 29)), .int (nI (V 0 30)), .int (nI (V 0 31))] : List Value).set 23 (.int (nI x)))) = hM (vs V 0 23 x) := rfl
theorem hM_o0_26 (V : Nat → Nat → Nat) (x : Nat) : (hM V).set 0 (.inr (5, ([.ref 1, .ref 2, .ref 3, .ref 4, .ref 5, .ref 6, .ref 7, .ref 8, .int (nI (V 0 8)), .int (zo (V 0 9)), .int (nI (V 0 10)), .int (nI (V 0 11)), .ref 9, .ref 10, .ref 11, .ref 12, .ref 13, .ref 14, .ref 15, .ref 16, .ref 17, .ref 18, .ref 19, .int (nI (V 0 23)), .ref 20, .ref 21, .int (nI (V 0 26)), .int (nI (V 0 27)), .int (nI (V 0 28)), .int (zo (V 0 29)), .int (nI (V 0 30)), .int (nI (V 0 31))] : List Value).set 26 (.int (nI x)))) = hM (vs V 0 26 x) := rfl
theorem hM_o0_27 (V : Nat → Nat → Nat) (x : Nat) : (hM V).set 0 (.inr (5, ([.ref 1, .ref 2, .ref 3, .ref 4, .ref 5, .ref 6, .ref 7, .ref 8, .int (nI (V 0 8)), .int (zo (V 0 9)), .int (nI (V 0 10)), .int (nI (V 0 11)), .ref 9, .ref 10, .ref 11, .ref 12, .ref 13, .ref 14, .ref 15, .ref 16, .ref 17, .ref 18, .ref 19, .int (nI (V 0 23)), .ref 20, .ref 21, .int (nI (V 0 26)), .int (nI (V 0 27)), .int (nI (V 0 28)), .int (zo (V 0 29)), .int (nI (V 0 30)), .int (nI (V 0 31))] : List Value).set 27 (.int (nI x)))) = hM (vs V 0 27 x) := rfl
theorem hM_o0_28 (V : Nat → Nat → Nat) (x : Nat) : (hM V).set 0 (.inr (5, ([.ref 1, .ref 2, .ref 3, .ref 4, .ref 5, .ref 6, .ref 7, .ref 8, .int (nI (V 0 8)), .int (zo (V 0 9)), .int (nI (V 0 10)), .int (nI (V 0 11)), .ref 9, .ref 10, .ref 11, .ref 12, .ref 13, .ref 14, .ref 15, .ref 16, .ref 17, .ref 18, .ref 19, .int (nI (V 0 23)), .ref 20, .ref 21, .int (nI (V 0 26)), .int (nI (V 0 27)), .int (nI (V 0 28)), .int (zo (V 0 29)), .int (nI (V 0 30)), .int (nI (V 0 31))] : List Value).set 28 (.int (nI x)))) = hM (vs V 0 28 x) := rfl
theorem hM_o0_29 (V : Nat → Nat → Nat) (x : Nat) : (hM V).set 0 (.inr (5, ([.ref 1, .ref 2, .ref 3, .ref 4, .ref 5, .ref 6, .ref 7, .ref 8, .int (nI (V 0 8)), .int (zo (V 0 9)), .int (nI (V 0 10)), .int (nI (V 0 11)), .ref 9, .ref 10, .ref 11, .ref 12, .ref 13, .ref 14, .ref 15, .ref 16, .ref 17, .ref 18, .ref 19, .int (nI (V 0 23)), .ref 20, .ref 21, .int (nI (V 0 26)), .int (nI (V 0 27)), .int (nI (V 0 28)), .int (zo (V 0 29)), .int (nI (V 0 30)), .int (nI (V 0 31))] : List Value).set 29 (.int (zo x)))) = hM (vs V 0 29 x) := rfl
theorem hM_o0_30 (V : Nat → Nat → Nat) (x : Nat) : (hM V).set 0 (.inr (5, ([.ref 1, .ref 2, .ref 3, .ref 4, .ref 5, .ref 6, .ref 7, .ref 8, .int (nI (V 0 8)), .int (zo (V 0 9)), .int (nI (V 0 10)), .int (nI (V 0 11)), .ref 9, .ref 10, .ref 11, .ref 12, .ref 13, .ref 14, .ref 15, .ref 16, .ref 17, .ref 18, .ref 19, .int (nI (V 0 23)), .ref 20, .ref 21, .int (nI (V 0 26)), .int (nI (V 0 27)), .int (nI (V 0 28)), .int (zo (V 0 29)), .int (nI (V 0 30)), .int (nI (V 0 31))] : List Value).set 30 (.int (nI x)))) = hM (vs V 0 30 x) := rfl
theorem hM_o0_31 (V : Nat → Nat → Nat) (x : Nat) : (hM V).set 0 (.inr (5, ([.ref 1, .ref 2, .ref 3, .ref 4, .ref 5, .ref 6, .ref 7, .ref 8, .int (nI (V 0 8)), .int (zo (V 0 9)), .int (nI (V 0 10)), .int (nI (V 0 11)), .ref 9, .ref 10, .ref 11, .ref 12, .ref 13, .ref 14, .ref 15, .ref 16, .ref 17, .ref 18, .ref 19, .int (nI (V 0 23)), .ref 20, .ref 21, .int (nI (V 0 26)), .int (nI (V 0 27)), .int (nI (V 0 28)), .int (zo (V 0 29)), .int (nI (V 0 30)), .int (nI (V 0 31))] : List Value).set 31 (.int (nI x)))) = hM (vs V 0 31 x) := rfl
theorem hM_a1 (V : Nat → Nat → Nat) (i x : Nat) : (hM V).set 1 (.inl (0, 2, .inl (upd (fun j => nI (V 1 j)) i (nI x)))) = hM (vs V 1 i x) := by rw [upd_vs]; rfl
theorem hM_a2 (V : Nat → Nat → Nat) (i x : Nat) : (hM V).set 2 (.inl (0, 300, .inl (upd (fun j => nI (V 2 j)) i (nI x)))) = hM (vs V 2 i x) := by rw [upd_vs]; rfl
theorem hM_a3 (V : Nat → Nat → Nat) (i x : Nat) : (hM V).set 3 (.inl (0, 2, .inl (upd (fun j => nI (V 3 j)) i (nI x)))) = hM (vs V 3 i x) := by rw [upd_vs]; rfl
theorem hM_a4 (V : Nat → Nat → Nat) (i x : Nat) : (hM V).set 4 (.inl (0, 8, .inl (upd (fun j => nI (V 4 j)) i (nI x)))) = hM (vs V 4 i x) := by rw [upd_vs]; rfl
theorem hM_a5 (V : Nat → Nat → Nat) (i x : Nat) : (hM V).set 5 (.inl (0, 8, .inl (upd (fun j => nI (V 5 j)) i (nI x)))) = hM (vs V 5 i x) := by rw [upd_vs]; rfl
theorem hM_a6 (V : Nat → Nat → Nat) (i x : Nat) : (hM V).set 6 (.inl (0, 8, .inl (upd (fun j => nI (V 6 j)) i (nI x)))) = hM (vs V 6 i x) := by rw [upd_vs]; rfl
theorem hM_a7 (V : Nat → Nat → Nat) (i x : Nat) : (hM V).set 7 (.inl (0, 8, .inl (upd (fun j => nI (V 7 j)) i (nI x)))) = hM (vs V 7 i x) := by rw [upd_vs]; rfl
theorem hM_a8 (V : Nat → Nat → Nat) (i x : Nat) : (hM V).set 8 (.inl (0, 2, .inl (upd (fun j => nI (V 8 j)) i (nI x)))) = hM (vs V 8 i x) := by rw [upd_vs]; rfl
theorem hM_a9 (V : Nat → Nat → Nat) (i x : Nat) : (hM V).set 9 (.inl (0, 2, .inl (upd (fun j => nI (V 9 j)) i (nI x)))) = hM (vs V 9 i x) := by rw [upd_vs]; rfl
theorem hM_a10 (V : Nat → Nat → Nat) (i x : Nat) : (hM V).set 10 (.inl (0, 2, .inl (upd (fun j => nI (V 10 j)) i (nI x)))) = hM (vs V 10 i x) := by rw [upd_vs]; rfl
theorem hM_a11 (V : Nat → Nat → Nat) (i x : Nat) : (hM V).set 11 (.inl (0, 8, .inl (upd (fun j => nI (V 11 j)) i (nI x)))) = hM (vs V 11 i x) := by rw [upd_vs]; rfl
theorem hM_a12 (V : Nat → Nat → Nat) (i x : Nat) : (hM V).set 12 (.inl (1, 2, .inl (upd (fun j => nI (V 12 j)) i (nI x)))) = hM (vs V 12 i x) := by rw [upd_vs]; rfl
theorem hM_a13 (V : Nat → Nat → Nat) (i x : Nat) : (hM V).set 13 (.inl (0, 8, .inl (upd (fun j => nI (V 13 j)) i (nI x)))) = hM (vs V 13 i x) := by rw [upd_vs]; rfl
theorem hM_a14 (V : Nat → Nat → Nat) (i x : Nat) : (hM V).set 14 (.inl (0, 8, .inl (upd (fun j => nI (V 14 j)) i (nI x)))) = hM (vs V 14 i x) := by rw [upd_vs]; rfl
theorem hM_a15 (V : Nat → Nat → Nat) (i x : Nat) : (hM V).set 15 (.inl (0, 2, .inl (upd (fun j => nI (V 15 j)) i (nI x)))) = hM (vs V 15 i x) := by rw [upd_vs]; rfl
theorem hM_a16 (V : Nat → Nat → Nat) (i x : Nat) : (hM V).set 16 (.inl (0, 2, .inl (upd (fun j => nI (V 16 j)) i (nI x)))) = hM (vs V 16 i x) := by rw [upd_vs]; rfl
theorem hM_a17 (V : Nat → Nat → Nat) (i x : Nat) : (hM V).set 17 (.inl (0, 2, .inl (upd (fun j => nI (V 17 j)) i (nI x)))) = hM (vs V 17 i x) := by rw [upd_vs]; rfl
theorem hM_a18 (V : Nat → Nat → Nat) (i x : Nat) : (hM V).set 18 (.inl (0, 100, .inl (upd (fun j => nI (V 18 j)) i (nI x)))) = hM (vs V 18 i x) := by rw [upd_vs]; rfl
theorem hM_a19 (V : Nat → Nat → Nat) (i x : Nat) : (hM V).set 19 (.inl (0, 100, .inl (upd (fun j => nI (V 19 j)) i (nI x)))) = hM (vs V 19 i x) := by rw [upd_vs]; rfl
theorem hM_a20 (V : Nat → Nat → Nat) (i x : Nat) : (hM V).set 20 (.inl (1, 2500, .inl (upd (fun j => nI (V 20 j)) i (nI x)))) = hM (vs V 20 i x) := by rw [upd_vs]; rfl
theorem hM_a21 (V : Nat → Nat → Nat) (i x : Nat) : (hM V).set 21 (.inl (0, 2500, .inl (upd (fun j => nI (V 21 j)) i (nI x)))) = hM (vs V 21 i x) := by rw [upd_vs]; rfl
def hX (U : Nat → Nat → Nat) : zh := [
  .inr (4, [.ref 1, .ref 2, .ref 3, .ref 4, .ref 5, .ref 6, .int (nI (U 0 6)), .int (zo (U 0 7)), .int (zo (U 0 8)), .int (nI (U 0 9)), .int (nI (U 0 10)), .int (nI (U 0 11)), .int (nI (U 0 12)), .int (nI (U 0 13))]),
  .inl (2, 2, .inr (.inr (.inr (.inr (fun j => if j = 0 then some 7 else if j = 1 then some 13 else none))))),
  .inl (3, 2, .inr (.inr (.inr (.inr (fun j => if j = 0 then some 19 else if j = 1 then some 27 else none))))),
  .inl (0, 2, .inl (fun j => nI (U 3 j))),
  .inr (0, [.ref 35, .int (nI (U 4 1)), .int (nI (U 4 2)), .int (nI (U 4 3))]),
  .inr (1, [.ref 36, .ref 37, .int (nI (U 5 2))]),
  .inl (0, 100, .inl (fun j => nI (U 6 j))),
  .inr (3, [.ref 8, .ref 9, .ref 10, .ref 11, .ref 12, .int (nI (U 7 5)), .int (nI (U 7 6))]),
  .inl (0, 150, .inl (fun j => nI (U 8 j))),
  .inl (0, 4, .inl (fun j => nI (U 9 j))),
  .inl (0, 4, .inl (fun j => nI (U 10 j))),
  .inl (0, 4, .inl (fun j => nI (U 11 j))),
  .inl (0, 4, .inl (fun j => nI (U 12 j))),
  .inr (3, [.ref 14, .ref 15, .ref 16, .ref 17, .ref 18, .int (nI (U 13 5)), .int (nI (U 13 6))]),
  .inl (0, 150, .inl (fun j => nI (U 14 j))),
  .inl (0, 4, .inl (fun j => nI (U 15 j))),
  .inl (0, 4, .inl (fun j => nI (U 16 j))),
  .inl (0, 4, .inl (fun j => nI (U 17 j))),
  .inl (0, 4, .inl (fun j => nI (U 18 j))),
  .inr (2, [.ref 7, .ref 20, .ref 21, .ref 22, .ref 23, .ref 24, .ref 25, .ref 26, .int (nI (U 19 8)), .int (nI (U 19 9)), .int (nI (U 19 10)), .int (nI (U 19 11)), .int (nI (U 19 12))]),
  .inl (0, 50, .inl (fun j => nI (U 20 j))),
  .inl (0, 4, .inl (fun j => nI (U 21 j))),
  .inl (0, 4, .inl (fun j => nI (U 22 j))),
  .inl (0, 4, .inl (fun j => nI (U 23 j))),
  .inl (0, 4, .inl (fun j => nI (U 24 j))),
  .inl (0, 50, .inl (fun j => nI (U 25 j))),
  .inl (0, 16, .inl (fun j => nI (U 26 j))),
  .inr (2, [.ref 13, .ref 28, .ref 29, .ref 30, .ref 31, .ref 32, .ref 33, .ref 34, .int (nI (U 27 8)), .int (nI (U 27 9)), .int (nI (U 27 10)), .int (nI (U 27 11)), .int (nI (U 27 12))]),
  .inl (0, 50, .inl (fun j => nI (U 28 j))),
  .inl (0, 4, .inl (fun j => nI (U 29 j))),
  .inl (0, 4, .inl (fun j => nI (U 30 j))),
  .inl (0, 4, .inl (fun j => nI (U 31 j))),
  .inl (0, 4, .inl (fun j => nI (U 32 j))),
  .inl (0, 50, .inl (fun j => nI (U 33 j))),
  .inl (0, 16, .inl (fun j => nI (U 34 j))),
  .inl (0, 100, .inl (fun j => nI (U 35 j))),
  .inl (0, 2500, .inl (fun j => nI (U 36 j))),
  .inl (1, 2500, .inl (fun j => nI (U 37 j)))]
theorem hX_o0_6 (U : Nat → Nat → Nat) (x : Nat) : (hX U).set 0 (.inr (4, ([.ref 1, .ref 2, .ref 3, .ref 4, .ref 5, .ref 6, .int (nI (U 0 6)), .int (zo (U 0 7)), .int (zo (U 0 8)), .int (nI (U 0 9)), .int (nI (U 0 10)), .int (nI (U 0 11)), .int (nI (U 0 12)), .int (nI (U 0 13))] : List Value).set 6 (.int (nI x)))) = hX (vs U 0 6 x) := rfl
theorem hX_o0_7 (U : Nat → Nat → Nat) (x : Nat) : (hX U).set 0 (.inr (4, ([.ref 1, .ref 2, .ref 3, .ref 4, .ref 5, .ref 6, .int (nI (U 0 6)), .int (zo (U 0 7)), .int (zo (U 0 8)), .int (nI (U 0 9)), .int (nI (U 0 10)), .int (nI (U 0 11)), .int (nI (U 0 12)), .int (nI (U 0 13))] : List Value).set 7 (.int (zo x)))) = hX (vs U 0 7 x) := rfl
theorem hX_o0_8 (U : Nat → Nat → Nat) (x : Nat) : (hX U).set 0 (.inr (4, ([.ref 1, .ref 2, .ref 3, .ref 4, .ref 5, .ref 6, .int (nI (U 0 6)), .int (zo (U 0 7)), .int (zo (U 0 8)), .int (nI (U 0 9)), .int (nI (U 0 10)), .int (nI (U 0 11)), .int (nI (U 0 12)), .int (nI (U 0 13))] : List Value).set 8 (.int (zo x)))) = hX (vs U 0 8 x) := rfl
theorem hX_o0_9 (U : Nat → Nat → Nat) (x : Nat) : (hX U).set 0 (.inr (4, ([.ref 1, .ref 2, .ref 3, .ref 4, .ref 5, .ref 6, .int (nI (U 0 6)), .int (zo (U 0 7)), .int (zo (U 0 8)), .int (nI (U 0 9)), .int (nI (U 0 10)), .int (nI (U 0 11)), .int (nI (U 0 12)), .int (nI (U 0 13))] : List Value).set 9 (.int (nI x)))) = hX (vs U 0 9 x) := rfl
theorem hX_o0_10 (U : Nat → Nat → Nat) (x : Nat) : (hX U).set 0 (.inr (4, ([.ref 1, .ref 2, .ref 3, .ref 4, .ref 5, .ref 6, .int (nI (U 0 6)), .int (zo (U 0 7)), .int (zo (U 0 8)), .int (nI (U 0 9)), .int (nI (U 0 10)), .int (nI (U 0 11)), .int (nI (U 0 12)), .int (nI (U 0 13))] : List Value).set 10 (.int (nI x)))) = hX (vs U 0 10 x) := rfl
theorem hX_o0_11 (U : Nat → Nat → Nat) (x : Nat) : (hX U).set 0 (.inr (4, ([.ref 1, .ref 2, .ref 3, .ref 4, .ref 5, .ref 6, .int (nI (U 0 6)), .int (zo (U 0 7)), .int (zo (U 0 8)), .int (nI (U 0 9)), .int (nI (U 0 10)), .int (nI (U 0 11)), .int (nI (U 0 12)), .int (nI (U 0 13))] : List Value).set 11 (.int (nI x)))) = hX (vs U 0 11 x) := rfl
theorem hX_o0_12 (U : Nat → Nat → Nat) (x : Nat) : (hX U).set 0 (.inr (4, ([.ref 1, .ref 2, .ref 3, .ref 4, .ref 5, .ref 6, .int (nI (U 0 6)), .int (zo (U 0 7)), .int (zo (U 0 8)), .int (nI (U 0 9)), .int (nI (U 0 10)), .int (nI (U 0 11)), .int (nI (U 0 12)), .int (nI (U 0 13))] : List Value).set 12 (.int (nI x)))) = hX (vs U 0 12 x) := rfl
theorem hX_o0_13 (U : Nat → Nat → Nat) (x : Nat) : (hX U).set 0 (.inr (4, ([.ref 1, .ref 2, .ref 3, .ref 4, .ref 5, .ref 6, .int (nI (U 0 6)), .int (zo (U 0 7)), .int (zo (U 0 8)), .int (nI (U 0 9)), .int (nI (U 0 10)), .int (nI (U 0 11)), .int (nI (U 0 12)), .int (nI (U 0 13))] : List Value).set 13 (.int (nI x)))) = hX (vs U 0 13 x) := rfl
theorem hX_a3 (U : Nat → Nat → Nat) (i x : Nat) : (hX U).set 3 (.inl (0, 2, .inl (upd (fun j => nI (U 3 j)) i (nI x)))) = hX (vs U 3 i x) := by rw [upd_vs]; rfl
theorem hX_o4_1 (U : Nat → Nat → Nat) (x : Nat) : (hX U).set 4 (.inr (0, ([.ref 35, .int (nI (U 4 1)), .int (nI (U 4 2)), .int (nI (U 4 3))] : List Value).set 1 (.int (nI x)))) = hX (vs U 4 1 x) := rfl
theorem hX_o4_2 (U : Nat → Nat → Nat) (x : Nat) : (hX U).set 4 (.inr (0, ([.ref 35, .int (nI (U 4 1)), .int (nI (U 4 2)), .int (nI (U 4 3))] : List Value).set 2 (.int (nI x)))) = hX (vs U 4 2 x) := rfl
theorem hX_o4_3 (U : Nat → Nat → Nat) (x : Nat) : (hX U).set 4 (.inr (0, ([.ref 35, .int (nI (U 4 1)), .int (nI (U 4 2)), .int (nI (U 4 3))] : List Value).set 3 (.int (nI x)))) = hX (vs U 4 3 x) := rfl
theorem hX_o5_2 (U : Nat → Nat → Nat) (x : Nat) : (hX U).set 5 (.inr (1, ([.ref 36, .ref 37, .int (nI (U 5 2))] : List Value).set 2 (.int (nI x)))) = hX (vs U 5 2 x) := rfl
theorem hX_a6 (U : Nat → Nat → Nat) (i x : Nat) : (hX U).set 6 (.inl (0, 100, .inl (upd (fun j => nI (U 6 j)) i (nI x)))) = hX (vs U 6 i x) := by rw [upd_vs]; rfl
theorem hX_o7_5 (U : Nat → Nat → Nat) (x : Nat) : (hX U).set 7 (.inr (3, ([.ref 8, .ref 9, .ref 10, .ref 11, .ref 12, .int (nI (U 7 5)), .int (nI (U 7 6))] : List Value).set 5 (.int (nI x)))) = hX (vs U 7 5 x) := rfl
theorem hX_o7_6 (U : Nat → Nat → Nat) (x : Nat) : (hX U).set 7 (.inr (3, ([.ref 8, .ref 9, .ref 10, .ref 11, .ref 12, .int (nI (U 7 5)), .int (nI (U 7 6))] : List Value).set 6 (.int (nI x)))) = hX (vs U 7 6 x) := rfl
theorem hX_a8 (U : Nat → Nat → Nat) (i x : Nat) : (hX U).set 8 (.inl (0, 150, .inl (upd (fun j => nI (U 8 j)) i (nI x)))) = hX (vs U 8 i x) := by rw [upd_vs]; rfl
theorem hX_a9 (U : Nat → Nat → Nat) (i x : Nat) : (hX U).set 9 (.inl (0, 4, .inl (upd (fun j => nI (U 9 j)) i (nI x)))) = hX (vs U 9 i x) := by rw [upd_vs]; rfl
theorem hX_a10 (U : Nat → Nat → Nat) (i x : Nat) : (hX U).set 10 (.inl (0, 4, .inl (upd (fun j => nI (U 10 j)) i (nI x)))) = hX (vs U 10 i x) := by rw [upd_vs]; rfl
theorem hX_a11 (U : Nat → Nat → Nat) (i x : Nat) : (hX U).set 11 (.inl (0, 4, .inl (upd (fun j => nI (U 11 j)) i (nI x)))) = hX (vs U 11 i x) := by rw [upd_vs]; rfl
theorem hX_a12 (U : Nat → Nat → Nat) (i x : Nat) : (hX U).set 12 (.inl (0, 4, .inl (upd (fun j => nI (U 12 j)) i (nI x)))) = hX (vs U 12 i x) := by rw [upd_vs]; rfl
theorem hX_o13_5 (U : Nat → Nat → Nat) (x : Nat) : (hX U).set 13 (.inr (3, ([.ref 14, .ref 15, .ref 16, .ref 17, .ref 18, .int (nI (U 13 5)), .int (nI (U 13 6))] : List Value).set 5 (.int (nI x)))) = hX (vs U 13 5 x) := rfl
theorem hX_o13_6 (U : Nat → Nat → Nat) (x : Nat) : (hX U).set 13 (.inr (3, ([.ref 14, .ref 15, .ref 16, .ref 17, .ref 18, .int (nI (U 13 5)), .int (nI (U 13 6))] : List Value).set 6 (.int (nI x)))) = hX (vs U 13 6 x) := rfl
theorem hX_a14 (U : Nat → Nat → Nat) (i x : Nat) : (hX U).set 14 (.inl (0, 150, .inl (upd (fun j => nI (U 14 j)) i (nI x)))) = hX (vs U 14 i x) := by rw [upd_vs]; rfl
theorem hX_a15 (U : Nat → Nat → Nat) (i x : Nat) : (hX U).set 15 (.inl (0, 4, .inl (upd (fun j => nI (U 15 j)) i (nI x)))) = hX (vs U 15 i x) := by rw [upd_vs]; rfl
theorem hX_a16 (U : Nat → Nat → Nat) (i x : Nat) : (hX U).set 16 (.inl (0, 4, .inl (upd (fun j => nI (U 16 j)) i (nI x)))) = hX (vs U 16 i x) := by rw [upd_vs]; rfl
theorem hX_a17 (U : Nat → Nat → Nat) (i x : Nat) : (hX U).set 17 (.inl (0, 4, .inl (upd (fun j => nI (U 17 j)) i (nI x)))) = hX (vs U 17 i x) := by rw [upd_vs]; rfl
theorem hX_a18 (U : Nat → Nat → Nat) (i x : Nat) : (hX U).set 18 (.inl (0, 4, .inl (upd (fun j => nI (U 18 j)) i (nI x)))) = hX (vs U 18 i x) := by rw [upd_vs]; rfl
theorem hX_o19_8 (U : Nat → Nat → Nat) (x : Nat) : (hX U).set 19 (.inr (2, ([.ref 7, .ref 20, .ref 21, .ref 22, .ref 23, .ref 24, .ref 25, .ref 26, .int (nI (U 19 8)), .int (nI (U 19 9)), .int (nI (U 19 10)), .int (nI (U 19 11)), .int (nI (U 19 12))] : List Value).set 8 (.int (nI x)))) = hX (vs U 19 8 x) := rfl
theorem hX_o19_9 (U : Nat → Nat → Nat) (x : Nat) : (hX U).set 19 (.inr (2, ([.ref 7, .ref 20, .ref 21, .ref 22, .ref 23, .ref 24, .ref 25, .ref 26, .int (nI (U 19 8)), .int (nI (U 19 9)), .int (nI (U 19 10)), .int (nI (U 19 11)), .int (nI (U 19 12))] : List Value).set 9 (.int (nI x)))) = hX (vs U 19 9 x) := rfl
theorem hX_o19_10 (U : Nat → Nat → Nat) (x : Nat) : (hX U).set 19 (.inr (2, ([.ref 7, .ref 20, .ref 21, .ref 22, .ref 23, .ref 24, .ref 25, .ref 26, .int (nI (U 19 8)), .int (nI (U 19 9)), .int (nI (U 19 10)), .int (nI (U 19 11)), .int (nI (U 19 12))] : List Value).set 10 (.int (nI x)))) = hX (vs U 19 10 x) := rfl
theorem hX_o19_11 (U : Nat → Nat → Nat) (x : Nat) : (hX U).set 19 (.inr (2, ([.ref 7, .ref 20, .ref 21, .ref 22, .ref 23, .ref 24, .ref 25, .ref 26, .int (nI (U 19 8)), .int (nI (U 19 9)), .int (nI (U 19 10)), .int (nI (U 19 11)), .int (nI (U 19 12))] : List Value).set 11 (.int (nI x)))) = hX (vs U 19 11 x) := rfl
theorem hX_o19_12 (U : Nat → Nat → Nat) (x : Nat) : (hX U).set 19 (.inr (2, ([.ref 7, .ref 20, .ref 21, .ref 22, .ref 23, .ref 24, .ref 25, .ref 26, .int (nI (U 19 8)), .int (nI (U 19 9)), .int (nI (U 19 10)), .int (nI (U 19 11)), .int (nI (U 19 12))] : List Value).set 12 (.int (nI x)))) = hX (vs U 19 12 x) := rfl
theorem hX_a20 (U : Nat → Nat → Nat) (i x : Nat) : (hX U).set 20 (.inl (0, 50, .inl (upd (fun j => nI (U 20 j)) i (nI x)))) = hX (vs U 20 i x) := by rw [upd_vs]; rfl
theorem hX_a21 (U : Nat → Nat → Nat) (i x : Nat) : (hX U).set 21 (.inl (0, 4, .inl (upd (fun j => nI (U 21 j)) i (nI x)))) = hX (vs U 21 i x) := by rw [upd_vs]; rfl
theorem hX_a22 (U : Nat → Nat → Nat) (i x : Nat) : (hX U).set 22 (.inl (0, 4, .inl (upd (fun j => nI (U 22 j)) i (nI x)))) = hX (vs U 22 i x) := by rw [upd_vs]; rfl
theorem hX_a23 (U : Nat → Nat → Nat) (i x : Nat) : (hX U).set 23 (.inl (0, 4, .inl (upd (fun j => nI (U 23 j)) i (nI x)))) = hX (vs U 23 i x) := by rw [upd_vs]; rfl
theorem hX_a24 (U : Nat → Nat → Nat) (i x : Nat) : (hX U).set 24 (.inl (0, 4, .inl (upd (fun j => nI (U 24 j)) i (nI x)))) = hX (vs U 24 i x) := by rw [upd_vs]; rfl
theorem hX_a25 (U : Nat → Nat → Nat) (i x : Nat) : (hX U).set 25 (.inl (0, 50, .inl (upd (fun j => nI (U 25 j)) i (nI x)))) = hX (vs U 25 i x) := by rw [upd_vs]; rfl
theorem hX_a26 (U : Nat → Nat → Nat) (i x : Nat) : (hX U).set 26 (.inl (0, 16, .inl (upd (fun j => nI (U 26 j)) i (nI x)))) = hX (vs U 26 i x) := by rw [upd_vs]; rfl
theorem hX_o27_8 (U : Nat → Nat → Nat) (x : Nat) : (hX U).set 27 (.inr (2, ([.ref 13, .ref 28, .ref 29, .ref 30, .ref 31, .ref 32, .ref 33, .ref 34, .int (nI (U 27 8)), .int (nI (U 27 9)), .int (nI (U 27 10)), .int (nI (U 27 11)), .int (nI (U 27 12))] : List Value).set 8 (.int (nI x)))) = hX (vs U 27 8 x) := rfl
theorem hX_o27_9 (U : Nat → Nat → Nat) (x : Nat) : (hX U).set 27 (.inr (2, ([.ref 13, .ref 28, .ref 29, .ref 30, .ref 31, .ref 32, .ref 33, .ref 34, .int (nI (U 27 8)), .int (nI (U 27 9)), .int (nI (U 27 10)), .int (nI (U 27 11)), .int (nI (U 27 12))] : List Value).set 9 (.int (nI x)))) = hX (vs U 27 9 x) := rfl
theorem hX_o27_10 (U : Nat → Nat → Nat) (x : Nat) : (hX U).set 27 (.inr (2, ([.ref 13, .ref 28, .ref 29, .ref 30, .ref 31, .ref 32, .ref 33, .ref 34, .int (nI (U 27 8)), .int (nI (U 27 9)), .int (nI (U 27 10)), .int (nI (U 27 11)), .int (nI (U 27 12))] : List Value).set 10 (.int (nI x)))) = hX (vs U 27 10 x) := rfl
theorem hX_o27_11 (U : Nat → Nat → Nat) (x : Nat) : (hX U).set 27 (.inr (2, ([.ref 13, .ref 28, .ref 29, .ref 30, .ref 31, .ref 32, .ref 33, .ref 34, .int (nI (U 27 8)), .int (nI (U 27 9)), .int (nI (U 27 10)), .int (nI (U 27 11)), .int (nI (U 27 12))] : List Value).set 11 (.int (nI x)))) = hX (vs U 27 11 x) := rfl
theorem hX_o27_12 (U : Nat → Nat → Nat) (x : Nat) : (hX U).set 27 (.inr (2, ([.ref 13, .ref 28, .ref 29, .ref 30, .ref 31, .ref 32, .ref 33, .ref 34, .int (nI (U 27 8)), .int (nI (U 27 9)), .int (nI (U 27 10)), .int (nI (U 27 11)), .int (nI (U 27 12))] : List Value).set 12 (.int (nI x)))) = hX (vs U 27 12 x) := rfl
theorem hX_a28 (U : Nat → Nat → Nat) (i x : Nat) : (hX U).set 28 (.inl (0, 50, .inl (upd (fun j => nI (U 28 j)) i (nI x)))) = hX (vs U 28 i x) := by rw [upd_vs]; rfl
theorem hX_a29 (U : Nat → Nat → Nat) (i x : Nat) : (hX U).set 29 (.inl (0, 4, .inl (upd (fun j => nI (U 29 j)) i (nI x)))) = hX (vs U 29 i x) := by rw [upd_vs]; rfl
theorem hX_a30 (U : Nat → Nat → Nat) (i x : Nat) : (hX U).set 30 (.inl (0, 4, .inl (upd (fun j => nI (U 30 j)) i (nI x)))) = hX (vs U 30 i x) := by rw [upd_vs]; rfl
theorem hX_a31 (U : Nat → Nat → Nat) (i x : Nat) : (hX U).set 31 (.inl (0, 4, .inl (upd (fun j => nI (U 31 j)) i (nI x)))) = hX (vs U 31 i x) := by rw [upd_vs]; rfl
theorem hX_a32 (U : Nat → Nat → Nat) (i x : Nat) : (hX U).set 32 (.inl (0, 4, .inl (upd (fun j => nI (U 32 j)) i (nI x)))) = hX (vs U 32 i x) := by rw [upd_vs]; rfl
theorem hX_a33 (U : Nat → Nat → Nat) (i x : Nat) : (hX U).set 33 (.inl (0, 50, .inl (upd (fun j => nI (U 33 j)) i (nI x)))) = hX (vs U 33 i x) := by rw [upd_vs]; rfl
theorem hX_a34 (U : Nat → Nat → Nat) (i x : Nat) : (hX U).set 34 (.inl (0, 16, .inl (upd (fun j => nI (U 34 j)) i (nI x)))) = hX (vs U 34 i x) := by rw [upd_vs]; rfl
theorem hX_a35 (U : Nat → Nat → Nat) (i x : Nat) : (hX U).set 35 (.inl (0, 100, .inl (upd (fun j => nI (U 35 j)) i (nI x)))) = hX (vs U 35 i x) := by rw [upd_vs]; rfl
theorem hX_a36 (U : Nat → Nat → Nat) (i x : Nat) : (hX U).set 36 (.inl (0, 2500, .inl (upd (fun j => nI (U 36 j)) i (nI x)))) = hX (vs U 36 i x) := by rw [upd_vs]; rfl
theorem hX_a37 (U : Nat → Nat → Nat) (i x : Nat) : (hX U).set 37 (.inl (1, 2500, .inl (upd (fun j => nI (U 37 j)) i (nI x)))) = hX (vs U 37 i x) := by rw [upd_vs]; rfl
end
section
/-- a boolean answer that says P -/
def zbo (P : Prop) (r : Option Value) : Prop := ∃ b : Bool, r = some (.int (nI (zb b))) ∧ (b = true ↔ P)
theorem zbo_t {P : Prop} (h : P) : zbo P (some (.int (nI 1))) := ⟨true, rfl, ⟨fun _ => h, fun _ => rfl⟩⟩
theorem zbo_f {P : Prop} (h : ¬ P) : zbo P (some (.int (nI 0))) := ⟨false, rfl, ⟨fun q => Bool.noConfusion q, fun q => absurd q h⟩⟩
theorem zby {P : Prop} {b : Bool} (hb : b = true ↔ P) (h : zb b ≠ 0) : P := hb.mp (zb_1 h)
theorem zbn {P : Prop} {b : Bool} (hb : b = true ↔ P) (h : zb b = 0) : ¬ P := fun q => by rw [zb_0 h] at hb; exact absurd (hb.mpr q) (by decide)
abbrev zS : Type := Nat → Nat → Nat
/-- all numbers of a picture are small -/
def BV (V : zS) : Prop := ∀ k j, V k j < 2 ^ 20
theorem BV.l {V : zS} (h : BV V) (k j : Nat) : V k j < 2 ^ 31 := Nat.lt_trans (h k j) (by decide)

theorem zi_01 (t : Int32) : (nI 0 ≤ t ∧ t ≤ nI 1) ↔ (t = 0 ∨ t = 1) := by
  have e0 : nI 0 = 0 := by decide
  have e1 : nI 1 = 1 := by decide
  rw [e0, e1, Int32.le_iff_toInt_le, Int32.le_iff_toInt_le]
  have h0 : (0 : Int32).toInt = 0 := by decide
  have h1 : (1 : Int32).toInt = 1 := by decide
  constructor
  · intro h
    rcases (show t.toInt = 0 ∨ t.toInt = 1 by omega) with q | q
    · exact Or.inl (Int32.toInt_inj.mp (by omega))
    · exact Or.inr (Int32.toInt_inj.mp (by omega))
  · rintro (rfl | rfl) <;> constructor <;> decide

set_option maxRecDepth 100000 in
set_option maxHeartbeats 4000000 in
theorem m_in (h : zh) (v lo hi : Int32) : PM mX5_in [.int v, .int lo, .int hi] h (fun zr zq => zbo (lo ≤ v ∧ v ≤ hi) zr ∧ zq = h) := by
  refine PM.of (by decide +kernel) (by simp [Value.category]) (Nat.le_of_ble_eq_true rfl) ?_
  refine Wp.iload_n (pc2 := 1) dX5_in_0 rfl rfl ?_
  refine Wp.iload_n (pc2 := 2) dX5_in_1 rfl rfl ?_
  refine Wp.icmp_lt (pc2 := 5) 14 dX5_in_2 rfl (by decide)  (fun c2 => ?_) (fun c2 => ?_)
  · refine Wp.iconN (pc2 := 15) 0 dX5_in_14 rfl ?_
    refine Wp.ret dX5_in_15 rfl (by first | exact zb_nar true | exact zb_nar false) ?_
    first
      | exact ⟨zbo_t ⟨Int32.not_lt.mp c2, Int32.not_lt.mp c7⟩, rfl⟩
      | exact ⟨zbo_f (fun q => absurd q.2 (Int32.not_le.mpr c7)), rfl⟩
      | exact ⟨zbo_f (fun q => absurd q.1 (Int32.not_le.mpr c2)), rfl⟩
  · refine Wp.iload_n (pc2 := 6) dX5_in_5 rfl rfl ?_
    refine Wp.iload_n (pc2 := 7) dX5_in_6 rfl rfl ?_
    refine Wp.icmp_gt (pc2 := 10) 14 dX5_in_7 rfl (by decide)  (fun c7 => ?_) (fun c7 => ?_)
    · refine Wp.iconN (pc2 := 15) 0 dX5_in_14 rfl ?_
      refine Wp.ret dX5_in_15 rfl (by first | exact zb_nar true | exact zb_nar false) ?_
      first
        | exact ⟨zbo_t ⟨Int32.not_lt.mp c2, Int32.not_lt.mp c7⟩, rfl⟩
        | exact ⟨zbo_f (fun q => absurd q.2 (Int32.not_le.mpr c7)), rfl⟩
        | exact ⟨zbo_f (fun q => absurd q.1 (Int32.not_le.mpr c2)), rfl⟩
    · refine Wp.iconN (pc2 := 11) 1 dX5_in_10 rfl ?_
      refine Wp.goto (pc2 := 15) dX5_in_11 (by decide) ?_
      refine Wp.ret dX5_in_15 rfl (by first | exact zb_nar true | exact zb_nar false) ?_
      first
        | exact ⟨zbo_t ⟨Int32.not_lt.mp c2, Int32.not_lt.mp c7⟩, rfl⟩
        | exact ⟨zbo_f (fun q => absurd q.2 (Int32.not_le.mpr c7)), rfl⟩
        | exact ⟨zbo_f (fun q => absurd q.1 (Int32.not_le.mpr c2)), rfl⟩

set_option maxRecDepth 100000 in
set_option maxHeartbeats 4000000 in
theorem m_isTable (h : zh) (t : Int32) : PM mX5_isTable [.int t] h (fun zr zq => zbo (t = 0 ∨ t = 1) zr ∧ zq = h) := by
  refine PM.of (by decide +kernel) (by simp [Value.category]) (Nat.le_of_ble_eq_true rfl) ?_
  refine Wp.iload_n (pc2 := 1) dX5_isTable_0 rfl rfl ?_
  refine Wp.iconN (pc2 := 2) 0 dX5_isTable_1 rfl ?_
  refine Wp.iconN (pc2 := 3) 1 dX5_isTable_2 rfl ?_
  refine Wp.callS (pc2 := 6) kX5_isTable_81 sX5_in (m_in h t (nI 0) (nI 1)) dX5_isTable_3 rfl rfl rfl (Nat.le_of_ble_eq_true rfl) ?_
  rintro _ _ ⟨⟨b, rfl, hb⟩, rfl⟩
  refine Wp.ret dX5_isTable_6 rfl (zb_nar b) ?_
  refine ⟨⟨b, rfl, hb.trans ?_⟩, rfl⟩
  rw [zi_01]

set_option maxRecDepth 100000 in
set_option maxHeartbeats 4000000 in
theorem m_cell (V : zS) (t r c : Nat) (hi : 3 * (50 * t + r) + c < 300) : PM mX5_cell [.ref 0, .int (nI t), .int (nI r), .int (nI c)] (hM V) (fun zr zq => zr = some (.int (nI (V 2 (3 * (50 * t + r) + c)))) ∧ zq = hM V) := by
  refine PM.of (by decide +kernel) (by simp [Value.category]) (Nat.le_of_ble_eq_true rfl) ?_
  refine Wp.aload_n (pc2 := 1) dX5_cell_0 rfl rfl ?_
  refine Wp.getf (pc2 := 4) fX5_13 dX5_cell_1 rfl rfl rfl ?_
  refine Wp.iconN (pc2 := 5) 3 dX5_cell_4 rfl ?_
  refine Wp.bipN (pc2 := 7) 50 dX5_cell_5 rfl (by decide +kernel) ?_
  refine Wp.iload_n (pc2 := 8) dX5_cell_7 rfl rfl ?_
  refine Wp.imulN (pc2 := 9) dX5_cell_8 rfl  ?_
  refine Wp.iload_n (pc2 := 10) dX5_cell_9 rfl rfl ?_
  refine Wp.iaddN (pc2 := 11) dX5_cell_10 rfl  ?_
  refine Wp.imulN (pc2 := 12) dX5_cell_11 rfl  ?_
  refine Wp.iload_n (pc2 := 13) dX5_cell_12 rfl rfl ?_
  refine Wp.iaddN (pc2 := 14) dX5_cell_13 rfl  ?_
  refine Wp.ialdN (pc2 := 15) dX5_cell_14 rfl rfl (by omega) (by decide) ?_
  refine Wp.ret dX5_cell_15 rfl rfl ?_
  exact ⟨rfl, rfl⟩

/-- two rows are alike in the join -/
def alike (V : zS) (a b : Nat) : Prop := V 2 (3 * (50 * 0 + a) + V 8 0) = V 2 (3 * (50 * 1 + b) + V 8 1)

set_option maxRecDepth 100000 in
set_option maxHeartbeats 4000000 in
theorem m_isAlike (V : zS) (a b : Nat) (hV : BV V) (ha : a < 50) (hb : b < 50) (h0 : V 8 0 < 3) (h1 : V 8 1 < 3) : PM mX5_isAlike [.ref 0, .int (nI a), .int (nI b)] (hM V) (fun zr zq => zbo (alike V a b) zr ∧ zq = hM V) := by
  refine PM.of (by decide +kernel) (by simp [Value.category]) (Nat.le_of_ble_eq_true rfl) ?_
  refine Wp.aload_n (pc2 := 1) dX5_isAlike_0 rfl rfl ?_
  refine Wp.iconN (pc2 := 2) 0 dX5_isAlike_1 rfl ?_
  refine Wp.iload_n (pc2 := 3) dX5_isAlike_2 rfl rfl ?_
  refine Wp.aload_n (pc2 := 4) dX5_isAlike_3 rfl rfl ?_
  refine Wp.getf (pc2 := 7) fX5_31 dX5_isAlike_4 rfl rfl rfl ?_
  refine Wp.iconN (pc2 := 8) 0 dX5_isAlike_7 rfl ?_
  refine Wp.ialdN (pc2 := 9) dX5_isAlike_8 rfl rfl (by omega) (by decide) ?_
  refine Wp.callV (pc2 := 12) kX5_isAlike_92 vX5_cell (m_cell V 0 a (V 8 0) (by omega)) dX5_isAlike_9 rfl rfl rfl rfl rfl (Nat.le_of_ble_eq_true rfl) ?_
  rintro _ _ ⟨rfl, rfl⟩
  refine Wp.aload_n (pc2 := 13) dX5_isAlike_12 rfl rfl ?_
  refine Wp.iconN (pc2 := 14) 1 dX5_isAlike_13 rfl ?_
  refine Wp.iload_n (pc2 := 15) dX5_isAlike_14 rfl rfl ?_
  refine Wp.aload_n (pc2 := 16) dX5_isAlike_15 rfl rfl ?_
  refine Wp.getf (pc2 := 19) fX5_31 dX5_isAlike_16 rfl rfl rfl ?_
  refine Wp.iconN (pc2 := 20) 1 dX5_isAlike_19 rfl ?_
  refine Wp.ialdN (pc2 := 21) dX5_isAlike_20 rfl rfl (by omega) (by decide) ?_
  refine Wp.callV (pc2 := 24) kX5_isAlike_92 vX5_cell (m_cell V 1 b (V 8 1) (by omega)) dX5_isAlike_21 rfl rfl rfl rfl rfl (Nat.le_of_ble_eq_true rfl) ?_
  rintro _ _ ⟨rfl, rfl⟩
  refine Wp.icmpN_ne (pc2 := 27) 31 dX5_isAlike_24 rfl (by decide) (hV.l _ _) (hV.l _ _) (fun c24 => ?_) (fun c24 => ?_)
  · refine Wp.iconN (pc2 := 32) 0 dX5_isAlike_31 rfl ?_
    refine Wp.ret dX5_isAlike_32 rfl (by first | exact zb_nar true | exact zb_nar false) ?_
    first
      | exact ⟨zbo_t c24, rfl⟩
      | exact ⟨zbo_f c24, rfl⟩
  · refine Wp.iconN (pc2 := 28) 1 dX5_isAlike_27 rfl ?_
    refine Wp.goto (pc2 := 32) dX5_isAlike_28 (by decide) ?_
    refine Wp.ret dX5_isAlike_32 rfl (by first | exact zb_nar true | exact zb_nar false) ?_
    first
      | exact ⟨zbo_t c24, rfl⟩
      | exact ⟨zbo_f c24, rfl⟩

/-- a row's number against a test -/
def passP (V : zS) (t r k : Nat) : Prop := if V 5 (4 * t + k) = 0 then V 2 (3 * (50 * t + r) + V 4 (4 * t + k)) < V 6 (4 * t + k) else if V 5 (4 * t + k) = 1 then V 2 (3 * (50 * t + r) + V 4 (4 * t + k)) = V 6 (4 * t + k) else V 6 (4 * t + k) < V 2 (3 * (50 * t + r) + V 4 (4 * t + k))

set_option maxRecDepth 100000 in
set_option maxHeartbeats 4000000 in
theorem m_passes (V : zS) (t r k : Nat) (hV : BV V) (ht : t < 2) (hr : r < 50) (hk : k < 4) (h0 : V 4 (4 * t + k) < 3) : PM mX5_passes [.ref 0, .int (nI t), .int (nI r), .int (nI k)] (hM V) (fun zr zq => zbo (passP V t r k) zr ∧ zq = hM V) := by
  refine PM.of (by decide +kernel) (by simp [Value.category]) (Nat.le_of_ble_eq_true rfl) ?_
  refine Wp.iconN (pc2 := 1) 4 dX5_passes_0 rfl ?_
  refine Wp.iload_n (pc2 := 2) dX5_passes_1 rfl rfl ?_
  refine Wp.imulN (pc2 := 3) dX5_passes_2 rfl  ?_
  refine Wp.iload_n (pc2 := 4) dX5_passes_3 rfl rfl ?_
  refine Wp.iaddN (pc2 := 5) dX5_passes_4 rfl  ?_
  refine Wp.istore (pc2 := 7) dX5_passes_5 rfl (by decide) rfl ?_
  refine Wp.aload_n (pc2 := 8) dX5_passes_7 rfl rfl ?_
  refine Wp.iload_n (pc2 := 9) dX5_passes_8 rfl rfl ?_
  refine Wp.iload_n (pc2 := 10) dX5_passes_9 rfl rfl ?_
  refine Wp.aload_n (pc2 := 11) dX5_passes_10 rfl rfl ?_
  refine Wp.getf (pc2 := 14) fX5_19 dX5_passes_11 rfl rfl rfl ?_
  refine Wp.iload (pc2 := 16) dX5_passes_14 rfl rfl ?_
  refine Wp.ialdN (pc2 := 17) dX5_passes_16 rfl rfl (by omega) (by decide) ?_
  refine Wp.callV (pc2 := 20) kX5_passes_92 vX5_cell (m_cell V t r (V 4 (4 * t + k)) (by omega)) dX5_passes_17 rfl rfl rfl rfl rfl (Nat.le_of_ble_eq_true rfl) ?_
  rintro _ _ ⟨rfl, rfl⟩
  refine Wp.istore (pc2 := 22) dX5_passes_20 rfl (by decide) rfl ?_
  refine Wp.aload_n (pc2 := 23) dX5_passes_22 rfl rfl ?_
  refine Wp.getf (pc2 := 26) fX5_22 dX5_passes_23 rfl rfl rfl ?_
  refine Wp.iload (pc2 := 28) dX5_passes_26 rfl rfl ?_
  refine Wp.ialdN (pc2 := 29) dX5_passes_28 rfl rfl (by omega) (by decide) ?_
  refine Wp.ifN_ne (pc2 := 32) 52 dX5_passes_29 rfl (by decide) (hV.l _ _) (fun c29 => ?_) (fun c29 => ?_)
  · refine Wp.aload_n (pc2 := 53) dX5_passes_52 rfl rfl ?_
    refine Wp.getf (pc2 := 56) fX5_22 dX5_passes_53 rfl rfl rfl ?_
    refine Wp.iload (pc2 := 58) dX5_passes_56 rfl rfl ?_
    refine Wp.ialdN (pc2 := 59) dX5_passes_58 rfl rfl (by omega) (by decide) ?_
    refine Wp.iconN (pc2 := 60) 1 dX5_passes_59 rfl ?_
    refine Wp.icmpN_ne (pc2 := 63) 83 dX5_passes_60 rfl (by decide) (hV.l _ _) (by decide) (fun c60 => ?_) (fun c60 => ?_)
    · refine Wp.iload (pc2 := 85) dX5_passes_83 rfl rfl ?_
      refine Wp.aload_n (pc2 := 86) dX5_passes_85 rfl rfl ?_
      refine Wp.getf (pc2 := 89) fX5_25 dX5_passes_86 rfl rfl rfl ?_
      refine Wp.iload (pc2 := 91) dX5_passes_89 rfl rfl ?_
      refine Wp.ialdN (pc2 := 92) dX5_passes_91 rfl rfl (by omega) (by decide) ?_
      refine Wp.icmpN_le (pc2 := 95) 99 dX5_passes_92 rfl (by decide) (hV.l _ _) (hV.l _ _) (fun c92 => ?_) (fun c92 => ?_)
      · refine Wp.iconN (pc2 := 100) 0 dX5_passes_99 rfl ?_
        refine Wp.ret dX5_passes_100 rfl (by first | exact zb_nar true | exact zb_nar false) ?_
        unfold passP
        first
          | (rw [if_pos c29]; first | exact ⟨zbo_t c41, rfl⟩ | exact ⟨zbo_f (Nat.not_lt.mpr c41), rfl⟩)
          | (rw [if_neg c29, if_pos c60]; first | exact ⟨zbo_t c72, rfl⟩ | exact ⟨zbo_f c72, rfl⟩)
          | (rw [if_neg c29, if_neg c60]; first | exact ⟨zbo_t c92, rfl⟩ | exact ⟨zbo_f (Nat.not_lt.mpr c92), rfl⟩)
      · refine Wp.iconN (pc2 := 96) 1 dX5_passes_95 rfl ?_
        refine Wp.goto (pc2 := 100) dX5_passes_96 (by decide) ?_
        refine Wp.ret dX5_passes_100 rfl (by first | exact zb_nar true | exact zb_nar false) ?_
        unfold passP
        first
          | (rw [if_pos c29]; first | exact ⟨zbo_t c41, rfl⟩ | exact ⟨zbo_f (Nat.not_lt.mpr c41), rfl⟩)
          | (rw [if_neg c29, if_pos c60]; first | exact ⟨zbo_t c72, rfl⟩ | exact ⟨zbo_f c72, rfl⟩)
          | (rw [if_neg c29, if_neg c60]; first | exact ⟨zbo_t c92, rfl⟩ | exact ⟨zbo_f (Nat.not_lt.mpr c92), rfl⟩)
    · refine Wp.iload (pc2 := 65) dX5_passes_63 rfl rfl ?_
      refine Wp.aload_n (pc2 := 66) dX5_passes_65 rfl rfl ?_
      refine Wp.getf (pc2 := 69) fX5_25 dX5_passes_66 rfl rfl rfl ?_
      refine Wp.iload (pc2 := 71) dX5_passes_69 rfl rfl ?_
      refine Wp.ialdN (pc2 := 72) dX5_passes_71 rfl rfl (by omega) (by decide) ?_
      refine Wp.icmpN_ne (pc2 := 75) 79 dX5_passes_72 rfl (by decide) (hV.l _ _) (hV.l _ _) (fun c72 => ?_) (fun c72 => ?_)
      · refine Wp.iconN (pc2 := 80) 0 dX5_passes_79 rfl ?_
        refine Wp.goto (pc2 := 100) dX5_passes_80 (by decide) ?_
        refine Wp.ret dX5_passes_100 rfl (by first | exact zb_nar true | exact zb_nar false) ?_
        unfold passP
        first
          | (rw [if_pos c29]; first | exact ⟨zbo_t c41, rfl⟩ | exact ⟨zbo_f (Nat.not_lt.mpr c41), rfl⟩)
          | (rw [if_neg c29, if_pos c60]; first | exact ⟨zbo_t c72, rfl⟩ | exact ⟨zbo_f c72, rfl⟩)
          | (rw [if_neg c29, if_neg c60]; first | exact ⟨zbo_t c92, rfl⟩ | exact ⟨zbo_f (Nat.not_lt.mpr c92), rfl⟩)
      · refine Wp.iconN (pc2 := 76) 1 dX5_passes_75 rfl ?_
        refine Wp.goto (pc2 := 100) dX5_passes_76 (by decide) ?_
        refine Wp.ret dX5_passes_100 rfl (by first | exact zb_nar true | exact zb_nar false) ?_
        unfold passP
        first
          | (rw [if_pos c29]; first | exact ⟨zbo_t c41, rfl⟩ | exact ⟨zbo_f (Nat.not_lt.mpr c41), rfl⟩)
          | (rw [if_neg c29, if_pos c60]; first | exact ⟨zbo_t c72, rfl⟩ | exact ⟨zbo_f c72, rfl⟩)
          | (rw [if_neg c29, if_neg c60]; first | exact ⟨zbo_t c92, rfl⟩ | exact ⟨zbo_f (Nat.not_lt.mpr c92), rfl⟩)
  · refine Wp.iload (pc2 := 34) dX5_passes_32 rfl rfl ?_
    refine Wp.aload_n (pc2 := 35) dX5_passes_34 rfl rfl ?_
    refine Wp.getf (pc2 := 38) fX5_25 dX5_passes_35 rfl rfl rfl ?_
    refine Wp.iload (pc2 := 40) dX5_passes_38 rfl rfl ?_
    refine Wp.ialdN (pc2 := 41) dX5_passes_40 rfl rfl (by omega) (by decide) ?_
    refine Wp.icmpN_ge (pc2 := 44) 48 dX5_passes_41 rfl (by decide) (hV.l _ _) (hV.l _ _) (fun c41 => ?_) (fun c41 => ?_)
    · refine Wp.iconN (pc2 := 49) 0 dX5_passes_48 rfl ?_
      refine Wp.goto (pc2 := 100) dX5_passes_49 (by decide) ?_
      refine Wp.ret dX5_passes_100 rfl (by first | exact zb_nar true | exact zb_nar false) ?_
      unfold passP
      first
        | (rw [if_pos c29]; first | exact ⟨zbo_t c41, rfl⟩ | exact ⟨zbo_f (Nat.not_lt.mpr c41), rfl⟩)
        | (rw [if_neg c29, if_pos c60]; first | exact ⟨zbo_t c72, rfl⟩ | exact ⟨zbo_f c72, rfl⟩)
        | (rw [if_neg c29, if_neg c60]; first | exact ⟨zbo_t c92, rfl⟩ | exact ⟨zbo_f (Nat.not_lt.mpr c92), rfl⟩)
    · refine Wp.iconN (pc2 := 45) 1 dX5_passes_44 rfl ?_
      refine Wp.goto (pc2 := 100) dX5_passes_45 (by decide) ?_
      refine Wp.ret dX5_passes_100 rfl (by first | exact zb_nar true | exact zb_nar false) ?_
      unfold passP
      first
        | (rw [if_pos c29]; first | exact ⟨zbo_t c41, rfl⟩ | exact ⟨zbo_f (Nat.not_lt.mpr c41), rfl⟩)
        | (rw [if_neg c29, if_pos c60]; first | exact ⟨zbo_t c72, rfl⟩ | exact ⟨zbo_f c72, rfl⟩)
        | (rw [if_neg c29, if_neg c60]; first | exact ⟨zbo_t c92, rfl⟩ | exact ⟨zbo_f (Nat.not_lt.mpr c92), rfl⟩)

set_option maxRecDepth 100000 in
set_option maxHeartbeats 4000000 in
theorem m_isReadOut (V : zS) (t : Nat) (hV : BV V) (ht : t < 2) : PM mX5_isReadOut [.ref 0, .int (nI t)] (hM V) (fun zr zq => zbo (V 10 t = V 1 t) zr ∧ zq = hM V) := by
  refine PM.of (by decide +kernel) (by simp [Value.category]) (Nat.le_of_ble_eq_true rfl) ?_
  refine Wp.aload_n (pc2 := 1) dX5_isReadOut_0 rfl rfl ?_
  refine Wp.getf (pc2 := 4) fX5_44 dX5_isReadOut_1 rfl rfl rfl ?_
  refine Wp.iload_n (pc2 := 5) dX5_isReadOut_4 rfl rfl ?_
  refine Wp.ialdN (pc2 := 6) dX5_isReadOut_5 rfl rfl (by omega) (by decide) ?_
  refine Wp.aload_n (pc2 := 7) dX5_isReadOut_6 rfl rfl ?_
  refine Wp.getf (pc2 := 10) fX5_7 dX5_isReadOut_7 rfl rfl rfl ?_
  refine Wp.iload_n (pc2 := 11) dX5_isReadOut_10 rfl rfl ?_
  refine Wp.ialdN (pc2 := 12) dX5_isReadOut_11 rfl rfl (by omega) (by decide) ?_
  refine Wp.icmpN_ne (pc2 := 15) 19 dX5_isReadOut_12 rfl (by decide) (hV.l _ _) (hV.l _ _) (fun c12 => ?_) (fun c12 => ?_)
  · refine Wp.iconN (pc2 := 20) 0 dX5_isReadOut_19 rfl ?_
    refine Wp.ret dX5_isReadOut_20 rfl (by first | exact zb_nar true | exact zb_nar false) ?_
    first
      | exact ⟨zbo_t c12, rfl⟩
      | exact ⟨zbo_f c12, rfl⟩
  · refine Wp.iconN (pc2 := 16) 1 dX5_isReadOut_15 rfl ?_
    refine Wp.goto (pc2 := 20) dX5_isReadOut_16 (by decide) ?_
    refine Wp.ret dX5_isReadOut_20 rfl (by first | exact zb_nar true | exact zb_nar false) ?_
    first
      | exact ⟨zbo_t c12, rfl⟩
      | exact ⟨zbo_f c12, rfl⟩

/-- giving the pair a, b -/
def mGive (V : zS) (a b : Nat) : zS := vs (vs (vs V 20 (50 * a + b) 1) 21 (V 0 26) (50 * a + b)) 0 26 (V 0 26 + 1)

set_option maxRecDepth 100000 in
set_option maxHeartbeats 4000000 in
theorem m_gives (V : zS) (a b : Nat) (ha : 50 * a + b < 2500) (hg : V 0 26 < 2500) : PM mX5_gives [.ref 0, .int (nI a), .int (nI b)] (hM V) (fun zr zq => zr = none ∧ zq = hM (mGive V a b)) := by
  refine PM.of (by decide +kernel) (by simp [Value.category]) (Nat.le_of_ble_eq_true rfl) ?_
  refine Wp.aload_n (pc2 := 1) dX5_gives_0 rfl rfl ?_
  refine Wp.getf (pc2 := 4) fX5_75 dX5_gives_1 rfl rfl rfl ?_
  refine Wp.bipN (pc2 := 6) 50 dX5_gives_4 rfl (by decide +kernel) ?_
  refine Wp.iload_n (pc2 := 7) dX5_gives_6 rfl rfl ?_
  refine Wp.imulN (pc2 := 8) dX5_gives_7 rfl  ?_
  refine Wp.iload_n (pc2 := 9) dX5_gives_8 rfl rfl ?_
  refine Wp.iaddN (pc2 := 10) dX5_gives_9 rfl  ?_
  refine Wp.iconN (pc2 := 11) 1 dX5_gives_10 rfl ?_
  refine Wp.zastN (pc2 := 12) dX5_gives_11 rfl rfl (by omega) (by decide) (by decide +kernel) ?_
  refine Wp.heq (hM_a20 _ _ _) ?_
  refine Wp.aload_n (pc2 := 13) dX5_gives_12 rfl rfl ?_
  refine Wp.getf (pc2 := 16) fX5_78 dX5_gives_13 rfl rfl rfl ?_
  refine Wp.aload_n (pc2 := 17) dX5_gives_16 rfl rfl ?_
  refine Wp.getf (pc2 := 20) fX5_103 dX5_gives_17 rfl rfl rfl ?_
  refine Wp.bipN (pc2 := 22) 50 dX5_gives_20 rfl (by decide +kernel) ?_
  refine Wp.iload_n (pc2 := 23) dX5_gives_22 rfl rfl ?_
  refine Wp.imulN (pc2 := 24) dX5_gives_23 rfl  ?_
  refine Wp.iload_n (pc2 := 25) dX5_gives_24 rfl rfl ?_
  refine Wp.iaddN (pc2 := 26) dX5_gives_25 rfl  ?_
  change Wp _ _ _ _ (_ :: .int (nI (V 0 26)) :: _) _
  refine Wp.iastN (pc2 := 27) dX5_gives_26 rfl rfl (by omega) (by decide) ?_
  refine Wp.heq (hM_a21 _ _ _) ?_
  refine Wp.aload_n (pc2 := 28) dX5_gives_27 rfl rfl ?_
  refine Wp.dup (pc2 := 29) dX5_gives_28 rfl rfl ?_
  refine Wp.getf (pc2 := 32) fX5_103 dX5_gives_29 rfl rfl rfl ?_
  refine Wp.iconN (pc2 := 33) 1 dX5_gives_32 rfl ?_
  refine Wp.iaddN (pc2 := 34) dX5_gives_33 rfl  ?_
  refine Wp.putf (pc2 := 37) gX5_103 dX5_gives_34 rfl rfl (Nat.le_of_ble_eq_true rfl) rfl rfl ?_
  refine Wp.heq (hM_o0_26 _ _) ?_
  refine Wp.retv dX5_gives_37 rfl ?_
  exact ⟨rfl, rfl⟩
end
section
/-- locals may be forgotten -/
def zsub : List Value → List Value → Prop
  | _, [] => True
  | [], v :: L' => v = .null ∧ zsub [] L'
  | u :: L, v :: L' => (v = .null ∨ v = u) ∧ zsub L L'
theorem zsub_at : ∀ {L L' : List Value}, zsub L L' → ∀ (i : Nat) (v : Value), L'[i]? = some v → v ≠ .null → L[i]? = some v
  | _, [], _, i, v, h, _ => by simp at h
  | [], u :: L', hs, i, v, h, hn => by
    cases i with
    | zero => simp only [List.getElem?_cons_zero, Option.some.injEq] at h; exact absurd (h ▸ hs.1) hn
    | succ i => rw [List.getElem?_cons_succ] at h; exact absurd (zsub_at hs.2 i v h hn) (by simp)
  | w :: L, u :: L', hs, i, v, h, hn => by
    cases i with
    | zero =>
      simp only [List.getElem?_cons_zero, Option.some.injEq] at h ⊢
      rcases hs.1 with q | q
      · exact absurd (h ▸ q) hn
      · rw [← q]; exact h
    | succ i => rw [List.getElem?_cons_succ] at h ⊢; exact zsub_at hs.2 i v h hn
theorem Wp.fg {M : zm_I} {Q : Option Value → zh → Prop} {pc : Nat} {L st : List Value} {h : zh} (L' : List Value) (hs : zsub L L') (k : Wp M Q pc L' st h) : Wp M Q pc L st h := by
  intro p l e s m args below meth c D ad ca A H locs ls C Hh hl
  exact k p l e s m args below meth c D ad ca A H locs ls C Hh ⟨hl.1, hl.2.1, fun i v hi hn => hl.2.2 i v (zsub_at hs i v hi hn) hn⟩
/-- a number of 0 .. n - 1 -/
def rg (x : Int32) (n : Nat) : Prop := ∃ j : Nat, j < n ∧ x = nI j
theorem rg_in {x : Int32} {n : Nat} (hn : n < 2 ^ 31) : (nI 0 ≤ x ∧ x ≤ nI n) ↔ rg x (n + 1) := by
  constructor
  · rintro ⟨h1, h2⟩
    rw [Int32.le_iff_toInt_le, nI_toInt (by decide)] at h1
    rw [Int32.le_iff_toInt_le, nI_toInt hn] at h2
    refine ⟨x.toInt.toNat, by omega, Int32.toInt_inj.mp ?_⟩
    rw [nI_toInt (by omega)]; omega
  · rintro ⟨j, hj, rfl⟩
    exact ⟨nI_le (Nat.zero_le _) (by omega), nI_le (by omega) hn⟩
theorem rg_sub {x : Int32} {n : Nat} (hn : n < 2 ^ 30) : (nI 0 ≤ x ∧ x ≤ nI n - nI 1) ↔ rg x n := by
  cases n with
  | zero =>
    constructor
    · rintro ⟨h1, h2⟩
      rw [Int32.le_iff_toInt_le, nI_toInt (by decide)] at h1
      rw [Int32.le_iff_toInt_le, pk_sub_toInt (by decide) (by decide)] at h2
      omega
    · rintro ⟨j, hj, -⟩; omega
  | succ n =>
    rw [pk_sub (by omega)]
    exact rg_in (by omega)
theorem rg_t {x : Int32} : (x = 0 ∨ x = 1) ↔ rg x 2 := by
  rw [← zi_01]; exact rg_in (n := 1) (by decide)
theorem rg_1 {x : Int32} {n : Nat} (hn : n < 2 ^ 31) : (nI 1 ≤ x ∧ x ≤ nI n) ↔ ∃ j : Nat, (1 ≤ j ∧ j ≤ n) ∧ x = nI j := by
  constructor
  · rintro ⟨h1, h2⟩
    rw [Int32.le_iff_toInt_le, nI_toInt (by decide)] at h1
    rw [Int32.le_iff_toInt_le, nI_toInt hn] at h2
    refine ⟨x.toInt.toNat, by omega, Int32.toInt_inj.mp ?_⟩
    rw [nI_toInt (by omega)]; omega
  · rintro ⟨j, hj, rfl⟩
    exact ⟨nI_le (by omega) (by omega), nI_le (by omega) hn⟩
theorem m_in_t (h : zh) (v lo hi : Int32) (hp : lo ≤ v ∧ v ≤ hi) : PM mX5_in [.int v, .int lo, .int hi] h (fun zr zq => zr = some (.int (nI 1)) ∧ zq = h) :=
  (m_in h v lo hi).mono (by
    rintro _ _ ⟨⟨b, rfl, hb⟩, rfl⟩
    rw [hb.mpr hp]; exact ⟨rfl, rfl⟩)
theorem m_isTable_t (h : zh) (t : Nat) (ht : t < 2) : PM mX5_isTable [.int (nI t)] h (fun zr zq => zr = some (.int (nI 1)) ∧ zq = h) :=
  (m_isTable h (nI t)).mono (by
    rintro _ _ ⟨⟨b, rfl, hb⟩, rfl⟩
    rw [hb.mpr (rg_t.mpr ⟨t, ht, rfl⟩)]; exact ⟨rfl, rfl⟩)

def mRow (V : zS) (t a b c : Nat) : zS := vs (vs (vs (vs V 2 (3 * (50 * t + V 1 t)) a) 2 (3 * (50 * t + V 1 t) + 1) b) 2 (3 * (50 * t + V 1 t) + 2) c) 1 t (V 1 t + 1)

set_option maxRecDepth 100000 in
set_option maxHeartbeats 4000000 in
theorem m_row_ok (V : zS) (t a b c : Nat) (hV : BV V) (ht : t < 2) (ha : a < 100) (hb : b < 100) (hc : c < 100) (hn : V 1 t < 50) (hs : V 0 10 ≠ 1) : PM mX5_row [.ref 0, .int (nI t), .int (nI a), .int (nI b), .int (nI c)] (hM V) (fun zr zq => zr = some (.int (nI (V 1 t))) ∧ zq = hM (mRow V t a b c)) := by
  refine PM.of (by decide +kernel) (by simp [Value.category]) (Nat.le_of_ble_eq_true rfl) ?_
  refine Wp.iload_n (pc2 := 1) dX5_row_0 rfl rfl ?_
  refine Wp.callS (pc2 := 4) kX5_row_85 sX5_isTable (m_isTable_t _ t ht) dX5_row_1 rfl rfl rfl (Nat.le_of_ble_eq_true rfl) ?_
  rintro _ _ ⟨rfl, rfl⟩
  refine Wp.ifN_eq (pc2 := 7) 57 dX5_row_4 rfl (by decide) (by omega) (fun c4 => ?_) (fun c4 => ?_)
  · exfalso; omega
  · refine Wp.iload_n (pc2 := 8) dX5_row_7 rfl rfl ?_
    refine Wp.iconN (pc2 := 9) 0 dX5_row_8 rfl ?_
    refine Wp.bipN (pc2 := 11) 99 dX5_row_9 rfl (by decide +kernel) ?_
    refine Wp.callS (pc2 := 14) kX5_row_81 sX5_in (m_in_t _ _ _ _ ((rg_in (by decide)).mpr ⟨a, ha, rfl⟩)) dX5_row_11 rfl rfl rfl (Nat.le_of_ble_eq_true rfl) ?_
    rintro _ _ ⟨rfl, rfl⟩
    refine Wp.ifN_eq (pc2 := 17) 57 dX5_row_14 rfl (by decide) (by omega) (fun c14 => ?_) (fun c14 => ?_)
    · exfalso; omega
    · refine Wp.iload_n (pc2 := 18) dX5_row_17 rfl rfl ?_
      refine Wp.iconN (pc2 := 19) 0 dX5_row_18 rfl ?_
      refine Wp.bipN (pc2 := 21) 99 dX5_row_19 rfl (by decide +kernel) ?_
      refine Wp.callS (pc2 := 24) kX5_row_81 sX5_in (m_in_t _ _ _ _ ((rg_in (by decide)).mpr ⟨b, hb, rfl⟩)) dX5_row_21 rfl rfl rfl (Nat.le_of_ble_eq_true rfl) ?_
      rintro _ _ ⟨rfl, rfl⟩
      refine Wp.ifN_eq (pc2 := 27) 57 dX5_row_24 rfl (by decide) (by omega) (fun c24 => ?_) (fun c24 => ?_)
      · exfalso; omega
      · refine Wp.iload (pc2 := 29) dX5_row_27 rfl rfl ?_
        refine Wp.iconN (pc2 := 30) 0 dX5_row_29 rfl ?_
        refine Wp.bipN (pc2 := 32) 99 dX5_row_30 rfl (by decide +kernel) ?_
        refine Wp.callS (pc2 := 35) kX5_row_81 sX5_in (m_in_t _ _ _ _ ((rg_in (by decide)).mpr ⟨c, hc, rfl⟩)) dX5_row_32 rfl rfl rfl (Nat.le_of_ble_eq_true rfl) ?_
        rintro _ _ ⟨rfl, rfl⟩
        refine Wp.ifN_eq (pc2 := 38) 57 dX5_row_35 rfl (by decide) (by omega) (fun c35 => ?_) (fun c35 => ?_)
        · exfalso; omega
        · refine Wp.aload_n (pc2 := 39) dX5_row_38 rfl rfl ?_
          refine Wp.getf (pc2 := 42) fX5_7 dX5_row_39 rfl rfl rfl ?_
          refine Wp.iload_n (pc2 := 43) dX5_row_42 rfl rfl ?_
          refine Wp.ialdN (pc2 := 44) dX5_row_43 rfl rfl (by omega) (by decide) ?_
          refine Wp.bipN (pc2 := 46) 50 dX5_row_44 rfl (by decide +kernel) ?_
          refine Wp.icmpN_eq (pc2 := 49) 57 dX5_row_46 rfl (by decide) (hV.l _ _) (by decide) (fun c46 => ?_) (fun c46 => ?_)
          · exfalso; omega
          · refine Wp.aload_n (pc2 := 50) dX5_row_49 rfl rfl ?_
            refine Wp.getf (pc2 := 53) fX5_89 dX5_row_50 rfl rfl rfl ?_
            refine Wp.iconN (pc2 := 54) 1 dX5_row_53 rfl ?_
            refine Wp.icmpN_ne (pc2 := 57) 59 dX5_row_54 rfl (by decide) (hV.l _ _) (by decide) (fun c54 => ?_) (fun c54 => ?_)
            · refine Wp.iconN (pc2 := 60) 3 dX5_row_59 rfl ?_
              refine Wp.bipN (pc2 := 62) 50 dX5_row_60 rfl (by decide +kernel) ?_
              refine Wp.iload_n (pc2 := 63) dX5_row_62 rfl rfl ?_
              refine Wp.imulN (pc2 := 64) dX5_row_63 rfl  ?_
              refine Wp.aload_n (pc2 := 65) dX5_row_64 rfl rfl ?_
              refine Wp.getf (pc2 := 68) fX5_7 dX5_row_65 rfl rfl rfl ?_
              refine Wp.iload_n (pc2 := 69) dX5_row_68 rfl rfl ?_
              refine Wp.ialdN (pc2 := 70) dX5_row_69 rfl rfl (by omega) (by decide) ?_
              refine Wp.iaddN (pc2 := 71) dX5_row_70 rfl  ?_
              refine Wp.imulN (pc2 := 72) dX5_row_71 rfl  ?_
              refine Wp.istore (pc2 := 74) dX5_row_72 rfl (by decide) rfl ?_
              refine Wp.aload_n (pc2 := 75) dX5_row_74 rfl rfl ?_
              refine Wp.getf (pc2 := 78) fX5_13 dX5_row_75 rfl rfl rfl ?_
              refine Wp.iload (pc2 := 80) dX5_row_78 rfl rfl ?_
              refine Wp.iload_n (pc2 := 81) dX5_row_80 rfl rfl ?_
              refine Wp.iastN (pc2 := 82) dX5_row_81 rfl rfl (by omega) (by decide) ?_
              refine Wp.heq (hM_a2 _ _ _) ?_
              refine Wp.aload_n (pc2 := 83) dX5_row_82 rfl rfl ?_
              refine Wp.getf (pc2 := 86) fX5_13 dX5_row_83 rfl rfl rfl ?_
              refine Wp.iload (pc2 := 88) dX5_row_86 rfl rfl ?_
              refine Wp.iconN (pc2 := 89) 1 dX5_row_88 rfl ?_
              refine Wp.iaddN (pc2 := 90) dX5_row_89 rfl  ?_
              refine Wp.iload_n (pc2 := 91) dX5_row_90 rfl rfl ?_
              refine Wp.iastN (pc2 := 92) dX5_row_91 rfl rfl (by omega) (by decide) ?_
              refine Wp.heq (hM_a2 _ _ _) ?_
              refine Wp.aload_n (pc2 := 93) dX5_row_92 rfl rfl ?_
              refine Wp.getf (pc2 := 96) fX5_13 dX5_row_93 rfl rfl rfl ?_
              refine Wp.iload (pc2 := 98) dX5_row_96 rfl rfl ?_
              refine Wp.iconN (pc2 := 99) 2 dX5_row_98 rfl ?_
              refine Wp.iaddN (pc2 := 100) dX5_row_99 rfl  ?_
              refine Wp.iload (pc2 := 102) dX5_row_100 rfl rfl ?_
              refine Wp.iastN (pc2 := 103) dX5_row_102 rfl rfl (by omega) (by decide) ?_
              refine Wp.heq (hM_a2 _ _ _) ?_
              refine Wp.aload_n (pc2 := 104) dX5_row_103 rfl rfl ?_
              refine Wp.getf (pc2 := 107) fX5_7 dX5_row_104 rfl rfl rfl ?_
              refine Wp.iload_n (pc2 := 108) dX5_row_107 rfl rfl ?_
              refine Wp.dup2 (pc2 := 109) dX5_row_108 rfl rfl rfl ?_
              refine Wp.ialdN (pc2 := 110) dX5_row_109 rfl rfl (by omega) (by decide) ?_
              refine Wp.iconN (pc2 := 111) 1 dX5_row_110 rfl ?_
              refine Wp.iaddN (pc2 := 112) dX5_row_111 rfl  ?_
              change Wp _ _ _ _ (.int (nI (V 1 t + 1)) :: _) _
              refine Wp.iastN (pc2 := 113) dX5_row_112 rfl rfl (by omega) (by decide) ?_
              refine Wp.heq (hM_a1 _ _ _) ?_
              refine Wp.aload_n (pc2 := 114) dX5_row_113 rfl rfl ?_
              refine Wp.getf (pc2 := 117) fX5_7 dX5_row_114 rfl rfl rfl ?_
              refine Wp.iload_n (pc2 := 118) dX5_row_117 rfl rfl ?_
              refine Wp.ialdN (pc2 := 119) dX5_row_118 rfl rfl (by omega) (by decide) ?_
              refine Wp.iconN (pc2 := 120) 1 dX5_row_119 rfl ?_
              refine Wp.isubN (pc2 := 121) dX5_row_120 rfl (by simp [vs]) ?_
              refine Wp.ret dX5_row_121 rfl rfl ?_
              refine ⟨?_, rfl⟩
              simp [vs]
            · exfalso; omega

set_option maxRecDepth 100000 in
set_option maxHeartbeats 4000000 in
theorem m_row_no (V : zS) (t c0 c1 c2 : Int32) (hV : BV V) (hno : ¬ ∃ t' a b c : Nat, (t' < 2 ∧ t = nI t') ∧ (a < 100 ∧ c0 = nI a) ∧ (b < 100 ∧ c1 = nI b) ∧ (c < 100 ∧ c2 = nI c) ∧ V 1 t' ≠ 50 ∧ V 0 10 ≠ 1) : PM mX5_row [.ref 0, .int t, .int c0, .int c1, .int c2] (hM V) (fun zr zq => zr = some (.int (-1)) ∧ zq = hM V) := by
  refine PM.of (by decide +kernel) (by simp [Value.category]) (Nat.le_of_ble_eq_true rfl) ?_
  refine Wp.iload_n (pc2 := 1) dX5_row_0 rfl rfl ?_
  refine Wp.callS (pc2 := 4) kX5_row_85 sX5_isTable (m_isTable _ t) dX5_row_1 rfl rfl rfl (Nat.le_of_ble_eq_true rfl) ?_
  rintro _ _ ⟨⟨b, rfl, hb⟩, rfl⟩
  refine Wp.ifN_eq (pc2 := 7) 57 dX5_row_4 rfl (by decide) (zb_lt _) (fun c4 => ?_) (fun c4 => ?_)
  · refine Wp.icon (pc2 := 58) dX5_row_57 rfl (-1) (by decide +kernel) ?_
    refine Wp.ret dX5_row_58 rfl rfl ?_
    exact ⟨rfl, rfl⟩
  · obtain ⟨t', ht, rfl⟩ := rg_t.mp (zby hb c4)
    refine Wp.iload_n (pc2 := 8) dX5_row_7 rfl rfl ?_
    refine Wp.iconN (pc2 := 9) 0 dX5_row_8 rfl ?_
    refine Wp.bipN (pc2 := 11) 99 dX5_row_9 rfl (by decide +kernel) ?_
    refine Wp.callS (pc2 := 14) kX5_row_81 sX5_in (m_in _ c0 _ _) dX5_row_11 rfl rfl rfl (Nat.le_of_ble_eq_true rfl) ?_
    rintro _ _ ⟨⟨b, rfl, hb⟩, rfl⟩
    refine Wp.ifN_eq (pc2 := 17) 57 dX5_row_14 rfl (by decide) (zb_lt _) (fun c14 => ?_) (fun c14 => ?_)
    · refine Wp.icon (pc2 := 58) dX5_row_57 rfl (-1) (by decide +kernel) ?_
      refine Wp.ret dX5_row_58 rfl rfl ?_
      exact ⟨rfl, rfl⟩
    · obtain ⟨a, ha, rfl⟩ := (rg_in (by decide)).mp (zby hb c14)
      refine Wp.iload_n (pc2 := 18) dX5_row_17 rfl rfl ?_
      refine Wp.iconN (pc2 := 19) 0 dX5_row_18 rfl ?_
      refine Wp.bipN (pc2 := 21) 99 dX5_row_19 rfl (by decide +kernel) ?_
      refine Wp.callS (pc2 := 24) kX5_row_81 sX5_in (m_in _ c1 _ _) dX5_row_21 rfl rfl rfl (Nat.le_of_ble_eq_true rfl) ?_
      rintro _ _ ⟨⟨b, rfl, hb⟩, rfl⟩
      refine Wp.ifN_eq (pc2 := 27) 57 dX5_row_24 rfl (by decide) (zb_lt _) (fun c24 => ?_) (fun c24 => ?_)
      · refine Wp.icon (pc2 := 58) dX5_row_57 rfl (-1) (by decide +kernel) ?_
        refine Wp.ret dX5_row_58 rfl rfl ?_
        exact ⟨rfl, rfl⟩
      · obtain ⟨b1, hb1, rfl⟩ := (rg_in (by decide)).mp (zby hb c24)
        refine Wp.iload (pc2 := 29) dX5_row_27 rfl rfl ?_
        refine Wp.iconN (pc2 := 30) 0 dX5_row_29 rfl ?_
        refine Wp.bipN (pc2 := 32) 99 dX5_row_30 rfl (by decide +kernel) ?_
        refine Wp.callS (pc2 := 35) kX5_row_81 sX5_in (m_in _ c2 _ _) dX5_row_32 rfl rfl rfl (Nat.le_of_ble_eq_true rfl) ?_
        rintro _ _ ⟨⟨b, rfl, hb⟩, rfl⟩
        refine Wp.ifN_eq (pc2 := 38) 57 dX5_row_35 rfl (by decide) (zb_lt _) (fun c35 => ?_) (fun c35 => ?_)
        · refine Wp.icon (pc2 := 58) dX5_row_57 rfl (-1) (by decide +kernel) ?_
          refine Wp.ret dX5_row_58 rfl rfl ?_
          exact ⟨rfl, rfl⟩
        · obtain ⟨c1, hc1, rfl⟩ := (rg_in (by decide)).mp (zby hb c35)
          refine Wp.aload_n (pc2 := 39) dX5_row_38 rfl rfl ?_
          refine Wp.getf (pc2 := 42) fX5_7 dX5_row_39 rfl rfl rfl ?_
          refine Wp.iload_n (pc2 := 43) dX5_row_42 rfl rfl ?_
          refine Wp.ialdN (pc2 := 44) dX5_row_43 rfl rfl (by omega) (by decide) ?_
          refine Wp.bipN (pc2 := 46) 50 dX5_row_44 rfl (by decide +kernel) ?_
          refine Wp.icmpN_eq (pc2 := 49) 57 dX5_row_46 rfl (by decide) (hV.l _ _) (by decide) (fun c46 => ?_) (fun c46 => ?_)
          · refine Wp.icon (pc2 := 58) dX5_row_57 rfl (-1) (by decide +kernel) ?_
            refine Wp.ret dX5_row_58 rfl rfl ?_
            exact ⟨rfl, rfl⟩
          · refine Wp.aload_n (pc2 := 50) dX5_row_49 rfl rfl ?_
            refine Wp.getf (pc2 := 53) fX5_89 dX5_row_50 rfl rfl rfl ?_
            refine Wp.iconN (pc2 := 54) 1 dX5_row_53 rfl ?_
            refine Wp.icmpN_ne (pc2 := 57) 59 dX5_row_54 rfl (by decide) (hV.l _ _) (by decide) (fun c54 => ?_) (fun c54 => ?_)
            · exact absurd ⟨t', a, b1, c1, ⟨ht, rfl⟩, ⟨ha, rfl⟩, ⟨hb1, rfl⟩, ⟨hc1, rfl⟩, c46, c54⟩ hno
            · refine Wp.icon (pc2 := 58) dX5_row_57 rfl (-1) (by decide +kernel) ?_
              refine Wp.ret dX5_row_58 rfl rfl ?_
              exact ⟨rfl, rfl⟩

def mTest (V : zS) (t w p : Nat) : zS := vs (vs (vs (vs (vs V 4 (4 * t + V 3 t) (w / 1000)) 5 (4 * t + V 3 t) (w / 100 % 10)) 6 (4 * t + V 3 t) (w % 100)) 7 (4 * t + V 3 t) p) 3 t (V 3 t + 1)

set_option maxRecDepth 100000 in
set_option maxHeartbeats 4000000 in
theorem m_test_ok (V : zS) (t w p : Nat) (hV : BV V) (ht : t < 2) (hw : w < 2 ^ 31) (h1 : w / 1000 < 3) (h2 : w / 100 % 10 ≤ 2) (hp : 1 ≤ p ∧ p ≤ 50) (hn : V 3 t < 4) (hs : V 0 10 ≠ 1) : PM mX5_test [.ref 0, .int (nI t), .int (nI w), .int (nI p)] (hM V) (fun zr zq => zr = some (.int (nI (V 3 t))) ∧ zq = hM (mTest V t w p)) := by
  refine PM.of (by decide +kernel) (by simp [Value.category]) (Nat.le_of_ble_eq_true rfl) ?_
  refine Wp.iload_n (pc2 := 1) dX5_test_0 rfl rfl ?_
  refine Wp.callS (pc2 := 4) kX5_test_85 sX5_isTable (m_isTable_t _ t ht) dX5_test_1 rfl rfl rfl (Nat.le_of_ble_eq_true rfl) ?_
  rintro _ _ ⟨rfl, rfl⟩
  refine Wp.ifN_eq (pc2 := 7) 59 dX5_test_4 rfl (by decide) (by omega) (fun c4 => ?_) (fun c4 => ?_)
  · exfalso; omega
  · refine Wp.iload_n (pc2 := 8) dX5_test_7 rfl rfl ?_
    refine Wp.ifN_lt (pc2 := 11) 59 dX5_test_8 rfl (by decide) hw (fun c8 => ?_) (fun c8 => ?_)
    · exfalso; omega
    · refine Wp.iload_n (pc2 := 12) dX5_test_11 rfl rfl ?_
      refine Wp.sipN (pc2 := 15) 1000 dX5_test_12 rfl (by decide +kernel) ?_
      refine Wp.idivN (pc2 := 16) dX5_test_15 rfl hw (by decide) (by decide) ?_
      refine Wp.iconN (pc2 := 17) 3 dX5_test_16 rfl ?_
      refine Wp.icmpN_ge (pc2 := 20) 59 dX5_test_17 rfl (by decide) (by omega) (by omega) (fun c17 => ?_) (fun c17 => ?_)
      · exfalso; omega
      · refine Wp.iload_n (pc2 := 21) dX5_test_20 rfl rfl ?_
        refine Wp.bipN (pc2 := 23) 100 dX5_test_21 rfl (by decide +kernel) ?_
        refine Wp.idivN (pc2 := 24) dX5_test_23 rfl hw (by decide) (by decide) ?_
        refine Wp.bipN (pc2 := 26) 10 dX5_test_24 rfl (by decide +kernel) ?_
        refine Wp.iremN (pc2 := 27) dX5_test_26 rfl (by omega) (by decide) (by decide) ?_
        refine Wp.iconN (pc2 := 28) 2 dX5_test_27 rfl ?_
        refine Wp.icmpN_gt (pc2 := 31) 59 dX5_test_28 rfl (by decide) (by omega) (by omega) (fun c28 => ?_) (fun c28 => ?_)
        · exfalso; omega
        · refine Wp.iload_n (pc2 := 32) dX5_test_31 rfl rfl ?_
          refine Wp.iconN (pc2 := 33) 1 dX5_test_32 rfl ?_
          refine Wp.bipN (pc2 := 35) 50 dX5_test_33 rfl (by decide +kernel) ?_
          refine Wp.callS (pc2 := 38) kX5_test_81 sX5_in (m_in_t _ _ _ _ ((rg_1 (by decide)).mpr ⟨p, hp, rfl⟩)) dX5_test_35 rfl rfl rfl (Nat.le_of_ble_eq_true rfl) ?_
          rintro _ _ ⟨rfl, rfl⟩
          refine Wp.ifN_eq (pc2 := 41) 59 dX5_test_38 rfl (by decide) (by omega) (fun c38 => ?_) (fun c38 => ?_)
          · exfalso; omega
          · refine Wp.aload_n (pc2 := 42) dX5_test_41 rfl rfl ?_
            refine Wp.getf (pc2 := 45) fX5_16 dX5_test_42 rfl rfl rfl ?_
            refine Wp.iload_n (pc2 := 46) dX5_test_45 rfl rfl ?_
            refine Wp.ialdN (pc2 := 47) dX5_test_46 rfl rfl (by omega) (by decide) ?_
            refine Wp.iconN (pc2 := 48) 4 dX5_test_47 rfl ?_
            refine Wp.icmpN_eq (pc2 := 51) 59 dX5_test_48 rfl (by decide) (hV.l _ _) (by decide) (fun c48 => ?_) (fun c48 => ?_)
            · exfalso; omega
            · refine Wp.aload_n (pc2 := 52) dX5_test_51 rfl rfl ?_
              refine Wp.getf (pc2 := 55) fX5_89 dX5_test_52 rfl rfl rfl ?_
              refine Wp.iconN (pc2 := 56) 1 dX5_test_55 rfl ?_
              refine Wp.icmpN_ne (pc2 := 59) 61 dX5_test_56 rfl (by decide) (hV.l _ _) (by decide) (fun c56 => ?_) (fun c56 => ?_)
              · refine Wp.iconN (pc2 := 62) 4 dX5_test_61 rfl ?_
                refine Wp.iload_n (pc2 := 63) dX5_test_62 rfl rfl ?_
                refine Wp.imulN (pc2 := 64) dX5_test_63 rfl  ?_
                refine Wp.aload_n (pc2 := 65) dX5_test_64 rfl rfl ?_
                refine Wp.getf (pc2 := 68) fX5_16 dX5_test_65 rfl rfl rfl ?_
                refine Wp.iload_n (pc2 := 69) dX5_test_68 rfl rfl ?_
                refine Wp.ialdN (pc2 := 70) dX5_test_69 rfl rfl (by omega) (by decide) ?_
                refine Wp.iaddN (pc2 := 71) dX5_test_70 rfl  ?_
                refine Wp.istore (pc2 := 73) dX5_test_71 rfl (by decide) rfl ?_
                refine Wp.aload_n (pc2 := 74) dX5_test_73 rfl rfl ?_
                refine Wp.getf (pc2 := 77) fX5_19 dX5_test_74 rfl rfl rfl ?_
                refine Wp.iload (pc2 := 79) dX5_test_77 rfl rfl ?_
                refine Wp.iload_n (pc2 := 80) dX5_test_79 rfl rfl ?_
                refine Wp.sipN (pc2 := 83) 1000 dX5_test_80 rfl (by decide +kernel) ?_
                refine Wp.idivN (pc2 := 84) dX5_test_83 rfl hw (by decide) (by decide) ?_
                refine Wp.iastN (pc2 := 85) dX5_test_84 rfl rfl (by omega) (by decide) ?_
                refine Wp.heq (hM_a4 _ _ _) ?_
                refine Wp.aload_n (pc2 := 86) dX5_test_85 rfl rfl ?_
                refine Wp.getf (pc2 := 89) fX5_22 dX5_test_86 rfl rfl rfl ?_
                refine Wp.iload (pc2 := 91) dX5_test_89 rfl rfl ?_
                refine Wp.iload_n (pc2 := 92) dX5_test_91 rfl rfl ?_
                refine Wp.bipN (pc2 := 94) 100 dX5_test_92 rfl (by decide +kernel) ?_
                refine Wp.idivN (pc2 := 95) dX5_test_94 rfl hw (by decide) (by decide) ?_
                refine Wp.bipN (pc2 := 97) 10 dX5_test_95 rfl (by decide +kernel) ?_
                refine Wp.iremN (pc2 := 98) dX5_test_97 rfl (by omega) (by decide) (by decide) ?_
                refine Wp.iastN (pc2 := 99) dX5_test_98 rfl rfl (by omega) (by decide) ?_
                refine Wp.heq (hM_a5 _ _ _) ?_
                refine Wp.aload_n (pc2 := 100) dX5_test_99 rfl rfl ?_
                refine Wp.getf (pc2 := 103) fX5_25 dX5_test_100 rfl rfl rfl ?_
                refine Wp.iload (pc2 := 105) dX5_test_103 rfl rfl ?_
                refine Wp.iload_n (pc2 := 106) dX5_test_105 rfl rfl ?_
                refine Wp.bipN (pc2 := 108) 100 dX5_test_106 rfl (by decide +kernel) ?_
                refine Wp.iremN (pc2 := 109) dX5_test_108 rfl hw (by decide) (by decide) ?_
                refine Wp.iastN (pc2 := 110) dX5_test_109 rfl rfl (by omega) (by decide) ?_
                refine Wp.heq (hM_a6 _ _ _) ?_
                refine Wp.aload_n (pc2 := 111) dX5_test_110 rfl rfl ?_
                refine Wp.getf (pc2 := 114) fX5_28 dX5_test_111 rfl rfl rfl ?_
                refine Wp.iload (pc2 := 116) dX5_test_114 rfl rfl ?_
                refine Wp.iload_n (pc2 := 117) dX5_test_116 rfl rfl ?_
                refine Wp.iastN (pc2 := 118) dX5_test_117 rfl rfl (by omega) (by decide) ?_
                refine Wp.heq (hM_a7 _ _ _) ?_
                refine Wp.aload_n (pc2 := 119) dX5_test_118 rfl rfl ?_
                refine Wp.getf (pc2 := 122) fX5_16 dX5_test_119 rfl rfl rfl ?_
                refine Wp.iload_n (pc2 := 123) dX5_test_122 rfl rfl ?_
                refine Wp.dup2 (pc2 := 124) dX5_test_123 rfl rfl rfl ?_
                refine Wp.ialdN (pc2 := 125) dX5_test_124 rfl rfl (by omega) (by decide) ?_
                refine Wp.iconN (pc2 := 126) 1 dX5_test_125 rfl ?_
                refine Wp.iaddN (pc2 := 127) dX5_test_126 rfl  ?_
                change Wp _ _ _ _ (.int (nI (V 3 t + 1)) :: _) _
                refine Wp.iastN (pc2 := 128) dX5_test_127 rfl rfl (by omega) (by decide) ?_
                refine Wp.heq (hM_a3 _ _ _) ?_
                refine Wp.aload_n (pc2 := 129) dX5_test_128 rfl rfl ?_
                refine Wp.getf (pc2 := 132) fX5_16 dX5_test_129 rfl rfl rfl ?_
                refine Wp.iload_n (pc2 := 133) dX5_test_132 rfl rfl ?_
                refine Wp.ialdN (pc2 := 134) dX5_test_133 rfl rfl (by omega) (by decide) ?_
                refine Wp.iconN (pc2 := 135) 1 dX5_test_134 rfl ?_
                refine Wp.isubN (pc2 := 136) dX5_test_135 rfl (by simp [vs]) ?_
                refine Wp.ret dX5_test_136 rfl rfl ?_
                refine ⟨?_, rfl⟩
                simp [vs]
              · exfalso; omega

set_option maxRecDepth 100000 in
set_option maxHeartbeats 4000000 in
theorem m_test_no (V : zS) (t what price : Int32) (hV : BV V) (hno : ¬ ∃ t' w p : Nat, (t' < 2 ∧ t = nI t') ∧ (w < 2 ^ 31 ∧ what = nI w) ∧ ((1 ≤ p ∧ p ≤ 50) ∧ price = nI p) ∧ w / 1000 < 3 ∧ w / 100 % 10 ≤ 2 ∧ V 3 t' ≠ 4 ∧ V 0 10 ≠ 1) : PM mX5_test [.ref 0, .int t, .int what, .int price] (hM V) (fun zr zq => zr = some (.int (-1)) ∧ zq = hM V) := by
  refine PM.of (by decide +kernel) (by simp [Value.category]) (Nat.le_of_ble_eq_true rfl) ?_
  refine Wp.iload_n (pc2 := 1) dX5_test_0 rfl rfl ?_
  refine Wp.callS (pc2 := 4) kX5_test_85 sX5_isTable (m_isTable _ t) dX5_test_1 rfl rfl rfl (Nat.le_of_ble_eq_true rfl) ?_
  rintro _ _ ⟨⟨b, rfl, hb⟩, rfl⟩
  refine Wp.ifN_eq (pc2 := 7) 59 dX5_test_4 rfl (by decide) (zb_lt _) (fun c4 => ?_) (fun c4 => ?_)
  · refine Wp.icon (pc2 := 60) dX5_test_59 rfl (-1) (by decide +kernel) ?_
    refine Wp.ret dX5_test_60 rfl rfl ?_
    exact ⟨rfl, rfl⟩
  · obtain ⟨t', ht, rfl⟩ := rg_t.mp (zby hb c4)
    refine Wp.iload_n (pc2 := 8) dX5_test_7 rfl rfl ?_
    refine Wp.if_lt (pc2 := 11) 59 dX5_test_8 rfl (by decide)  (fun c8 => ?_) (fun c8 => ?_)
    · refine Wp.icon (pc2 := 60) dX5_test_59 rfl (-1) (by decide +kernel) ?_
      refine Wp.ret dX5_test_60 rfl rfl ?_
      exact ⟨rfl, rfl⟩
    · obtain ⟨w, hw, rfl⟩ := nI_of c8
      refine Wp.iload_n (pc2 := 12) dX5_test_11 rfl rfl ?_
      refine Wp.sipN (pc2 := 15) 1000 dX5_test_12 rfl (by decide +kernel) ?_
      refine Wp.idivN (pc2 := 16) dX5_test_15 rfl hw (by decide) (by decide) ?_
      refine Wp.iconN (pc2 := 17) 3 dX5_test_16 rfl ?_
      refine Wp.icmpN_ge (pc2 := 20) 59 dX5_test_17 rfl (by decide) (by omega) (by omega) (fun c17 => ?_) (fun c17 => ?_)
      · refine Wp.icon (pc2 := 60) dX5_test_59 rfl (-1) (by decide +kernel) ?_
        refine Wp.ret dX5_test_60 rfl rfl ?_
        exact ⟨rfl, rfl⟩
      · refine Wp.iload_n (pc2 := 21) dX5_test_20 rfl rfl ?_
        refine Wp.bipN (pc2 := 23) 100 dX5_test_21 rfl (by decide +kernel) ?_
        refine Wp.idivN (pc2 := 24) dX5_test_23 rfl hw (by decide) (by decide) ?_
        refine Wp.bipN (pc2 := 26) 10 dX5_test_24 rfl (by decide +kernel) ?_
        refine Wp.iremN (pc2 := 27) dX5_test_26 rfl (by omega) (by decide) (by decide) ?_
        refine Wp.iconN (pc2 := 28) 2 dX5_test_27 rfl ?_
        refine Wp.icmpN_gt (pc2 := 31) 59 dX5_test_28 rfl (by decide) (by omega) (by omega) (fun c28 => ?_) (fun c28 => ?_)
        · refine Wp.icon (pc2 := 60) dX5_test_59 rfl (-1) (by decide +kernel) ?_
          refine Wp.ret dX5_test_60 rfl rfl ?_
          exact ⟨rfl, rfl⟩
        · refine Wp.iload_n (pc2 := 32) dX5_test_31 rfl rfl ?_
          refine Wp.iconN (pc2 := 33) 1 dX5_test_32 rfl ?_
          refine Wp.bipN (pc2 := 35) 50 dX5_test_33 rfl (by decide +kernel) ?_
          refine Wp.callS (pc2 := 38) kX5_test_81 sX5_in (m_in _ price _ _) dX5_test_35 rfl rfl rfl (Nat.le_of_ble_eq_true rfl) ?_
          rintro _ _ ⟨⟨b, rfl, hb⟩, rfl⟩
          refine Wp.ifN_eq (pc2 := 41) 59 dX5_test_38 rfl (by decide) (zb_lt _) (fun c38 => ?_) (fun c38 => ?_)
          · refine Wp.icon (pc2 := 60) dX5_test_59 rfl (-1) (by decide +kernel) ?_
            refine Wp.ret dX5_test_60 rfl rfl ?_
            exact ⟨rfl, rfl⟩
          · obtain ⟨p1, hp1, rfl⟩ := (rg_1 (by decide)).mp (zby hb c38)
            refine Wp.aload_n (pc2 := 42) dX5_test_41 rfl rfl ?_
            refine Wp.getf (pc2 := 45) fX5_16 dX5_test_42 rfl rfl rfl ?_
            refine Wp.iload_n (pc2 := 46) dX5_test_45 rfl rfl ?_
            refine Wp.ialdN (pc2 := 47) dX5_test_46 rfl rfl (by omega) (by decide) ?_
            refine Wp.iconN (pc2 := 48) 4 dX5_test_47 rfl ?_
            refine Wp.icmpN_eq (pc2 := 51) 59 dX5_test_48 rfl (by decide) (hV.l _ _) (by decide) (fun c48 => ?_) (fun c48 => ?_)
            · refine Wp.icon (pc2 := 60) dX5_test_59 rfl (-1) (by decide +kernel) ?_
              refine Wp.ret dX5_test_60 rfl rfl ?_
              exact ⟨rfl, rfl⟩
            · refine Wp.aload_n (pc2 := 52) dX5_test_51 rfl rfl ?_
              refine Wp.getf (pc2 := 55) fX5_89 dX5_test_52 rfl rfl rfl ?_
              refine Wp.iconN (pc2 := 56) 1 dX5_test_55 rfl ?_
              refine Wp.icmpN_ne (pc2 := 59) 61 dX5_test_56 rfl (by decide) (hV.l _ _) (by decide) (fun c56 => ?_) (fun c56 => ?_)
              · exact absurd ⟨t', w, p1, ⟨ht, rfl⟩, ⟨hw, rfl⟩, ⟨hp1, rfl⟩, c17, c28, c48, c56⟩ hno
              · refine Wp.icon (pc2 := 60) dX5_test_59 rfl (-1) (by decide +kernel) ?_
                refine Wp.ret dX5_test_60 rfl rfl ?_
                exact ⟨rfl, rfl⟩

set_option maxRecDepth 100000 in
set_option maxHeartbeats 4000000 in
theorem m_join_ok (V : zS) (a b : Nat) (hV : BV V) (ha : a < 3) (hb : b < 3) (hs : V 0 10 ≠ 1) : PM mX5_join [.ref 0, .int (nI a), .int (nI b)] (hM V) (fun zr zq => zr = some (.int (nI (1))) ∧ zq = hM (vs (vs V 8 0 a) 8 1 b)) := by
  refine PM.of (by decide +kernel) (by simp [Value.category]) (Nat.le_of_ble_eq_true rfl) ?_
  refine Wp.iload_n (pc2 := 1) dX5_join_0 rfl rfl ?_
  refine Wp.iconN (pc2 := 2) 0 dX5_join_1 rfl ?_
  refine Wp.iconN (pc2 := 3) 2 dX5_join_2 rfl ?_
  refine Wp.callS (pc2 := 6) kX5_join_81 sX5_in (m_in_t _ _ _ _ ((rg_in (by decide)).mpr ⟨a, ha, rfl⟩)) dX5_join_3 rfl rfl rfl (Nat.le_of_ble_eq_true rfl) ?_
  rintro _ _ ⟨rfl, rfl⟩
  refine Wp.ifN_eq (pc2 := 9) 26 dX5_join_6 rfl (by decide) (by omega) (fun c6 => ?_) (fun c6 => ?_)
  · exfalso; omega
  · refine Wp.iload_n (pc2 := 10) dX5_join_9 rfl rfl ?_
    refine Wp.iconN (pc2 := 11) 0 dX5_join_10 rfl ?_
    refine Wp.iconN (pc2 := 12) 2 dX5_join_11 rfl ?_
    refine Wp.callS (pc2 := 15) kX5_join_81 sX5_in (m_in_t _ _ _ _ ((rg_in (by decide)).mpr ⟨b, hb, rfl⟩)) dX5_join_12 rfl rfl rfl (Nat.le_of_ble_eq_true rfl) ?_
    rintro _ _ ⟨rfl, rfl⟩
    refine Wp.ifN_eq (pc2 := 18) 26 dX5_join_15 rfl (by decide) (by omega) (fun c15 => ?_) (fun c15 => ?_)
    · exfalso; omega
    · refine Wp.aload_n (pc2 := 19) dX5_join_18 rfl rfl ?_
      refine Wp.getf (pc2 := 22) fX5_89 dX5_join_19 rfl rfl rfl ?_
      refine Wp.iconN (pc2 := 23) 1 dX5_join_22 rfl ?_
      refine Wp.icmpN_ne (pc2 := 26) 28 dX5_join_23 rfl (by decide) (hV.l _ _) (by decide) (fun c23 => ?_) (fun c23 => ?_)
      · refine Wp.aload_n (pc2 := 29) dX5_join_28 rfl rfl ?_
        refine Wp.getf (pc2 := 32) fX5_31 dX5_join_29 rfl rfl rfl ?_
        refine Wp.iconN (pc2 := 33) 0 dX5_join_32 rfl ?_
        refine Wp.iload_n (pc2 := 34) dX5_join_33 rfl rfl ?_
        refine Wp.iastN (pc2 := 35) dX5_join_34 rfl rfl (by omega) (by decide) ?_
        refine Wp.heq (hM_a8 _ _ _) ?_
        refine Wp.aload_n (pc2 := 36) dX5_join_35 rfl rfl ?_
        refine Wp.getf (pc2 := 39) fX5_31 dX5_join_36 rfl rfl rfl ?_
        refine Wp.iconN (pc2 := 40) 1 dX5_join_39 rfl ?_
        refine Wp.iload_n (pc2 := 41) dX5_join_40 rfl rfl ?_
        refine Wp.iastN (pc2 := 42) dX5_join_41 rfl rfl (by omega) (by decide) ?_
        refine Wp.heq (hM_a8 _ _ _) ?_
        refine Wp.iconN (pc2 := 43) 1 dX5_join_42 rfl ?_
        refine Wp.ret dX5_join_43 rfl rfl ?_
        exact ⟨rfl, rfl⟩
      · exfalso; omega

set_option maxRecDepth 100000 in
set_option maxHeartbeats 4000000 in
theorem m_join_no (V : zS) (c0 c1 : Int32) (hV : BV V) (hno : ¬ ∃ a b : Nat, (a < 3 ∧ c0 = nI a) ∧ (b < 3 ∧ c1 = nI b) ∧ V 0 10 ≠ 1) : PM mX5_join [.ref 0, .int c0, .int c1] (hM V) (fun zr zq => zr = some (.int (nI 0)) ∧ zq = hM V) := by
  refine PM.of (by decide +kernel) (by simp [Value.category]) (Nat.le_of_ble_eq_true rfl) ?_
  refine Wp.iload_n (pc2 := 1) dX5_join_0 rfl rfl ?_
  refine Wp.iconN (pc2 := 2) 0 dX5_join_1 rfl ?_
  refine Wp.iconN (pc2 := 3) 2 dX5_join_2 rfl ?_
  refine Wp.callS (pc2 := 6) kX5_join_81 sX5_in (m_in _ c0 _ _) dX5_join_3 rfl rfl rfl (Nat.le_of_ble_eq_true rfl) ?_
  rintro _ _ ⟨⟨b, rfl, hb⟩, rfl⟩
  refine Wp.ifN_eq (pc2 := 9) 26 dX5_join_6 rfl (by decide) (zb_lt _) (fun c6 => ?_) (fun c6 => ?_)
  · refine Wp.iconN (pc2 := 27) 0 dX5_join_26 rfl ?_
    refine Wp.ret dX5_join_27 rfl rfl ?_
    exact ⟨rfl, rfl⟩
  · obtain ⟨a, ha, rfl⟩ := (rg_in (by decide)).mp (zby hb c6)
    refine Wp.iload_n (pc2 := 10) dX5_join_9 rfl rfl ?_
    refine Wp.iconN (pc2 := 11) 0 dX5_join_10 rfl ?_
    refine Wp.iconN (pc2 := 12) 2 dX5_join_11 rfl ?_
    refine Wp.callS (pc2 := 15) kX5_join_81 sX5_in (m_in _ c1 _ _) dX5_join_12 rfl rfl rfl (Nat.le_of_ble_eq_true rfl) ?_
    rintro _ _ ⟨⟨b, rfl, hb⟩, rfl⟩
    refine Wp.ifN_eq (pc2 := 18) 26 dX5_join_15 rfl (by decide) (zb_lt _) (fun c15 => ?_) (fun c15 => ?_)
    · refine Wp.iconN (pc2 := 27) 0 dX5_join_26 rfl ?_
      refine Wp.ret dX5_join_27 rfl rfl ?_
      exact ⟨rfl, rfl⟩
    · obtain ⟨b1, hb1, rfl⟩ := (rg_in (by decide)).mp (zby hb c15)
      refine Wp.aload_n (pc2 := 19) dX5_join_18 rfl rfl ?_
      refine Wp.getf (pc2 := 22) fX5_89 dX5_join_19 rfl rfl rfl ?_
      refine Wp.iconN (pc2 := 23) 1 dX5_join_22 rfl ?_
      refine Wp.icmpN_ne (pc2 := 26) 28 dX5_join_23 rfl (by decide) (hV.l _ _) (by decide) (fun c23 => ?_) (fun c23 => ?_)
      · exact absurd ⟨a, b1, ⟨ha, rfl⟩, ⟨hb1, rfl⟩, c23⟩ hno
      · refine Wp.iconN (pc2 := 27) 0 dX5_join_26 rfl ?_
        refine Wp.ret dX5_join_27 rfl rfl ?_
        exact ⟨rfl, rfl⟩

set_option maxRecDepth 100000 in
set_option maxHeartbeats 4000000 in
theorem m_stop_ok (V : zS) (hV : BV V) (hs : V 0 10 = 1) : PM mX5_stop [.ref 0] (hM V) (fun zr zq => zr = some (.int (nI (1))) ∧ zq = hM (vs V 0 10 0)) := by
  refine PM.of (by decide +kernel) (by simp [Value.category]) (Nat.le_of_ble_eq_true rfl) ?_
  refine Wp.aload_n (pc2 := 1) dX5_stop_0 rfl rfl ?_
  refine Wp.getf (pc2 := 4) fX5_89 dX5_stop_1 rfl rfl rfl ?_
  refine Wp.iconN (pc2 := 5) 1 dX5_stop_4 rfl ?_
  refine Wp.icmpN_eq (pc2 := 8) 10 dX5_stop_5 rfl (by decide) (hV.l _ _) (by decide) (fun c5 => ?_) (fun c5 => ?_)
  · refine Wp.aload_n (pc2 := 11) dX5_stop_10 rfl rfl ?_
    refine Wp.iconN (pc2 := 12) 0 dX5_stop_11 rfl ?_
    refine Wp.putf (pc2 := 15) gX5_89 dX5_stop_12 rfl rfl (Nat.le_of_ble_eq_true rfl) rfl rfl ?_
    refine Wp.heq (hM_o0_10 _ _) ?_
    refine Wp.iconN (pc2 := 16) 1 dX5_stop_15 rfl ?_
    refine Wp.ret dX5_stop_16 rfl rfl ?_
    exact ⟨rfl, rfl⟩
  · exfalso; omega

set_option maxRecDepth 100000 in
set_option maxHeartbeats 4000000 in
theorem m_stop_no (V : zS) (hV : BV V) (hs : V 0 10 ≠ 1) : PM mX5_stop [.ref 0] (hM V) (fun zr zq => zr = some (.int (nI 0)) ∧ zq = hM V) := by
  refine PM.of (by decide +kernel) (by simp [Value.category]) (Nat.le_of_ble_eq_true rfl) ?_
  refine Wp.aload_n (pc2 := 1) dX5_stop_0 rfl rfl ?_
  refine Wp.getf (pc2 := 4) fX5_89 dX5_stop_1 rfl rfl rfl ?_
  refine Wp.iconN (pc2 := 5) 1 dX5_stop_4 rfl ?_
  refine Wp.icmpN_eq (pc2 := 8) 10 dX5_stop_5 rfl (by decide) (hV.l _ _) (by decide) (fun c5 => ?_) (fun c5 => ?_)
  · exfalso; omega
  · refine Wp.iconN (pc2 := 9) 0 dX5_stop_8 rfl ?_
    refine Wp.ret dX5_stop_9 rfl rfl ?_
    exact ⟨rfl, rfl⟩

theorem zo_in {x : Int32} : (-1 ≤ x ∧ x ≤ nI 1) ↔ ∃ n : Nat, n < 3 ∧ x = zo n := by
  constructor
  · rintro ⟨h1, h2⟩
    rw [Int32.le_iff_toInt_le, show (-1 : Int32).toInt = -1 by decide] at h1
    rw [Int32.le_iff_toInt_le, nI_toInt (by decide)] at h2
    refine ⟨(x.toInt + 1).toNat, by omega, Int32.toInt_inj.mp ?_⟩
    have e : zo (x.toInt + 1).toNat = nI (x.toInt + 1).toNat - nI 1 := rfl
    rw [e, pk_sub_toInt (by omega) (by decide)]; omega
  · rintro ⟨n, hn, rfl⟩
    rcases (show n = 0 ∨ n = 1 ∨ n = 2 by omega) with rfl | rfl | rfl <;> decide

set_option maxRecDepth 100000 in
set_option maxHeartbeats 4000000 in
theorem m_force_ok (V : zS) (n : Nat) (hn : n < 3) : PM mX5_force [.ref 0, .int (zo n)] (hM V) (fun zr zq => zr = some (.int (nI (1))) ∧ zq = hM (vs V 0 9 n)) := by
  refine PM.of (by decide +kernel) (by simp [Value.category]) (Nat.le_of_ble_eq_true rfl) ?_
  refine Wp.iload_n (pc2 := 1) dX5_force_0 rfl rfl ?_
  refine Wp.icon (pc2 := 2) dX5_force_1 rfl (-1) (by decide +kernel) ?_
  refine Wp.iconN (pc2 := 3) 1 dX5_force_2 rfl ?_
  refine Wp.callS (pc2 := 6) kX5_force_81 sX5_in (m_in_t _ _ _ _ (zo_in.mpr ⟨n, hn, rfl⟩)) dX5_force_3 rfl rfl rfl (Nat.le_of_ble_eq_true rfl) ?_
  rintro _ _ ⟨rfl, rfl⟩
  refine Wp.ifN_ne (pc2 := 9) 11 dX5_force_6 rfl (by decide) (by omega) (fun c6 => ?_) (fun c6 => ?_)
  · refine Wp.aload_n (pc2 := 12) dX5_force_11 rfl rfl ?_
    refine Wp.iload_n (pc2 := 13) dX5_force_12 rfl rfl ?_
    refine Wp.putf (pc2 := 16) gX5_38 dX5_force_13 rfl rfl (Nat.le_of_ble_eq_true rfl) rfl rfl ?_
    refine Wp.heq (hM_o0_9 _ _) ?_
    refine Wp.iconN (pc2 := 17) 1 dX5_force_16 rfl ?_
    refine Wp.ret dX5_force_17 rfl rfl ?_
    exact ⟨rfl, rfl⟩
  · exfalso; omega

set_option maxRecDepth 100000 in
set_option maxHeartbeats 4000000 in
theorem m_force_no (V : zS) (x : Int32) (hno : ¬ ∃ n : Nat, n < 3 ∧ x = zo n) : PM mX5_force [.ref 0, .int x] (hM V) (fun zr zq => zr = some (.int (nI 0)) ∧ zq = hM V) := by
  refine PM.of (by decide +kernel) (by simp [Value.category]) (Nat.le_of_ble_eq_true rfl) ?_
  refine Wp.iload_n (pc2 := 1) dX5_force_0 rfl rfl ?_
  refine Wp.icon (pc2 := 2) dX5_force_1 rfl (-1) (by decide +kernel) ?_
  refine Wp.iconN (pc2 := 3) 1 dX5_force_2 rfl ?_
  refine Wp.callS (pc2 := 6) kX5_force_81 sX5_in (m_in _ x _ _) dX5_force_3 rfl rfl rfl (Nat.le_of_ble_eq_true rfl) ?_
  rintro _ _ ⟨⟨b, rfl, hb⟩, rfl⟩
  refine Wp.ifN_ne (pc2 := 9) 11 dX5_force_6 rfl (by decide) (zb_lt _) (fun c6 => ?_) (fun c6 => ?_)
  · exact absurd (zo_in.mp (zby hb c6)) hno
  · refine Wp.iconN (pc2 := 10) 0 dX5_force_9 rfl ?_
    refine Wp.ret dX5_force_10 rfl rfl ?_
    exact ⟨rfl, rfl⟩

set_option maxRecDepth 100000 in
set_option maxHeartbeats 4000000 in
theorem m_ordered_ok (V : zS) (t k : Nat) (hV : BV V) (ht : t < 2) (ha : V 9 t ≤ 4) (hk : k < V 9 t) (hs : V 0 11 ≠ 0) : PM mX5_ordered [.ref 0, .int (nI t), .int (nI k)] (hM V) (fun zr zq => zr = some (.int (nI (V 11 (4 * t + k)))) ∧ zq = hM V) := by
  refine PM.of (by decide +kernel) (by simp [Value.category]) (Nat.le_of_ble_eq_true rfl) ?_
  refine Wp.iload_n (pc2 := 1) dX5_ordered_0 rfl rfl ?_
  refine Wp.callS (pc2 := 4) kX5_ordered_85 sX5_isTable (m_isTable_t _ t ht) dX5_ordered_1 rfl rfl rfl (Nat.le_of_ble_eq_true rfl) ?_
  rintro _ _ ⟨rfl, rfl⟩
  refine Wp.ifN_eq (pc2 := 7) 43 dX5_ordered_4 rfl (by decide) (by omega) (fun c4 => ?_) (fun c4 => ?_)
  · exfalso; omega
  · refine Wp.aload_n (pc2 := 8) dX5_ordered_7 rfl rfl ?_
    refine Wp.getf (pc2 := 11) fX5_96 dX5_ordered_8 rfl rfl rfl ?_
    refine Wp.ifN_eq (pc2 := 14) 43 dX5_ordered_11 rfl (by decide) (hV.l _ _) (fun c11 => ?_) (fun c11 => ?_)
    · exfalso; omega
    · refine Wp.iload_n (pc2 := 15) dX5_ordered_14 rfl rfl ?_
      refine Wp.iconN (pc2 := 16) 0 dX5_ordered_15 rfl ?_
      refine Wp.aload_n (pc2 := 17) dX5_ordered_16 rfl rfl ?_
      refine Wp.getf (pc2 := 20) fX5_41 dX5_ordered_17 rfl rfl rfl ?_
      refine Wp.iload_n (pc2 := 21) dX5_ordered_20 rfl rfl ?_
      refine Wp.ialdN (pc2 := 22) dX5_ordered_21 rfl rfl (by omega) (by decide) ?_
      refine Wp.iconN (pc2 := 23) 1 dX5_ordered_22 rfl ?_
      refine Wp.isub (pc2 := 24) dX5_ordered_23 rfl ?_
      refine Wp.callS (pc2 := 27) kX5_ordered_81 sX5_in (m_in_t _ _ _ _ ((rg_sub (by omega)).mpr ⟨k, hk, rfl⟩)) dX5_ordered_24 rfl rfl rfl (Nat.le_of_ble_eq_true rfl) ?_
      rintro _ _ ⟨rfl, rfl⟩
      refine Wp.ifN_eq (pc2 := 30) 43 dX5_ordered_27 rfl (by decide) (by omega) (fun c27 => ?_) (fun c27 => ?_)
      · exfalso; omega
      · refine Wp.aload_n (pc2 := 31) dX5_ordered_30 rfl rfl ?_
        refine Wp.getf (pc2 := 34) fX5_47 dX5_ordered_31 rfl rfl rfl ?_
        refine Wp.iconN (pc2 := 35) 4 dX5_ordered_34 rfl ?_
        refine Wp.iload_n (pc2 := 36) dX5_ordered_35 rfl rfl ?_
        refine Wp.imulN (pc2 := 37) dX5_ordered_36 rfl  ?_
        refine Wp.iload_n (pc2 := 38) dX5_ordered_37 rfl rfl ?_
        refine Wp.iaddN (pc2 := 39) dX5_ordered_38 rfl  ?_
        refine Wp.ialdN (pc2 := 40) dX5_ordered_39 rfl rfl (by omega) (by decide) ?_
        refine Wp.goto (pc2 := 44) dX5_ordered_40 (by decide) ?_
        refine Wp.ret dX5_ordered_44 rfl rfl ?_
        exact ⟨rfl, rfl⟩

set_option maxRecDepth 100000 in
set_option maxHeartbeats 4000000 in
theorem m_ordered_no (V : zS) (t k : Int32) (hV : BV V) (ha : ∀ t, t < 2 → V 9 t ≤ 4) (hno : ¬ ∃ t' k' : Nat, (t' < 2 ∧ t = nI t') ∧ (k' < V 9 t' ∧ k = nI k') ∧ V 0 11 ≠ 0) : PM mX5_ordered [.ref 0, .int t, .int k] (hM V) (fun zr zq => zr = some (.int (-1)) ∧ zq = hM V) := by
  refine PM.of (by decide +kernel) (by simp [Value.category]) (Nat.le_of_ble_eq_true rfl) ?_
  refine Wp.iload_n (pc2 := 1) dX5_ordered_0 rfl rfl ?_
  refine Wp.callS (pc2 := 4) kX5_ordered_85 sX5_isTable (m_isTable _ t) dX5_ordered_1 rfl rfl rfl (Nat.le_of_ble_eq_true rfl) ?_
  rintro _ _ ⟨⟨b, rfl, hb⟩, rfl⟩
  refine Wp.ifN_eq (pc2 := 7) 43 dX5_ordered_4 rfl (by decide) (zb_lt _) (fun c4 => ?_) (fun c4 => ?_)
  · refine Wp.icon (pc2 := 44) dX5_ordered_43 rfl (-1) (by decide +kernel) ?_
    refine Wp.ret dX5_ordered_44 rfl rfl ?_
    exact ⟨rfl, rfl⟩
  · obtain ⟨t', ht, rfl⟩ := rg_t.mp (zby hb c4)
    have ha1 := ha t' ht
    refine Wp.aload_n (pc2 := 8) dX5_ordered_7 rfl rfl ?_
    refine Wp.getf (pc2 := 11) fX5_96 dX5_ordered_8 rfl rfl rfl ?_
    refine Wp.ifN_eq (pc2 := 14) 43 dX5_ordered_11 rfl (by decide) (hV.l _ _) (fun c11 => ?_) (fun c11 => ?_)
    · refine Wp.icon (pc2 := 44) dX5_ordered_43 rfl (-1) (by decide +kernel) ?_
      refine Wp.ret dX5_ordered_44 rfl rfl ?_
      exact ⟨rfl, rfl⟩
    · refine Wp.iload_n (pc2 := 15) dX5_ordered_14 rfl rfl ?_
      refine Wp.iconN (pc2 := 16) 0 dX5_ordered_15 rfl ?_
      refine Wp.aload_n (pc2 := 17) dX5_ordered_16 rfl rfl ?_
      refine Wp.getf (pc2 := 20) fX5_41 dX5_ordered_17 rfl rfl rfl ?_
      refine Wp.iload_n (pc2 := 21) dX5_ordered_20 rfl rfl ?_
      refine Wp.ialdN (pc2 := 22) dX5_ordered_21 rfl rfl (by omega) (by decide) ?_
      refine Wp.iconN (pc2 := 23) 1 dX5_ordered_22 rfl ?_
      refine Wp.isub (pc2 := 24) dX5_ordered_23 rfl ?_
      refine Wp.callS (pc2 := 27) kX5_ordered_81 sX5_in (m_in _ k _ _) dX5_ordered_24 rfl rfl rfl (Nat.le_of_ble_eq_true rfl) ?_
      rintro _ _ ⟨⟨b, rfl, hb⟩, rfl⟩
      refine Wp.ifN_eq (pc2 := 30) 43 dX5_ordered_27 rfl (by decide) (zb_lt _) (fun c27 => ?_) (fun c27 => ?_)
      · refine Wp.icon (pc2 := 44) dX5_ordered_43 rfl (-1) (by decide +kernel) ?_
        refine Wp.ret dX5_ordered_44 rfl rfl ?_
        exact ⟨rfl, rfl⟩
      · obtain ⟨k1, hk1, rfl⟩ := (rg_sub (by omega)).mp (zby hb c27)
        exact absurd ⟨t', k1, ⟨ht, rfl⟩, ⟨hk1, rfl⟩, c11⟩ hno

set_option maxRecDepth 100000 in
set_option maxHeartbeats 4000000 in
theorem m_where_ok (V : zS) (t k : Nat) (ht : t < 2) (ha : V 1 t ≤ 50) (hk : k < V 1 t) : PM mX5_where [.ref 0, .int (nI t), .int (nI k)] (hM V) (fun zr zq => zr = some (.int (nI (V 18 (50 * t + k)))) ∧ zq = hM V) := by
  refine PM.of (by decide +kernel) (by simp [Value.category]) (Nat.le_of_ble_eq_true rfl) ?_
  refine Wp.iload_n (pc2 := 1) dX5_where_0 rfl rfl ?_
  refine Wp.callS (pc2 := 4) kX5_where_85 sX5_isTable (m_isTable_t _ t ht) dX5_where_1 rfl rfl rfl (Nat.le_of_ble_eq_true rfl) ?_
  rintro _ _ ⟨rfl, rfl⟩
  refine Wp.ifN_eq (pc2 := 7) 37 dX5_where_4 rfl (by decide) (by omega) (fun c4 => ?_) (fun c4 => ?_)
  · exfalso; omega
  · refine Wp.iload_n (pc2 := 8) dX5_where_7 rfl rfl ?_
    refine Wp.iconN (pc2 := 9) 0 dX5_where_8 rfl ?_
    refine Wp.aload_n (pc2 := 10) dX5_where_9 rfl rfl ?_
    refine Wp.getf (pc2 := 13) fX5_7 dX5_where_10 rfl rfl rfl ?_
    refine Wp.iload_n (pc2 := 14) dX5_where_13 rfl rfl ?_
    refine Wp.ialdN (pc2 := 15) dX5_where_14 rfl rfl (by omega) (by decide) ?_
    refine Wp.iconN (pc2 := 16) 1 dX5_where_15 rfl ?_
    refine Wp.isub (pc2 := 17) dX5_where_16 rfl ?_
    refine Wp.callS (pc2 := 20) kX5_where_81 sX5_in (m_in_t _ _ _ _ ((rg_sub (by omega)).mpr ⟨k, hk, rfl⟩)) dX5_where_17 rfl rfl rfl (Nat.le_of_ble_eq_true rfl) ?_
    rintro _ _ ⟨rfl, rfl⟩
    refine Wp.ifN_eq (pc2 := 23) 37 dX5_where_20 rfl (by decide) (by omega) (fun c20 => ?_) (fun c20 => ?_)
    · exfalso; omega
    · refine Wp.aload_n (pc2 := 24) dX5_where_23 rfl rfl ?_
      refine Wp.getf (pc2 := 27) fX5_69 dX5_where_24 rfl rfl rfl ?_
      refine Wp.bipN (pc2 := 29) 50 dX5_where_27 rfl (by decide +kernel) ?_
      refine Wp.iload_n (pc2 := 30) dX5_where_29 rfl rfl ?_
      refine Wp.imulN (pc2 := 31) dX5_where_30 rfl  ?_
      refine Wp.iload_n (pc2 := 32) dX5_where_31 rfl rfl ?_
      refine Wp.iaddN (pc2 := 33) dX5_where_32 rfl  ?_
      refine Wp.ialdN (pc2 := 34) dX5_where_33 rfl rfl (by omega) (by decide) ?_
      refine Wp.goto (pc2 := 38) dX5_where_34 (by decide) ?_
      refine Wp.ret dX5_where_38 rfl rfl ?_
      exact ⟨rfl, rfl⟩

set_option maxRecDepth 100000 in
set_option maxHeartbeats 4000000 in
theorem m_where_no (V : zS) (t k : Int32) (ha : ∀ t, t < 2 → V 1 t ≤ 50) (hno : ¬ ∃ t' k' : Nat, (t' < 2 ∧ t = nI t') ∧ (k' < V 1 t' ∧ k = nI k')) : PM mX5_where [.ref 0, .int t, .int k] (hM V) (fun zr zq => zr = some (.int (-1)) ∧ zq = hM V) := by
  refine PM.of (by decide +kernel) (by simp [Value.category]) (Nat.le_of_ble_eq_true rfl) ?_
  refine Wp.iload_n (pc2 := 1) dX5_where_0 rfl rfl ?_
  refine Wp.callS (pc2 := 4) kX5_where_85 sX5_isTable (m_isTable _ t) dX5_where_1 rfl rfl rfl (Nat.le_of_ble_eq_true rfl) ?_
  rintro _ _ ⟨⟨b, rfl, hb⟩, rfl⟩
  refine Wp.ifN_eq (pc2 := 7) 37 dX5_where_4 rfl (by decide) (zb_lt _) (fun c4 => ?_) (fun c4 => ?_)
  · refine Wp.icon (pc2 := 38) dX5_where_37 rfl (-1) (by decide +kernel) ?_
    refine Wp.ret dX5_where_38 rfl rfl ?_
    exact ⟨rfl, rfl⟩
  · obtain ⟨t', ht, rfl⟩ := rg_t.mp (zby hb c4)
    have ha1 := ha t' ht
    refine Wp.iload_n (pc2 := 8) dX5_where_7 rfl rfl ?_
    refine Wp.iconN (pc2 := 9) 0 dX5_where_8 rfl ?_
    refine Wp.aload_n (pc2 := 10) dX5_where_9 rfl rfl ?_
    refine Wp.getf (pc2 := 13) fX5_7 dX5_where_10 rfl rfl rfl ?_
    refine Wp.iload_n (pc2 := 14) dX5_where_13 rfl rfl ?_
    refine Wp.ialdN (pc2 := 15) dX5_where_14 rfl rfl (by omega) (by decide) ?_
    refine Wp.iconN (pc2 := 16) 1 dX5_where_15 rfl ?_
    refine Wp.isub (pc2 := 17) dX5_where_16 rfl ?_
    refine Wp.callS (pc2 := 20) kX5_where_81 sX5_in (m_in _ k _ _) dX5_where_17 rfl rfl rfl (Nat.le_of_ble_eq_true rfl) ?_
    rintro _ _ ⟨⟨b, rfl, hb⟩, rfl⟩
    refine Wp.ifN_eq (pc2 := 23) 37 dX5_where_20 rfl (by decide) (zb_lt _) (fun c20 => ?_) (fun c20 => ?_)
    · refine Wp.icon (pc2 := 38) dX5_where_37 rfl (-1) (by decide +kernel) ?_
      refine Wp.ret dX5_where_38 rfl rfl ?_
      exact ⟨rfl, rfl⟩
    · obtain ⟨k1, hk1, rfl⟩ := (rg_sub (by omega)).mp (zby hb c20)
      exact absurd ⟨t', k1, ⟨ht, rfl⟩, ⟨hk1, rfl⟩⟩ hno

def mGiven (V : zS) (i t : Nat) : Nat := if t = 0 then V 21 i / 50 else V 21 i % 50

set_option maxRecDepth 100000 in
set_option maxHeartbeats 4000000 in
theorem m_given_ok (V : zS) (i t : Nat) (hV : BV V) (ht : t < 2) (ha : V 0 26 ≤ 2500) (hk : i < V 0 26) : PM mX5_given [.ref 0, .int (nI i), .int (nI t)] (hM V) (fun zr zq => zr = some (.int (nI (mGiven V i t))) ∧ zq = hM V) := by
  refine PM.of (by decide +kernel) (by simp [Value.category]) (Nat.le_of_ble_eq_true rfl) ?_
  refine Wp.iload_n (pc2 := 1) dX5_given_0 rfl rfl ?_
  refine Wp.iconN (pc2 := 2) 0 dX5_given_1 rfl ?_
  refine Wp.aload_n (pc2 := 3) dX5_given_2 rfl rfl ?_
  refine Wp.getf (pc2 := 6) fX5_103 dX5_given_3 rfl rfl rfl ?_
  refine Wp.iconN (pc2 := 7) 1 dX5_given_6 rfl ?_
  refine Wp.isub (pc2 := 8) dX5_given_7 rfl ?_
  refine Wp.callS (pc2 := 11) kX5_given_81 sX5_in (m_in_t _ _ _ _ ((rg_sub (by omega)).mpr ⟨i, hk, rfl⟩)) dX5_given_8 rfl rfl rfl (Nat.le_of_ble_eq_true rfl) ?_
  rintro _ _ ⟨rfl, rfl⟩
  refine Wp.ifN_eq (pc2 := 14) 21 dX5_given_11 rfl (by decide) (by omega) (fun c11 => ?_) (fun c11 => ?_)
  · exfalso; omega
  · refine Wp.iload_n (pc2 := 15) dX5_given_14 rfl rfl ?_
    refine Wp.callS (pc2 := 18) kX5_given_85 sX5_isTable (m_isTable_t _ t ht) dX5_given_15 rfl rfl rfl (Nat.le_of_ble_eq_true rfl) ?_
    rintro _ _ ⟨rfl, rfl⟩
    refine Wp.ifN_ne (pc2 := 21) 23 dX5_given_18 rfl (by decide) (by omega) (fun c18 => ?_) (fun c18 => ?_)
    · refine Wp.iload_n (pc2 := 24) dX5_given_23 rfl rfl ?_
      refine Wp.ifN_ne (pc2 := 27) 39 dX5_given_24 rfl (by decide) (by omega) (fun c24 => ?_) (fun c24 => ?_)
      · refine Wp.aload_n (pc2 := 40) dX5_given_39 rfl rfl ?_
        refine Wp.getf (pc2 := 43) fX5_78 dX5_given_40 rfl rfl rfl ?_
        refine Wp.iload_n (pc2 := 44) dX5_given_43 rfl rfl ?_
        refine Wp.ialdN (pc2 := 45) dX5_given_44 rfl rfl (by omega) (by decide) ?_
        refine Wp.bipN (pc2 := 47) 50 dX5_given_45 rfl (by decide +kernel) ?_
        refine Wp.iremN (pc2 := 48) dX5_given_47 rfl (hV.l _ _) (by decide) (by decide) ?_
        refine Wp.ret dX5_given_48 rfl rfl ?_
        unfold mGiven
        first
          | (rw [if_pos c24]; exact ⟨rfl, rfl⟩)
          | (rw [if_neg c24]; exact ⟨rfl, rfl⟩)
      · refine Wp.aload_n (pc2 := 28) dX5_given_27 rfl rfl ?_
        refine Wp.getf (pc2 := 31) fX5_78 dX5_given_28 rfl rfl rfl ?_
        refine Wp.iload_n (pc2 := 32) dX5_given_31 rfl rfl ?_
        refine Wp.ialdN (pc2 := 33) dX5_given_32 rfl rfl (by omega) (by decide) ?_
        refine Wp.bipN (pc2 := 35) 50 dX5_given_33 rfl (by decide +kernel) ?_
        refine Wp.idivN (pc2 := 36) dX5_given_35 rfl (hV.l _ _) (by decide) (by decide) ?_
        refine Wp.goto (pc2 := 48) dX5_given_36 (by decide) ?_
        refine Wp.ret dX5_given_48 rfl rfl ?_
        unfold mGiven
        first
          | (rw [if_pos c24]; exact ⟨rfl, rfl⟩)
          | (rw [if_neg c24]; exact ⟨rfl, rfl⟩)
    · exfalso; omega

set_option maxRecDepth 100000 in
set_option maxHeartbeats 4000000 in
theorem m_given_no (V : zS) (i t : Int32) (ha : V 0 26 ≤ 2500) (hno : ¬ ∃ i' t' : Nat, (i' < V 0 26 ∧ i = nI i') ∧ (t' < 2 ∧ t = nI t')) : PM mX5_given [.ref 0, .int i, .int t] (hM V) (fun zr zq => zr = some (.int (-1)) ∧ zq = hM V) := by
  refine PM.of (by decide +kernel) (by simp [Value.category]) (Nat.le_of_ble_eq_true rfl) ?_
  refine Wp.iload_n (pc2 := 1) dX5_given_0 rfl rfl ?_
  refine Wp.iconN (pc2 := 2) 0 dX5_given_1 rfl ?_
  refine Wp.aload_n (pc2 := 3) dX5_given_2 rfl rfl ?_
  refine Wp.getf (pc2 := 6) fX5_103 dX5_given_3 rfl rfl rfl ?_
  refine Wp.iconN (pc2 := 7) 1 dX5_given_6 rfl ?_
  refine Wp.isub (pc2 := 8) dX5_given_7 rfl ?_
  refine Wp.callS (pc2 := 11) kX5_given_81 sX5_in (m_in _ i _ _) dX5_given_8 rfl rfl rfl (Nat.le_of_ble_eq_true rfl) ?_
  rintro _ _ ⟨⟨b, rfl, hb⟩, rfl⟩
  refine Wp.ifN_eq (pc2 := 14) 21 dX5_given_11 rfl (by decide) (zb_lt _) (fun c11 => ?_) (fun c11 => ?_)
  · refine Wp.icon (pc2 := 22) dX5_given_21 rfl (-1) (by decide +kernel) ?_
    refine Wp.ret dX5_given_22 rfl rfl ?_
    exact ⟨rfl, rfl⟩
  · obtain ⟨i1, hi1, rfl⟩ := (rg_sub (by omega)).mp (zby hb c11)
    refine Wp.iload_n (pc2 := 15) dX5_given_14 rfl rfl ?_
    refine Wp.callS (pc2 := 18) kX5_given_85 sX5_isTable (m_isTable _ t) dX5_given_15 rfl rfl rfl (Nat.le_of_ble_eq_true rfl) ?_
    rintro _ _ ⟨⟨b, rfl, hb⟩, rfl⟩
    refine Wp.ifN_ne (pc2 := 21) 23 dX5_given_18 rfl (by decide) (zb_lt _) (fun c18 => ?_) (fun c18 => ?_)
    · obtain ⟨t1, ht1, rfl⟩ := rg_t.mp (zby hb c18)
      exact absurd ⟨i1, t1, ⟨hi1, rfl⟩, ⟨ht1, rfl⟩⟩ hno
    · refine Wp.icon (pc2 := 22) dX5_given_21 rfl (-1) (by decide +kernel) ?_
      refine Wp.ret dX5_given_22 rfl rfl ?_
      exact ⟨rfl, rfl⟩

set_option maxRecDepth 100000 in
set_option maxHeartbeats 4000000 in
theorem m_cost_ok (V : zS) (t : Nat) (ht : t < 2) : PM mX5_cost [.ref 0, .int (nI t)] (hM V) (fun zr zq => zr = some (.int (nI (V 15 t))) ∧ zq = hM V) := by
  refine PM.of (by decide +kernel) (by simp [Value.category]) (Nat.le_of_ble_eq_true rfl) ?_
  refine Wp.iload_n (pc2 := 1) dX5_cost_0 rfl rfl ?_
  refine Wp.callS (pc2 := 4) kX5_cost_85 sX5_isTable (m_isTable_t _ t ht) dX5_cost_1 rfl rfl rfl (Nat.le_of_ble_eq_true rfl) ?_
  rintro _ _ ⟨rfl, rfl⟩
  refine Wp.ifN_eq (pc2 := 7) 16 dX5_cost_4 rfl (by decide) (by omega) (fun c4 => ?_) (fun c4 => ?_)
  · exfalso; omega
  · refine Wp.aload_n (pc2 := 8) dX5_cost_7 rfl rfl ?_
    refine Wp.getf (pc2 := 11) fX5_60 dX5_cost_8 rfl rfl rfl ?_
    refine Wp.iload_n (pc2 := 12) dX5_cost_11 rfl rfl ?_
    refine Wp.ialdN (pc2 := 13) dX5_cost_12 rfl rfl (by omega) (by decide) ?_
    refine Wp.goto (pc2 := 17) dX5_cost_13 (by decide) ?_
    refine Wp.ret dX5_cost_17 rfl rfl ?_
    exact ⟨rfl, rfl⟩

set_option maxRecDepth 100000 in
set_option maxHeartbeats 4000000 in
theorem m_cost_no (V : zS) (t : Int32) (hno : ¬ rg t 2) : PM mX5_cost [.ref 0, .int t] (hM V) (fun zr zq => zr = some (.int (-1)) ∧ zq = hM V) := by
  refine PM.of (by decide +kernel) (by simp [Value.category]) (Nat.le_of_ble_eq_true rfl) ?_
  refine Wp.iload_n (pc2 := 1) dX5_cost_0 rfl rfl ?_
  refine Wp.callS (pc2 := 4) kX5_cost_85 sX5_isTable (m_isTable _ t) dX5_cost_1 rfl rfl rfl (Nat.le_of_ble_eq_true rfl) ?_
  rintro _ _ ⟨⟨b, rfl, hb⟩, rfl⟩
  refine Wp.ifN_eq (pc2 := 7) 16 dX5_cost_4 rfl (by decide) (zb_lt _) (fun c4 => ?_) (fun c4 => ?_)
  · refine Wp.icon (pc2 := 17) dX5_cost_16 rfl (-1) (by decide +kernel) ?_
    refine Wp.ret dX5_cost_17 rfl rfl ?_
    exact ⟨rfl, rfl⟩
  · exact absurd (rg_t.mp (zby hb c4)) hno
end
section
theorem BV.up {V : zS} (h : BV V) {k i x : Nat} (hx : x < 2 ^ 20) : BV (vs V k i x) := by
  intro a b
  unfold vs
  split
  · split
    · exact hx
    · exact h a b
  · exact h a b
theorem vs_same (V : zS) (k i x : Nat) : vs V k i x k i = x := by simp [vs]
theorem vs_k (V : zS) {k i x a b : Nat} (h : a ≠ k) : vs V k i x a b = V a b := by simp [vs, h]
theorem vs_i (V : zS) {k i x b : Nat} (h : b ≠ i) : vs V k i x k b = V k b := by simp [vs, h]
theorem vs_at (V : zS) (k i x b : Nat) : vs V k i x k b = if b = i then x else V k b := by simp [vs]
/-- zo among numbers -/
theorem zo_toInt {n : Nat} (h : n < 2 ^ 30) : (zo n).toInt = (n : Int) - 1 := by
  have e : zo n = nI n - nI 1 := rfl
  rw [e, pk_sub_toInt h (by decide)]; rfl
theorem zo_s (n : Nat) : zo (n + 1) = nI n := nI_pred n
theorem zo_m1 {n : Nat} (h : n < 2 ^ 30) : zo n = -1 ↔ n = 0 := by
  rw [← Int32.toInt_inj, zo_toInt h, show (-1 : Int32).toInt = -1 by decide]; omega
theorem zo_le {c b : Nat} (hc : c < 2 ^ 30) (hb : b < 2 ^ 30) : nI c ≤ zo b ↔ c < b := by
  rw [Int32.le_iff_toInt_le, nI_toInt (by omega), zo_toInt hb]; omega
theorem nI_m1 {n : Nat} (h : n < 2 ^ 31) : ¬ nI n = -1 := by
  rw [← Int32.toInt_inj, nI_toInt h, show (-1 : Int32).toInt = -1 by decide]; omega

def mTold (V : zS) (t k w : Nat) : Nat := if w = 0 then V 13 (4 * t + k) else if w = 1 then V 14 (4 * t + k) else V 7 (4 * t + k)

set_option maxRecDepth 100000 in
set_option maxHeartbeats 4000000 in
theorem m_told_ok (V : zS) (t k w : Nat) (ht : t < 2) (ha : V 3 t ≤ 4) (hk : k < V 3 t) (hw : w < 3) : PM mX5_told [.ref 0, .int (nI t), .int (nI k), .int (nI w)] (hM V) (fun zr zq => zr = some (.int (nI (mTold V t k w))) ∧ zq = hM V) := by
  refine PM.of (by decide +kernel) (by simp [Value.category]) (Nat.le_of_ble_eq_true rfl) ?_
  refine Wp.iload_n (pc2 := 1) dX5_told_0 rfl rfl ?_
  refine Wp.callS (pc2 := 4) kX5_told_85 sX5_isTable (m_isTable_t _ t ht) dX5_told_1 rfl rfl rfl (Nat.le_of_ble_eq_true rfl) ?_
  rintro _ _ ⟨rfl, rfl⟩
  refine Wp.ifN_eq (pc2 := 7) 23 dX5_told_4 rfl (by decide) (by omega) (fun c4 => ?_) (fun c4 => ?_)
  · exfalso; omega
  · refine Wp.iload_n (pc2 := 8) dX5_told_7 rfl rfl ?_
    refine Wp.iconN (pc2 := 9) 0 dX5_told_8 rfl ?_
    refine Wp.aload_n (pc2 := 10) dX5_told_9 rfl rfl ?_
    refine Wp.getf (pc2 := 13) fX5_16 dX5_told_10 rfl rfl rfl ?_
    refine Wp.iload_n (pc2 := 14) dX5_told_13 rfl rfl ?_
    refine Wp.ialdN (pc2 := 15) dX5_told_14 rfl rfl (by omega) (by decide) ?_
    refine Wp.iconN (pc2 := 16) 1 dX5_told_15 rfl ?_
    refine Wp.isub (pc2 := 17) dX5_told_16 rfl ?_
    refine Wp.callS (pc2 := 20) kX5_told_81 sX5_in (m_in_t _ _ _ _ ((rg_sub (by omega)).mpr ⟨k, hk, rfl⟩)) dX5_told_17 rfl rfl rfl (Nat.le_of_ble_eq_true rfl) ?_
    rintro _ _ ⟨rfl, rfl⟩
    refine Wp.ifN_ne (pc2 := 23) 25 dX5_told_20 rfl (by decide) (by omega) (fun c20 => ?_) (fun c20 => ?_)
    · refine Wp.iconN (pc2 := 26) 4 dX5_told_25 rfl ?_
      refine Wp.iload_n (pc2 := 27) dX5_told_26 rfl rfl ?_
      refine Wp.imulN (pc2 := 28) dX5_told_27 rfl  ?_
      refine Wp.iload_n (pc2 := 29) dX5_told_28 rfl rfl ?_
      refine Wp.iaddN (pc2 := 30) dX5_told_29 rfl  ?_
      refine Wp.istore (pc2 := 32) dX5_told_30 rfl (by decide) rfl ?_
      refine Wp.iload_n (pc2 := 33) dX5_told_32 rfl rfl ?_
      rcases (show w = 0 ∨ w = 1 ∨ w = 2 by omega) with rfl | rfl | rfl
      · refine Wp.tableIn (pc2 := 60) dX5_told_33 (by decide) (by decide) rfl (by decide) ?_
        refine Wp.aload_n (pc2 := 61) dX5_told_60 rfl rfl ?_
        refine Wp.getf (pc2 := 64) fX5_54 dX5_told_61 rfl rfl rfl ?_
        refine Wp.iload (pc2 := 66) dX5_told_64 rfl rfl ?_
        refine Wp.ialdN (pc2 := 67) dX5_told_66 rfl rfl (by omega) (by decide) ?_
        refine Wp.ret dX5_told_67 rfl rfl ?_
        exact ⟨rfl, rfl⟩
      · refine Wp.tableIn (pc2 := 68) dX5_told_33 (by decide) (by decide) rfl (by decide) ?_
        refine Wp.aload_n (pc2 := 69) dX5_told_68 rfl rfl ?_
        refine Wp.getf (pc2 := 72) fX5_57 dX5_told_69 rfl rfl rfl ?_
        refine Wp.iload (pc2 := 74) dX5_told_72 rfl rfl ?_
        refine Wp.ialdN (pc2 := 75) dX5_told_74 rfl rfl (by omega) (by decide) ?_
        refine Wp.ret dX5_told_75 rfl rfl ?_
        exact ⟨rfl, rfl⟩
      · refine Wp.tableIn (pc2 := 76) dX5_told_33 (by decide) (by decide) rfl (by decide) ?_
        refine Wp.aload_n (pc2 := 77) dX5_told_76 rfl rfl ?_
        refine Wp.getf (pc2 := 80) fX5_28 dX5_told_77 rfl rfl rfl ?_
        refine Wp.iload (pc2 := 82) dX5_told_80 rfl rfl ?_
        refine Wp.ialdN (pc2 := 83) dX5_told_82 rfl rfl (by omega) (by decide) ?_
        refine Wp.ret dX5_told_83 rfl rfl ?_
        exact ⟨rfl, rfl⟩
    · exfalso; omega

set_option maxRecDepth 100000 in
set_option maxHeartbeats 4000000 in
theorem m_told_no (V : zS) (t k w : Int32) (ha : ∀ t, t < 2 → V 3 t ≤ 4) (hno : ¬ ∃ t' k' w' : Nat, (t' < 2 ∧ t = nI t') ∧ (k' < V 3 t' ∧ k = nI k') ∧ (w' < 3 ∧ w = nI w')) : PM mX5_told [.ref 0, .int t, .int k, .int w] (hM V) (fun zr zq => zr = some (.int (-1)) ∧ zq = hM V) := by
  refine PM.of (by decide +kernel) (by simp [Value.category]) (Nat.le_of_ble_eq_true rfl) ?_
  refine Wp.iload_n (pc2 := 1) dX5_told_0 rfl rfl ?_
  refine Wp.callS (pc2 := 4) kX5_told_85 sX5_isTable (m_isTable _ t) dX5_told_1 rfl rfl rfl (Nat.le_of_ble_eq_true rfl) ?_
  rintro _ _ ⟨⟨b, rfl, hb⟩, rfl⟩
  refine Wp.ifN_eq (pc2 := 7) 23 dX5_told_4 rfl (by decide) (zb_lt _) (fun c4 => ?_) (fun c4 => ?_)
  · refine Wp.icon (pc2 := 24) dX5_told_23 rfl (-1) (by decide +kernel) ?_
    refine Wp.ret dX5_told_24 rfl rfl ?_
    exact ⟨rfl, rfl⟩
  · obtain ⟨t', ht, rfl⟩ := rg_t.mp (zby hb c4)
    have ha1 := ha t' ht
    refine Wp.iload_n (pc2 := 8) dX5_told_7 rfl rfl ?_
    refine Wp.iconN (pc2 := 9) 0 dX5_told_8 rfl ?_
    refine Wp.aload_n (pc2 := 10) dX5_told_9 rfl rfl ?_
    refine Wp.getf (pc2 := 13) fX5_16 dX5_told_10 rfl rfl rfl ?_
    refine Wp.iload_n (pc2 := 14) dX5_told_13 rfl rfl ?_
    refine Wp.ialdN (pc2 := 15) dX5_told_14 rfl rfl (by omega) (by decide) ?_
    refine Wp.iconN (pc2 := 16) 1 dX5_told_15 rfl ?_
    refine Wp.isub (pc2 := 17) dX5_told_16 rfl ?_
    refine Wp.callS (pc2 := 20) kX5_told_81 sX5_in (m_in _ k _ _) dX5_told_17 rfl rfl rfl (Nat.le_of_ble_eq_true rfl) ?_
    rintro _ _ ⟨⟨b, rfl, hb⟩, rfl⟩
    refine Wp.ifN_ne (pc2 := 23) 25 dX5_told_20 rfl (by decide) (zb_lt _) (fun c20 => ?_) (fun c20 => ?_)
    · obtain ⟨k1, hk1, rfl⟩ := (rg_sub (by omega)).mp (zby hb c20)
      refine Wp.iconN (pc2 := 26) 4 dX5_told_25 rfl ?_
      refine Wp.iload_n (pc2 := 27) dX5_told_26 rfl rfl ?_
      refine Wp.imulN (pc2 := 28) dX5_told_27 rfl  ?_
      refine Wp.iload_n (pc2 := 29) dX5_told_28 rfl rfl ?_
      refine Wp.iaddN (pc2 := 30) dX5_told_29 rfl  ?_
      refine Wp.istore (pc2 := 32) dX5_told_30 rfl (by decide) rfl ?_
      refine Wp.iload_n (pc2 := 33) dX5_told_32 rfl rfl ?_
      have hw : w.toInt < 0 ∨ 2 < w.toInt := by
        rcases Classical.em (w.toInt < 0 ∨ 2 < w.toInt) with q | q
        · exact q
        · exact absurd ⟨t', k1, w.toInt.toNat, ⟨ht, rfl⟩, ⟨hk1, rfl⟩, by omega, Int32.toInt_inj.mp (by rw [nI_toInt (by omega)]; omega)⟩ hno
      refine Wp.tableOut (pc2 := 84) dX5_told_33 hw (by decide) ?_
      refine Wp.icon (pc2 := 85) dX5_told_84 rfl (-1) (by decide +kernel) ?_
      refine Wp.ret dX5_told_85 rfl rfl ?_
      exact ⟨rfl, rfl⟩
    · refine Wp.icon (pc2 := 24) dX5_told_23 rfl (-1) (by decide +kernel) ?_
      refine Wp.ret dX5_told_24 rfl rfl ?_
      exact ⟨rfl, rfl⟩

/-- how many rows are in memory -/
def cntM (V : zS) : Nat → Nat
  | 0 => 0
  | n + 1 => cntM V n + (if V 18 n = 2 then 1 else 0)
theorem cntM_le (V : zS) : ∀ n, cntM V n ≤ n
  | 0 => Nat.le_refl 0
  | n + 1 => by
    have := cntM_le V n
    unfold cntM
    split <;> omega

set_option maxRecDepth 100000 in
set_option maxHeartbeats 4000000 in
theorem m_inMemory_l (V : zS) (hV : BV V) : ∀ (n k : Nat), k ≤ 100 → 100 < k + n → Wp mX5_inMemory (fun zr zq => zr = some (.int (nI (cntM V 100))) ∧ zq = hM V) 4 [.ref 0, .int (nI (cntM V k)), .int (nI k)] [] (hM V) := by
  intro n
  induction n with
  | zero => intro k h1 h2; omega
  | succ n ih =>
    intro k h1 h2
    refine Wp.iload_n (pc2 := 5) dX5_inMemory_4 rfl rfl ?_
    refine Wp.bipN (pc2 := 7) 100 dX5_inMemory_5 rfl (by decide +kernel) ?_
    refine Wp.icmpN_ge (pc2 := 10) 34 dX5_inMemory_7 rfl (by decide) (by omega) (by omega) (fun c7 => ?_) (fun c7 => ?_)
    · refine Wp.iload_n (pc2 := 35) dX5_inMemory_34 rfl rfl ?_
      refine Wp.ret dX5_inMemory_35 rfl rfl ?_
      have e : k = 100 := by omega
      subst e
      exact ⟨rfl, rfl⟩
    · refine Wp.iload_n (pc2 := 11) dX5_inMemory_10 rfl rfl ?_
      refine Wp.aload_n (pc2 := 12) dX5_inMemory_11 rfl rfl ?_
      refine Wp.getf (pc2 := 15) fX5_69 dX5_inMemory_12 rfl rfl rfl ?_
      refine Wp.iload_n (pc2 := 16) dX5_inMemory_15 rfl rfl ?_
      refine Wp.ialdN (pc2 := 17) dX5_inMemory_16 rfl rfl (by omega) (by decide) ?_
      refine Wp.iconN (pc2 := 18) 2 dX5_inMemory_17 rfl ?_
      refine Wp.icmpN_ne (pc2 := 21) 25 dX5_inMemory_18 rfl (by decide) (hV.l _ _) (by decide) (fun c18 => ?_) (fun c18 => ?_)
      · refine Wp.iconN (pc2 := 26) 0 dX5_inMemory_25 rfl ?_
        refine Wp.iaddN (pc2 := 27) dX5_inMemory_26 rfl  ?_
        refine Wp.istore_n (pc2 := 28) dX5_inMemory_27 rfl (by decide) rfl ?_
        refine Wp.iincN (pc2 := 31) dX5_inMemory_28 rfl rfl (by decide) rfl ?_
        refine Wp.goto (pc2 := 4) dX5_inMemory_31 (by decide) ?_
        refine Wp.leq (L' := [.ref 0, .int (nI (cntM V (k + 1))), .int (nI (k + 1))]) ?_ (ih (k + 1) (by omega) (by omega))
        first
          | (have e : cntM V (k + 1) = cntM V k + 1 := by (show _ + _ = _; rw [if_pos c18])
             rw [e]; rfl)
          | (have e : cntM V (k + 1) = cntM V k + 0 := by (show _ + _ = _; rw [if_neg c18])
             rw [e]; rfl)
      · refine Wp.iconN (pc2 := 22) 1 dX5_inMemory_21 rfl ?_
        refine Wp.goto (pc2 := 26) dX5_inMemory_22 (by decide) ?_
        refine Wp.iaddN (pc2 := 27) dX5_inMemory_26 rfl  ?_
        refine Wp.istore_n (pc2 := 28) dX5_inMemory_27 rfl (by decide) rfl ?_
        refine Wp.iincN (pc2 := 31) dX5_inMemory_28 rfl rfl (by decide) rfl ?_
        refine Wp.goto (pc2 := 4) dX5_inMemory_31 (by decide) ?_
        refine Wp.leq (L' := [.ref 0, .int (nI (cntM V (k + 1))), .int (nI (k + 1))]) ?_ (ih (k + 1) (by omega) (by omega))
        first
          | (have e : cntM V (k + 1) = cntM V k + 1 := by (show _ + _ = _; rw [if_pos c18])
             rw [e]; rfl)
          | (have e : cntM V (k + 1) = cntM V k + 0 := by (show _ + _ = _; rw [if_neg c18])
             rw [e]; rfl)

set_option maxRecDepth 100000 in
set_option maxHeartbeats 4000000 in
theorem m_inMemory (V : zS) (hV : BV V) : PM mX5_inMemory [.ref 0] (hM V) (fun zr zq => zr = some (.int (nI (cntM V 100))) ∧ zq = hM V) := by
  refine PM.of (by decide +kernel) (by simp [Value.category]) (Nat.le_of_ble_eq_true rfl) ?_
  refine Wp.iconN (pc2 := 1) 0 dX5_inMemory_0 rfl ?_
  refine Wp.istore_n (pc2 := 2) dX5_inMemory_1 rfl (by decide) rfl ?_
  refine Wp.iconN (pc2 := 3) 0 dX5_inMemory_2 rfl ?_
  refine Wp.istore_n (pc2 := 4) dX5_inMemory_3 rfl (by decide) rfl ?_
  exact m_inMemory_l V hV 101 0 (by omega) (by omega)

def mCount (V : zS) (w : Nat) : Nat := if w = 0 then V 0 10 else if w = 1 then V 0 27 else if w = 2 then V 0 26 else if w = 3 then cntM V 100 else if w = 4 then V 0 28 else if w = 5 then V 10 0 else if w = 6 then V 10 1 else if w = 7 then V 0 30 else if w = 8 then V 0 31 else V 0 8

set_option maxRecDepth 100000 in
set_option maxHeartbeats 4000000 in
theorem m_count_ok (V : zS) (w : Nat) (hV : BV V) (hw : w < 10) : PM mX5_count [.ref 0, .int (nI w)] (hM V) (fun zr zq => zr = some (.int (nI (mCount V w))) ∧ zq = hM V) := by
  refine PM.of (by decide +kernel) (by simp [Value.category]) (Nat.le_of_ble_eq_true rfl) ?_
  refine Wp.iload_n (pc2 := 1) dX5_count_0 rfl rfl ?_
  rcases (show w = 0 ∨ w = 1 ∨ w = 2 ∨ w = 3 ∨ w = 4 ∨ w = 5 ∨ w = 6 ∨ w = 7 ∨ w = 8 ∨ w = 9 by omega) with rfl | rfl | rfl | rfl | rfl | rfl | rfl | rfl | rfl | rfl
  · refine Wp.tableIn (pc2 := 56) dX5_count_1 (by decide) (by decide) rfl (by decide) ?_
    refine Wp.aload_n (pc2 := 57) dX5_count_56 rfl rfl ?_
    refine Wp.getf (pc2 := 60) fX5_89 dX5_count_57 rfl rfl rfl ?_
    refine Wp.ret dX5_count_60 rfl rfl ?_
    exact ⟨rfl, rfl⟩
  · refine Wp.tableIn (pc2 := 61) dX5_count_1 (by decide) (by decide) rfl (by decide) ?_
    refine Wp.aload_n (pc2 := 62) dX5_count_61 rfl rfl ?_
    refine Wp.getf (pc2 := 65) fX5_106 dX5_count_62 rfl rfl rfl ?_
    refine Wp.ret dX5_count_65 rfl rfl ?_
    exact ⟨rfl, rfl⟩
  · refine Wp.tableIn (pc2 := 66) dX5_count_1 (by decide) (by decide) rfl (by decide) ?_
    refine Wp.aload_n (pc2 := 67) dX5_count_66 rfl rfl ?_
    refine Wp.getf (pc2 := 70) fX5_103 dX5_count_67 rfl rfl rfl ?_
    refine Wp.ret dX5_count_70 rfl rfl ?_
    exact ⟨rfl, rfl⟩
  · refine Wp.tableIn (pc2 := 71) dX5_count_1 (by decide) (by decide) rfl (by decide) ?_
    refine Wp.aload_n (pc2 := 72) dX5_count_71 rfl rfl ?_
    refine Wp.callV (pc2 := 75) kX5_count_155 vX5_inMemory (m_inMemory V hV) dX5_count_72 rfl rfl rfl rfl rfl (Nat.le_of_ble_eq_true rfl) ?_
    rintro _ _ ⟨rfl, rfl⟩
    refine Wp.ret dX5_count_75 rfl rfl ?_
    exact ⟨rfl, rfl⟩
  · refine Wp.tableIn (pc2 := 76) dX5_count_1 (by decide) (by decide) rfl (by decide) ?_
    refine Wp.aload_n (pc2 := 77) dX5_count_76 rfl rfl ?_
    refine Wp.getf (pc2 := 80) fX5_109 dX5_count_77 rfl rfl rfl ?_
    refine Wp.ret dX5_count_80 rfl rfl ?_
    exact ⟨rfl, rfl⟩
  · refine Wp.tableIn (pc2 := 81) dX5_count_1 (by decide) (by decide) rfl (by decide) ?_
    refine Wp.aload_n (pc2 := 82) dX5_count_81 rfl rfl ?_
    refine Wp.getf (pc2 := 85) fX5_44 dX5_count_82 rfl rfl rfl ?_
    refine Wp.iconN (pc2 := 86) 0 dX5_count_85 rfl ?_
    refine Wp.ialdN (pc2 := 87) dX5_count_86 rfl rfl (by omega) (by decide) ?_
    refine Wp.ret dX5_count_87 rfl rfl ?_
    exact ⟨rfl, rfl⟩
  · refine Wp.tableIn (pc2 := 88) dX5_count_1 (by decide) (by decide) rfl (by decide) ?_
    refine Wp.aload_n (pc2 := 89) dX5_count_88 rfl rfl ?_
    refine Wp.getf (pc2 := 92) fX5_44 dX5_count_89 rfl rfl rfl ?_
    refine Wp.iconN (pc2 := 93) 1 dX5_count_92 rfl ?_
    refine Wp.ialdN (pc2 := 94) dX5_count_93 rfl rfl (by omega) (by decide) ?_
    refine Wp.ret dX5_count_94 rfl rfl ?_
    exact ⟨rfl, rfl⟩
  · refine Wp.tableIn (pc2 := 95) dX5_count_1 (by decide) (by decide) rfl (by decide) ?_
    refine Wp.aload_n (pc2 := 96) dX5_count_95 rfl rfl ?_
    refine Wp.getf (pc2 := 99) fX5_115 dX5_count_96 rfl rfl rfl ?_
    refine Wp.ret dX5_count_99 rfl rfl ?_
    exact ⟨rfl, rfl⟩
  · refine Wp.tableIn (pc2 := 100) dX5_count_1 (by decide) (by decide) rfl (by decide) ?_
    refine Wp.aload_n (pc2 := 101) dX5_count_100 rfl rfl ?_
    refine Wp.getf (pc2 := 104) fX5_118 dX5_count_101 rfl rfl rfl ?_
    refine Wp.ret dX5_count_104 rfl rfl ?_
    exact ⟨rfl, rfl⟩
  · refine Wp.tableIn (pc2 := 105) dX5_count_1 (by decide) (by decide) rfl (by decide) ?_
    refine Wp.aload_n (pc2 := 106) dX5_count_105 rfl rfl ?_
    refine Wp.getf (pc2 := 109) fX5_34 dX5_count_106 rfl rfl rfl ?_
    refine Wp.ret dX5_count_109 rfl rfl ?_
    exact ⟨rfl, rfl⟩

set_option maxRecDepth 100000 in
set_option maxHeartbeats 4000000 in
theorem m_count_no (V : zS) (w : Int32) (hno : ¬ rg w 10) : PM mX5_count [.ref 0, .int w] (hM V) (fun zr zq => zr = some (.int (-1)) ∧ zq = hM V) := by
  refine PM.of (by decide +kernel) (by simp [Value.category]) (Nat.le_of_ble_eq_true rfl) ?_
  refine Wp.iload_n (pc2 := 1) dX5_count_0 rfl rfl ?_
  have hw : w.toInt < 0 ∨ 9 < w.toInt := by
    rcases Classical.em (w.toInt < 0 ∨ 9 < w.toInt) with q | q
    · exact q
    · exact absurd ⟨w.toInt.toNat, by omega, Int32.toInt_inj.mp (by rw [nI_toInt (by omega)]; omega)⟩ hno
  refine Wp.tableOut (pc2 := 110) dX5_count_1 hw (by decide) ?_
  refine Wp.icon (pc2 := 111) dX5_count_110 rfl (-1) (by decide +kernel) ?_
  refine Wp.ret dX5_count_111 rfl rfl ?_
  exact ⟨rfl, rfl⟩

/-- a pair that could be given and wasn't -/
def cand (V : zS) (p : Nat) : Prop := V 20 p = 0 ∧ p / 50 < V 1 0 ∧ p % 50 < V 1 1 ∧ 2 ≤ V 18 (p / 50) ∧ 2 ≤ V 18 (50 + p % 50) ∧ alike V (p / 50) (p % 50)
def lackQ (V : zS) (zr : Option Value) (zq : zh) : Prop := zq = hM V ∧ ((∃ p, p < 2500 ∧ zr = some (.int (nI p)) ∧ cand V p ∧ ∀ q, q < p → ¬ cand V q) ∨ (zr = some (.int (-1)) ∧ ∀ q, q < 2500 → ¬ cand V q))

set_option maxRecDepth 100000 in
set_option maxHeartbeats 4000000 in
theorem m_lacking_l (V : zS) (hV : BV V) (h0 : V 8 0 < 3) (h1 : V 8 1 < 3) : ∀ (n p : Nat), p ≤ 2500 → 2500 < p + n → (∀ q, q < p → ¬ cand V q) → Wp mX5_lacking (lackQ V) 2 [.ref 0, .int (nI p), .null, .null] [] (hM V) := by
  intro n
  induction n with
  | zero => intro p hp1 hp2; omega
  | succ n ih =>
    intro p hp1 hp2 hq
    refine Wp.iload_n (pc2 := 3) dX5_lacking_2 rfl rfl ?_
    refine Wp.sipN (pc2 := 6) 2500 dX5_lacking_3 rfl (by decide +kernel) ?_
    refine Wp.icmpN_ge (pc2 := 9) 88 dX5_lacking_6 rfl (by decide) (by omega) (by omega) (fun c6 => ?_) (fun c6 => ?_)
    · refine Wp.icon (pc2 := 89) dX5_lacking_88 rfl (-1) (by decide +kernel) ?_
      refine Wp.ret dX5_lacking_89 rfl rfl ?_
      have e : p = 2500 := by omega
      subst e
      exact ⟨rfl, Or.inr ⟨rfl, hq⟩⟩
    · refine Wp.iload_n (pc2 := 10) dX5_lacking_9 rfl rfl ?_
      refine Wp.bipN (pc2 := 12) 50 dX5_lacking_10 rfl (by decide +kernel) ?_
      refine Wp.idivN (pc2 := 13) dX5_lacking_12 rfl (by omega) (by decide) (by decide) ?_
      refine Wp.istore_n (pc2 := 14) dX5_lacking_13 rfl (by decide) rfl ?_
      refine Wp.iload_n (pc2 := 15) dX5_lacking_14 rfl rfl ?_
      refine Wp.bipN (pc2 := 17) 50 dX5_lacking_15 rfl (by decide +kernel) ?_
      refine Wp.iremN (pc2 := 18) dX5_lacking_17 rfl (by omega) (by decide) (by decide) ?_
      refine Wp.istore_n (pc2 := 19) dX5_lacking_18 rfl (by decide) rfl ?_
      refine Wp.aload_n (pc2 := 20) dX5_lacking_19 rfl rfl ?_
      refine Wp.getf (pc2 := 23) fX5_75 dX5_lacking_20 rfl rfl rfl ?_
      refine Wp.iload_n (pc2 := 24) dX5_lacking_23 rfl rfl ?_
      refine Wp.zaldN (pc2 := 25) dX5_lacking_24 rfl rfl (by omega) (by decide) ?_
      refine Wp.ifN_ne (pc2 := 28) 82 dX5_lacking_25 rfl (by decide) (hV.l _ _) (fun c25 => ?_) (fun c25 => ?_)
      · refine Wp.iincN (pc2 := 85) dX5_lacking_82 rfl rfl (by decide) rfl ?_
        refine Wp.goto (pc2 := 2) dX5_lacking_85 (by decide) ?_
        have hnc : ¬ cand V p := by
          first
            | exact fun z => c25 z.1
            | exact fun z => absurd z.2.1 (Nat.not_lt.mpr c35)
            | exact fun z => absurd z.2.2.1 (Nat.not_lt.mpr c45)
            | exact fun z => absurd z.2.2.2.1 (Nat.not_le.mpr c55)
            | exact fun z => absurd z.2.2.2.2.1 (Nat.not_le.mpr c68)
            | exact fun z => zbn hb c77 z.2.2.2.2.2
        refine Wp.fg [.ref 0, .int (nI (p + 1)), .null, .null] (And.intro (Or.inr rfl) (And.intro (Or.inr rfl) (And.intro (Or.inl rfl) (And.intro (Or.inl rfl) trivial)))) ?_
        exact ih (p + 1) (by omega) (by omega) (lt_s (p := fun q => ¬ cand V q) hq hnc)
      · refine Wp.iload_n (pc2 := 29) dX5_lacking_28 rfl rfl ?_
        refine Wp.aload_n (pc2 := 30) dX5_lacking_29 rfl rfl ?_
        refine Wp.getf (pc2 := 33) fX5_7 dX5_lacking_30 rfl rfl rfl ?_
        refine Wp.iconN (pc2 := 34) 0 dX5_lacking_33 rfl ?_
        refine Wp.ialdN (pc2 := 35) dX5_lacking_34 rfl rfl (by omega) (by decide) ?_
        refine Wp.icmpN_ge (pc2 := 38) 82 dX5_lacking_35 rfl (by decide) (by omega) (hV.l _ _) (fun c35 => ?_) (fun c35 => ?_)
        · refine Wp.iincN (pc2 := 85) dX5_lacking_82 rfl rfl (by decide) rfl ?_
          refine Wp.goto (pc2 := 2) dX5_lacking_85 (by decide) ?_
          have hnc : ¬ cand V p := by
            first
              | exact fun z => c25 z.1
              | exact fun z => absurd z.2.1 (Nat.not_lt.mpr c35)
              | exact fun z => absurd z.2.2.1 (Nat.not_lt.mpr c45)
              | exact fun z => absurd z.2.2.2.1 (Nat.not_le.mpr c55)
              | exact fun z => absurd z.2.2.2.2.1 (Nat.not_le.mpr c68)
              | exact fun z => zbn hb c77 z.2.2.2.2.2
          refine Wp.fg [.ref 0, .int (nI (p + 1)), .null, .null] (And.intro (Or.inr rfl) (And.intro (Or.inr rfl) (And.intro (Or.inl rfl) (And.intro (Or.inl rfl) trivial)))) ?_
          exact ih (p + 1) (by omega) (by omega) (lt_s (p := fun q => ¬ cand V q) hq hnc)
        · refine Wp.iload_n (pc2 := 39) dX5_lacking_38 rfl rfl ?_
          refine Wp.aload_n (pc2 := 40) dX5_lacking_39 rfl rfl ?_
          refine Wp.getf (pc2 := 43) fX5_7 dX5_lacking_40 rfl rfl rfl ?_
          refine Wp.iconN (pc2 := 44) 1 dX5_lacking_43 rfl ?_
          refine Wp.ialdN (pc2 := 45) dX5_lacking_44 rfl rfl (by omega) (by decide) ?_
          refine Wp.icmpN_ge (pc2 := 48) 82 dX5_lacking_45 rfl (by decide) (by omega) (hV.l _ _) (fun c45 => ?_) (fun c45 => ?_)
          · refine Wp.iincN (pc2 := 85) dX5_lacking_82 rfl rfl (by decide) rfl ?_
            refine Wp.goto (pc2 := 2) dX5_lacking_85 (by decide) ?_
            have hnc : ¬ cand V p := by
              first
                | exact fun z => c25 z.1
                | exact fun z => absurd z.2.1 (Nat.not_lt.mpr c35)
                | exact fun z => absurd z.2.2.1 (Nat.not_lt.mpr c45)
                | exact fun z => absurd z.2.2.2.1 (Nat.not_le.mpr c55)
                | exact fun z => absurd z.2.2.2.2.1 (Nat.not_le.mpr c68)
                | exact fun z => zbn hb c77 z.2.2.2.2.2
            refine Wp.fg [.ref 0, .int (nI (p + 1)), .null, .null] (And.intro (Or.inr rfl) (And.intro (Or.inr rfl) (And.intro (Or.inl rfl) (And.intro (Or.inl rfl) trivial)))) ?_
            exact ih (p + 1) (by omega) (by omega) (lt_s (p := fun q => ¬ cand V q) hq hnc)
          · refine Wp.aload_n (pc2 := 49) dX5_lacking_48 rfl rfl ?_
            refine Wp.getf (pc2 := 52) fX5_69 dX5_lacking_49 rfl rfl rfl ?_
            refine Wp.iload_n (pc2 := 53) dX5_lacking_52 rfl rfl ?_
            refine Wp.ialdN (pc2 := 54) dX5_lacking_53 rfl rfl (by omega) (by decide) ?_
            refine Wp.iconN (pc2 := 55) 2 dX5_lacking_54 rfl ?_
            refine Wp.icmpN_lt (pc2 := 58) 82 dX5_lacking_55 rfl (by decide) (hV.l _ _) (by decide) (fun c55 => ?_) (fun c55 => ?_)
            · refine Wp.iincN (pc2 := 85) dX5_lacking_82 rfl rfl (by decide) rfl ?_
              refine Wp.goto (pc2 := 2) dX5_lacking_85 (by decide) ?_
              have hnc : ¬ cand V p := by
                first
                  | exact fun z => c25 z.1
                  | exact fun z => absurd z.2.1 (Nat.not_lt.mpr c35)
                  | exact fun z => absurd z.2.2.1 (Nat.not_lt.mpr c45)
                  | exact fun z => absurd z.2.2.2.1 (Nat.not_le.mpr c55)
                  | exact fun z => absurd z.2.2.2.2.1 (Nat.not_le.mpr c68)
                  | exact fun z => zbn hb c77 z.2.2.2.2.2
              refine Wp.fg [.ref 0, .int (nI (p + 1)), .null, .null] (And.intro (Or.inr rfl) (And.intro (Or.inr rfl) (And.intro (Or.inl rfl) (And.intro (Or.inl rfl) trivial)))) ?_
              exact ih (p + 1) (by omega) (by omega) (lt_s (p := fun q => ¬ cand V q) hq hnc)
            · refine Wp.aload_n (pc2 := 59) dX5_lacking_58 rfl rfl ?_
              refine Wp.getf (pc2 := 62) fX5_69 dX5_lacking_59 rfl rfl rfl ?_
              refine Wp.bipN (pc2 := 64) 50 dX5_lacking_62 rfl (by decide +kernel) ?_
              refine Wp.iload_n (pc2 := 65) dX5_lacking_64 rfl rfl ?_
              refine Wp.iaddN (pc2 := 66) dX5_lacking_65 rfl  ?_
              refine Wp.ialdN (pc2 := 67) dX5_lacking_66 rfl rfl (by omega) (by decide) ?_
              refine Wp.iconN (pc2 := 68) 2 dX5_lacking_67 rfl ?_
              refine Wp.icmpN_lt (pc2 := 71) 82 dX5_lacking_68 rfl (by decide) (hV.l _ _) (by decide) (fun c68 => ?_) (fun c68 => ?_)
              · refine Wp.iincN (pc2 := 85) dX5_lacking_82 rfl rfl (by decide) rfl ?_
                refine Wp.goto (pc2 := 2) dX5_lacking_85 (by decide) ?_
                have hnc : ¬ cand V p := by
                  first
                    | exact fun z => c25 z.1
                    | exact fun z => absurd z.2.1 (Nat.not_lt.mpr c35)
                    | exact fun z => absurd z.2.2.1 (Nat.not_lt.mpr c45)
                    | exact fun z => absurd z.2.2.2.1 (Nat.not_le.mpr c55)
                    | exact fun z => absurd z.2.2.2.2.1 (Nat.not_le.mpr c68)
                    | exact fun z => zbn hb c77 z.2.2.2.2.2
                refine Wp.fg [.ref 0, .int (nI (p + 1)), .null, .null] (And.intro (Or.inr rfl) (And.intro (Or.inr rfl) (And.intro (Or.inl rfl) (And.intro (Or.inl rfl) trivial)))) ?_
                exact ih (p + 1) (by omega) (by omega) (lt_s (p := fun q => ¬ cand V q) hq hnc)
              · refine Wp.aload_n (pc2 := 72) dX5_lacking_71 rfl rfl ?_
                refine Wp.iload_n (pc2 := 73) dX5_lacking_72 rfl rfl ?_
                refine Wp.iload_n (pc2 := 74) dX5_lacking_73 rfl rfl ?_
                refine Wp.callV (pc2 := 77) kX5_lacking_124 vX5_isAlike (m_isAlike V (p / 50) (p % 50) hV (by omega) (by omega) h0 h1) dX5_lacking_74 rfl rfl rfl rfl rfl (Nat.le_of_ble_eq_true rfl) ?_
                rintro _ _ ⟨⟨b, rfl, hb⟩, rfl⟩
                refine Wp.ifN_eq (pc2 := 80) 82 dX5_lacking_77 rfl (by decide) (zb_lt _) (fun c77 => ?_) (fun c77 => ?_)
                · refine Wp.iincN (pc2 := 85) dX5_lacking_82 rfl rfl (by decide) rfl ?_
                  refine Wp.goto (pc2 := 2) dX5_lacking_85 (by decide) ?_
                  have hnc : ¬ cand V p := by
                    first
                      | exact fun z => c25 z.1
                      | exact fun z => absurd z.2.1 (Nat.not_lt.mpr c35)
                      | exact fun z => absurd z.2.2.1 (Nat.not_lt.mpr c45)
                      | exact fun z => absurd z.2.2.2.1 (Nat.not_le.mpr c55)
                      | exact fun z => absurd z.2.2.2.2.1 (Nat.not_le.mpr c68)
                      | exact fun z => zbn hb c77 z.2.2.2.2.2
                  refine Wp.fg [.ref 0, .int (nI (p + 1)), .null, .null] (And.intro (Or.inr rfl) (And.intro (Or.inr rfl) (And.intro (Or.inl rfl) (And.intro (Or.inl rfl) trivial)))) ?_
                  exact ih (p + 1) (by omega) (by omega) (lt_s (p := fun q => ¬ cand V q) hq hnc)
                · refine Wp.iload_n (pc2 := 81) dX5_lacking_80 rfl rfl ?_
                  refine Wp.ret dX5_lacking_81 rfl rfl ?_
                  exact ⟨rfl, Or.inl ⟨p, by omega, rfl, ⟨c25, c35, c45, c55, c68, zby hb c77⟩, hq⟩⟩

set_option maxRecDepth 100000 in
set_option maxHeartbeats 4000000 in
theorem m_lacking (V : zS) (hV : BV V) (h0 : V 8 0 < 3) (h1 : V 8 1 < 3) : PM mX5_lacking [.ref 0] (hM V) (lackQ V) := by
  refine PM.of (by decide +kernel) (by simp [Value.category]) (Nat.le_of_ble_eq_true rfl) ?_
  refine Wp.iconN (pc2 := 1) 0 dX5_lacking_0 rfl ?_
  refine Wp.istore_n (pc2 := 2) dX5_lacking_1 rfl (by decide) rfl ?_
  exact m_lacking_l V hV h0 h1 2501 0 (by omega) (by omega) lt_0

def endP (V : zS) : Prop := V 10 0 = V 1 0 ∧ V 10 1 = V 1 1 ∧ ∀ q, q < 2500 → ¬ cand V q
noncomputable def mEnds (V : zS) : zS := @ite _ (endP V) (Classical.propDecidable _) (vs V 0 10 2) V
theorem mEnds_t {V : zS} (h : endP V) : mEnds V = vs V 0 10 2 := if_pos h
theorem mEnds_f {V : zS} (h : ¬ endP V) : mEnds V = V := if_neg h

set_option maxRecDepth 100000 in
set_option maxHeartbeats 4000000 in
theorem m_ends (V : zS) (hV : BV V) (h0 : V 8 0 < 3) (h1 : V 8 1 < 3) : PM mX5_ends [.ref 0] (hM V) (fun zr zq => zr = none ∧ zq = hM (mEnds V)) := by
  refine PM.of (by decide +kernel) (by simp [Value.category]) (Nat.le_of_ble_eq_true rfl) ?_
  refine Wp.aload_n (pc2 := 1) dX5_ends_0 rfl rfl ?_
  refine Wp.iconN (pc2 := 2) 0 dX5_ends_1 rfl ?_
  refine Wp.callV (pc2 := 5) kX5_ends_128 vX5_isReadOut (m_isReadOut V 0 hV (by omega)) dX5_ends_2 rfl rfl rfl rfl rfl (Nat.le_of_ble_eq_true rfl) ?_
  rintro _ _ ⟨⟨b1, rfl, hb1⟩, rfl⟩
  refine Wp.ifN_eq (pc2 := 8) 29 dX5_ends_5 rfl (by decide) (zb_lt _) (fun c5 => ?_) (fun c5 => ?_)
  · refine Wp.retv dX5_ends_29 rfl ?_
    first
      | (rw [mEnds_f (fun z => zbn hb1 c5 z.1)]; exact ⟨rfl, rfl⟩)
      | (rw [mEnds_f (fun z => zbn hb2 c13 z.2.1)]; exact ⟨rfl, rfl⟩)
      | (rw [mEnds_t ⟨zby hb1 c5, zby hb2 c13, hz⟩]; exact ⟨rfl, rfl⟩)
      | exact absurd rfl c21
  · refine Wp.aload_n (pc2 := 9) dX5_ends_8 rfl rfl ?_
    refine Wp.iconN (pc2 := 10) 1 dX5_ends_9 rfl ?_
    refine Wp.callV (pc2 := 13) kX5_ends_128 vX5_isReadOut (m_isReadOut V 1 hV (by omega)) dX5_ends_10 rfl rfl rfl rfl rfl (Nat.le_of_ble_eq_true rfl) ?_
    rintro _ _ ⟨⟨b2, rfl, hb2⟩, rfl⟩
    refine Wp.ifN_eq (pc2 := 16) 29 dX5_ends_13 rfl (by decide) (zb_lt _) (fun c13 => ?_) (fun c13 => ?_)
    · refine Wp.retv dX5_ends_29 rfl ?_
      first
        | (rw [mEnds_f (fun z => zbn hb1 c5 z.1)]; exact ⟨rfl, rfl⟩)
        | (rw [mEnds_f (fun z => zbn hb2 c13 z.2.1)]; exact ⟨rfl, rfl⟩)
        | (rw [mEnds_t ⟨zby hb1 c5, zby hb2 c13, hz⟩]; exact ⟨rfl, rfl⟩)
        | exact absurd rfl c21
    · refine Wp.aload_n (pc2 := 17) dX5_ends_16 rfl rfl ?_
      refine Wp.callV (pc2 := 20) kX5_ends_131 vX5_lacking (m_lacking V hV h0 h1) dX5_ends_17 rfl rfl rfl rfl rfl (Nat.le_of_ble_eq_true rfl) ?_
      rintro _ _ ⟨rfl, hz⟩
      rcases hz with ⟨p, hp, rfl, hz, -⟩ | ⟨rfl, hz⟩
      · refine Wp.icon (pc2 := 21) dX5_ends_20 rfl (-1) (by decide +kernel) ?_
        refine Wp.icmp_ne (pc2 := 24) 29 dX5_ends_21 rfl (by decide) (fun c => ?_) (fun c => absurd c (nI_m1 (by omega)))
        refine Wp.retv dX5_ends_29 rfl ?_
        rw [mEnds_f (fun z => z.2.2 p hp hz)]
        exact ⟨rfl, rfl⟩
      refine Wp.icon (pc2 := 21) dX5_ends_20 rfl (-1) (by decide +kernel) ?_
      refine Wp.icmp_ne (pc2 := 24) 29 dX5_ends_21 rfl (by decide)  (fun c21 => ?_) (fun c21 => ?_)
      · refine Wp.retv dX5_ends_29 rfl ?_
        first
          | (rw [mEnds_f (fun z => zbn hb1 c5 z.1)]; exact ⟨rfl, rfl⟩)
          | (rw [mEnds_f (fun z => zbn hb2 c13 z.2.1)]; exact ⟨rfl, rfl⟩)
          | (rw [mEnds_t ⟨zby hb1 c5, zby hb2 c13, hz⟩]; exact ⟨rfl, rfl⟩)
          | exact absurd rfl c21
      · refine Wp.aload_n (pc2 := 25) dX5_ends_24 rfl rfl ?_
        refine Wp.iconN (pc2 := 26) 2 dX5_ends_25 rfl ?_
        refine Wp.putf (pc2 := 29) gX5_89 dX5_ends_26 rfl rfl (Nat.le_of_ble_eq_true rfl) rfl rfl ?_
        refine Wp.heq (hM_o0_10 _ _) ?_
        refine Wp.retv dX5_ends_29 rfl ?_
        first
          | (rw [mEnds_f (fun z => zbn hb1 c5 z.1)]; exact ⟨rfl, rfl⟩)
          | (rw [mEnds_f (fun z => zbn hb2 c13 z.2.1)]; exact ⟨rfl, rfl⟩)
          | (rw [mEnds_t ⟨zby hb1 c5, zby hb2 c13, hz⟩]; exact ⟨rfl, rfl⟩)
          | exact absurd rfl c21

theorem lgle {a b : Nat} (ha : a < 2 ^ 62) (hb : b < 2 ^ 62) : lg_cmp (lN a) (lN b) ≤ 0 ↔ a ≤ b := by
  unfold lg_cmp
  have h1 := pk_lLT (a := b) (b := a) (by omega) (by omega)
  have h2 := pk_lEQ (a := a) (b := b) (by omega) (by omega)
  by_cases q : b < a
  · have : lN a > lN b := h1.mpr q
    rw [if_pos this]
    constructor
    · intro z; exact absurd z (by decide)
    · intro z; omega
  · rw [if_neg (fun z => q (h1.mp z))]
    constructor
    · intro _; omega
    · intro _
      split <;> decide
theorem lglt {a b : Nat} (ha : a < 2 ^ 62) (hb : b < 2 ^ 62) : lg_cmp (lN a) (lN b) < 0 ↔ a < b := by
  unfold lg_cmp
  have h1 := pk_lLT (a := b) (b := a) (by omega) (by omega)
  have h2 := pk_lEQ (a := a) (b := b) (by omega) (by omega)
  by_cases q : b < a
  · have : lN a > lN b := h1.mpr q
    rw [if_pos this]
    constructor
    · intro z; exact absurd z (by decide)
    · intro z; omega
  · rw [if_neg (fun z => q (h1.mp z))]
    by_cases q2 : a = b
    · rw [if_pos (h2.mpr q2)]
      constructor
      · intro z; exact absurd z (by decide)
      · intro z; omega
    · rw [if_neg (fun z => q2 (h2.mp z))]
      constructor
      · intro _; omega
      · intro _; decide
theorem lgeq {a b : Nat} (ha : a < 2 ^ 62) (hb : b < 2 ^ 62) : lg_cmp (lN a) (lN b) = 0 ↔ a = b := by
  unfold lg_cmp
  have h1 := pk_lLT (a := b) (b := a) (by omega) (by omega)
  have h2 := pk_lEQ (a := a) (b := b) (by omega) (by omega)
  by_cases q : b < a
  · have : lN a > lN b := h1.mpr q
    rw [if_pos this]
    constructor
    · intro z; exact absurd z (by decide)
    · intro z; omega
  · rw [if_neg (fun z => q (h1.mp z))]
    by_cases q2 : a = b
    · rw [if_pos (h2.mpr q2)]
      exact ⟨fun _ => q2, fun _ => rfl⟩
    · rw [if_neg (fun z => q2 (h2.mp z))]
      constructor
      · intro z; exact absurd z (by decide)
      · intro z; exact absurd z q2
theorem Wp.i2lN {M : zm_I} {Q : Option Value → zh → Prop} {pc pc2 : Nat} {L st : List Value} {h : zh} {a : Nat} (d : decode (zm_c M) pc = .ok (.i2l, 1)) (hp : pc + 1 = pc2) (ha : a < 2 ^ 31) (k : Wp M Q pc2 L (.long (lN a) :: st) h) : Wp M Q pc L (.int (nI a) :: st) h := Wp.i2l d hp _ (nI_l ha) k
theorem Wp.lmulN {M : zm_I} {Q : Option Value → zh → Prop} {pc pc2 : Nat} {L st : List Value} {h : zh} {a b : Nat} (d : decode (zm_c M) pc = .ok (.lmul, 1)) (hp : pc + 1 = pc2) (k : Wp M Q pc2 L (.long (lN (a * b)) :: st) h) : Wp M Q pc L (.long (lN b) :: .long (lN a) :: st) h := Wp.lmul d hp (by rw [lN_mul]; exact k)
/-- which table is read next -/
def mChoose (V : zS) : Nat := if V 10 0 = V 1 0 then 1 else if V 10 1 = V 1 1 then 0 else if V 0 9 ≠ 0 then V 0 9 - 1 else if (V 17 0 + 1) * (V 16 1 + 1) < (V 17 1 + 1) * (V 16 0 + 1) then 1 else 0
theorem mul20 {a b : Nat} (ha : a < 2 ^ 20) (hb : b < 2 ^ 20) : (a + 1) * (b + 1) < 2 ^ 62 := by
  have h := Nat.mul_le_mul (show a + 1 ≤ 2 ^ 20 by omega) (show b + 1 ≤ 2 ^ 20 by omega)
  have : (2 : Nat) ^ 20 * 2 ^ 20 < 2 ^ 62 := by decide
  omega

set_option maxRecDepth 100000 in
set_option maxHeartbeats 4000000 in
theorem m_choose (V : zS) (hV : BV V) (hf : V 0 9 < 3) : PM mX5_choose [.ref 0] (hM V) (fun zr zq => zr = some (.int (nI (mChoose V))) ∧ zq = hM V) := by
  refine PM.of (by decide +kernel) (by simp [Value.category]) (Nat.le_of_ble_eq_true rfl) ?_
  refine Wp.aload_n (pc2 := 1) dX5_choose_0 rfl rfl ?_
  refine Wp.iconN (pc2 := 2) 0 dX5_choose_1 rfl ?_
  refine Wp.callV (pc2 := 5) kX5_choose_128 vX5_isReadOut (m_isReadOut V 0 hV (by omega)) dX5_choose_2 rfl rfl rfl rfl rfl (Nat.le_of_ble_eq_true rfl) ?_
  rintro _ _ ⟨⟨b1, rfl, hb1⟩, rfl⟩
  refine Wp.ifN_eq (pc2 := 8) 10 dX5_choose_5 rfl (by decide) (zb_lt _) (fun c5 => ?_) (fun c5 => ?_)
  · refine Wp.aload_n (pc2 := 11) dX5_choose_10 rfl rfl ?_
    refine Wp.iconN (pc2 := 12) 1 dX5_choose_11 rfl ?_
    refine Wp.callV (pc2 := 15) kX5_choose_128 vX5_isReadOut (m_isReadOut V 1 hV (by omega)) dX5_choose_12 rfl rfl rfl rfl rfl (Nat.le_of_ble_eq_true rfl) ?_
    rintro _ _ ⟨⟨b2, rfl, hb2⟩, rfl⟩
    refine Wp.ifN_eq (pc2 := 18) 20 dX5_choose_15 rfl (by decide) (zb_lt _) (fun c15 => ?_) (fun c15 => ?_)
    · refine Wp.aload_n (pc2 := 21) dX5_choose_20 rfl rfl ?_
      refine Wp.getf (pc2 := 24) fX5_38 dX5_choose_21 rfl rfl rfl ?_
      refine Wp.icon (pc2 := 25) dX5_choose_24 rfl (-1) (by decide +kernel) ?_
      refine Wp.icmp_eq (pc2 := 28) 33 dX5_choose_25 rfl (by decide)  (fun c25 => ?_) (fun c25 => ?_)
      · refine Wp.aload_n (pc2 := 34) dX5_choose_33 rfl rfl ?_
        refine Wp.getf (pc2 := 37) fX5_66 dX5_choose_34 rfl rfl rfl ?_
        refine Wp.iconN (pc2 := 38) 0 dX5_choose_37 rfl ?_
        refine Wp.ialdN (pc2 := 39) dX5_choose_38 rfl rfl (by omega) (by decide) ?_
        refine Wp.iconN (pc2 := 40) 1 dX5_choose_39 rfl ?_
        refine Wp.iaddN (pc2 := 41) dX5_choose_40 rfl  ?_
        refine Wp.i2lN (pc2 := 42) dX5_choose_41 rfl (by have := hV 17 0; have := hV 17 1; have := hV 16 0; have := hV 16 1; omega) ?_
        refine Wp.aload_n (pc2 := 43) dX5_choose_42 rfl rfl ?_
        refine Wp.getf (pc2 := 46) fX5_63 dX5_choose_43 rfl rfl rfl ?_
        refine Wp.iconN (pc2 := 47) 1 dX5_choose_46 rfl ?_
        refine Wp.ialdN (pc2 := 48) dX5_choose_47 rfl rfl (by omega) (by decide) ?_
        refine Wp.iconN (pc2 := 49) 1 dX5_choose_48 rfl ?_
        refine Wp.iaddN (pc2 := 50) dX5_choose_49 rfl  ?_
        refine Wp.i2lN (pc2 := 51) dX5_choose_50 rfl (by have := hV 17 0; have := hV 17 1; have := hV 16 0; have := hV 16 1; omega) ?_
        refine Wp.lmulN (pc2 := 52) dX5_choose_51 rfl ?_
        refine Wp.lstore_n (pc2 := 53) dX5_choose_52 rfl (by decide) rfl ?_
        refine Wp.aload_n (pc2 := 54) dX5_choose_53 rfl rfl ?_
        refine Wp.getf (pc2 := 57) fX5_66 dX5_choose_54 rfl rfl rfl ?_
        refine Wp.iconN (pc2 := 58) 1 dX5_choose_57 rfl ?_
        refine Wp.ialdN (pc2 := 59) dX5_choose_58 rfl rfl (by omega) (by decide) ?_
        refine Wp.iconN (pc2 := 60) 1 dX5_choose_59 rfl ?_
        refine Wp.iaddN (pc2 := 61) dX5_choose_60 rfl  ?_
        refine Wp.i2lN (pc2 := 62) dX5_choose_61 rfl (by have := hV 17 0; have := hV 17 1; have := hV 16 0; have := hV 16 1; omega) ?_
        refine Wp.aload_n (pc2 := 63) dX5_choose_62 rfl rfl ?_
        refine Wp.getf (pc2 := 66) fX5_63 dX5_choose_63 rfl rfl rfl ?_
        refine Wp.iconN (pc2 := 67) 0 dX5_choose_66 rfl ?_
        refine Wp.ialdN (pc2 := 68) dX5_choose_67 rfl rfl (by omega) (by decide) ?_
        refine Wp.iconN (pc2 := 69) 1 dX5_choose_68 rfl ?_
        refine Wp.iaddN (pc2 := 70) dX5_choose_69 rfl  ?_
        refine Wp.i2lN (pc2 := 71) dX5_choose_70 rfl (by have := hV 17 0; have := hV 17 1; have := hV 16 0; have := hV 16 1; omega) ?_
        refine Wp.lmulN (pc2 := 72) dX5_choose_71 rfl ?_
        refine Wp.lstore_n (pc2 := 73) dX5_choose_72 rfl (by decide) rfl ?_
        refine Wp.lload_n (pc2 := 74) dX5_choose_73 rfl rfl ?_
        refine Wp.lload_n (pc2 := 75) dX5_choose_74 rfl rfl ?_
        refine Wp.lcmp (pc2 := 76) dX5_choose_75 rfl ?_
        refine Wp.if_le (pc2 := 79) 83 dX5_choose_76 rfl (by decide)  (fun c76 => ?_) (fun c76 => ?_)
        · refine Wp.iconN (pc2 := 84) 0 dX5_choose_83 rfl ?_
          refine Wp.ret dX5_choose_84 rfl rfl ?_
          unfold mChoose
          have q : ¬ V 0 9 ≠ 0 := fun z => z ((zo_m1 (by omega)).mp c25)
          rw [if_neg (zbn hb1 c5), if_neg (zbn hb2 c15), if_neg q]
          have k1 := mul20 (hV 17 0) (hV 16 1)
          have k2 := mul20 (hV 17 1) (hV 16 0)
          first
            | (have c := (lgle k2 k1).mp c76
               rw [if_neg (by omega)]; exact ⟨rfl, rfl⟩)
            | (have c : ¬ (V 17 1 + 1) * (V 16 0 + 1) ≤ (V 17 0 + 1) * (V 16 1 + 1) := fun z => c76 ((lgle k2 k1).mpr z)
               rw [if_pos (by omega)]; exact ⟨rfl, rfl⟩)
        · refine Wp.iconN (pc2 := 80) 1 dX5_choose_79 rfl ?_
          refine Wp.goto (pc2 := 84) dX5_choose_80 (by decide) ?_
          refine Wp.ret dX5_choose_84 rfl rfl ?_
          unfold mChoose
          have q : ¬ V 0 9 ≠ 0 := fun z => z ((zo_m1 (by omega)).mp c25)
          rw [if_neg (zbn hb1 c5), if_neg (zbn hb2 c15), if_neg q]
          have k1 := mul20 (hV 17 0) (hV 16 1)
          have k2 := mul20 (hV 17 1) (hV 16 0)
          first
            | (have c := (lgle k2 k1).mp c76
               rw [if_neg (by omega)]; exact ⟨rfl, rfl⟩)
            | (have c : ¬ (V 17 1 + 1) * (V 16 0 + 1) ≤ (V 17 0 + 1) * (V 16 1 + 1) := fun z => c76 ((lgle k2 k1).mpr z)
               rw [if_pos (by omega)]; exact ⟨rfl, rfl⟩)
      · refine Wp.aload_n (pc2 := 29) dX5_choose_28 rfl rfl ?_
        refine Wp.getf (pc2 := 32) fX5_38 dX5_choose_29 rfl rfl rfl ?_
        refine Wp.ret dX5_choose_32 rfl rfl ?_
        unfold mChoose
        have q : V 0 9 ≠ 0 := fun z => c25 ((zo_m1 (by omega)).mpr z)
        rw [if_neg (zbn hb1 c5), if_neg (zbn hb2 c15), if_pos q]
        obtain ⟨f, hf2⟩ : ∃ f, V 0 9 = f + 1 := ⟨V 0 9 - 1, by omega⟩
        rw [hf2, zo_s]
        exact ⟨rfl, rfl⟩
    · refine Wp.iconN (pc2 := 19) 0 dX5_choose_18 rfl ?_
      refine Wp.ret dX5_choose_19 rfl rfl ?_
      unfold mChoose
      rw [if_neg (zbn hb1 c5), if_pos (zby hb2 c15)]
      exact ⟨rfl, rfl⟩
  · refine Wp.iconN (pc2 := 9) 1 dX5_choose_8 rfl ?_
    refine Wp.ret dX5_choose_9 rfl rfl ?_
    unfold mChoose
    rw [if_pos (zby hb1 c5)]
    exact ⟨rfl, rfl⟩
end
section
theorem zo_ne {n : Nat} (h : n < 2 ^ 30) (c : ¬ zo n = -1) : n ≠ 0 := fun z => c ((zo_m1 h).mpr z)
theorem zo_nle {c b : Nat} (hc : c < 2 ^ 30) (hb : b < 2 ^ 30) (h : ¬ nI c ≤ zo b) : b ≤ c := Nat.le_of_not_lt (fun z => h ((zo_le hc hb).mpr z))
/-- in memory, and came at b or later -/
def inP (V : zS) (t b r : Nat) : Prop := V 18 (50 * t + r) = 2 ∧ b ≤ V 19 (50 * t + r)
def NX (V : zS) (t b n m : Nat) : Prop := (m = 0 ∧ ∀ r, r < n → ¬ inP V t b r) ∨ (∃ r, m = r + 1 ∧ r < n ∧ inP V t b r ∧ ∀ r', r' < n → inP V t b r' → V 19 (50 * t + r) ≤ V 19 (50 * t + r'))
theorem NX_0 (V : zS) (t b : Nat) : NX V t b 0 0 := Or.inl ⟨rfl, fun r h => absurd h (Nat.not_lt_zero r)⟩
theorem NX_skip {V : zS} {t b n m : Nat} (h : NX V t b n m) (hp : ¬ inP V t b n) : NX V t b (n + 1) m := by
  rcases h with ⟨h1, h2⟩ | ⟨r, h1, h2, h3, h4⟩
  · exact Or.inl ⟨h1, lt_s (p := fun r => ¬ inP V t b r) h2 hp⟩
  · exact Or.inr ⟨r, h1, by omega, h3, lt_s (p := fun r' => inP V t b r' → V 19 (50 * t + r) ≤ V 19 (50 * t + r')) h4 (fun z => absurd z hp)⟩
theorem NX_new0 {V : zS} {t b n : Nat} (h : NX V t b n 0) (hp : inP V t b n) : NX V t b (n + 1) (n + 1) := by
  rcases h with ⟨-, h2⟩ | ⟨r, h1, -⟩
  · exact Or.inr ⟨n, rfl, by omega, hp, lt_s (p := fun r' => inP V t b r' → V 19 (50 * t + n) ≤ V 19 (50 * t + r')) (fun r' hr z => absurd z (h2 r' hr)) (fun _ => Nat.le_refl _)⟩
  · omega
theorem NX_new {V : zS} {t b n m : Nat} (h : NX V t b n (m + 1)) (hp : inP V t b n) (hl : V 19 (50 * t + n) < V 19 (50 * t + m)) : NX V t b (n + 1) (n + 1) := by
  rcases h with ⟨h1, -⟩ | ⟨r, h1, h2, h3, h4⟩
  · omega
  · have e : r = m := by omega
    subst e
    exact Or.inr ⟨n, rfl, by omega, hp, lt_s (p := fun r' => inP V t b r' → V 19 (50 * t + n) ≤ V 19 (50 * t + r')) (fun r' hr z => Nat.le_trans (Nat.le_of_lt hl) (h4 r' hr z)) (fun _ => Nat.le_refl _)⟩
theorem NX_keep {V : zS} {t b n m : Nat} (h : NX V t b n (m + 1)) (hl : V 19 (50 * t + m) ≤ V 19 (50 * t + n)) : NX V t b (n + 1) (m + 1) := by
  rcases h with ⟨h1, -⟩ | ⟨r, h1, h2, h3, h4⟩
  · omega
  · have e : r = m := by omega
    subst e
    exact Or.inr ⟨r, rfl, by omega, h3, lt_s (p := fun r' => inP V t b r' → V 19 (50 * t + r) ≤ V 19 (50 * t + r')) h4 (fun _ => hl)⟩
theorem NX_lt {V : zS} {t b n m : Nat} (h : NX V t b n (m + 1)) : m < n := by
  rcases h with ⟨h1, -⟩ | ⟨r, h1, h2, -⟩ <;> omega

set_option maxRecDepth 100000 in
set_option maxHeartbeats 4000000 in
theorem m_nextIn_l (V : zS) (t b : Nat) (hV : BV V) (ht : t < 2) (hr : V 1 t ≤ 50) (hb : b < 2 ^ 30) : ∀ (n r m : Nat), r ≤ V 1 t → V 1 t < r + n → NX V t b r m → Wp mX5_nextIn (fun zr zq => (∃ m, zr = some (.int (zo m)) ∧ NX V t b (V 1 t) m) ∧ zq = hM V) 5 [.ref 0, .int (nI t), .int (zo b), .int (zo m), .int (nI r), .null] [] (hM V) := by
  intro n
  induction n with
  | zero => intro r m h1 h2; omega
  | succ n ih =>
    intro r m h1 h2 h
    have hm30 : m < 2 ^ 30 := by
      rcases h with ⟨e, -⟩ | ⟨q, e, e2, -⟩ <;> omega
    refine Wp.iload (pc2 := 7) dX5_nextIn_5 rfl rfl ?_
    refine Wp.aload_n (pc2 := 8) dX5_nextIn_7 rfl rfl ?_
    refine Wp.getf (pc2 := 11) fX5_7 dX5_nextIn_8 rfl rfl rfl ?_
    refine Wp.iload_n (pc2 := 12) dX5_nextIn_11 rfl rfl ?_
    refine Wp.ialdN (pc2 := 13) dX5_nextIn_12 rfl rfl (by omega) (by decide) ?_
    refine Wp.icmpN_ge (pc2 := 16) 82 dX5_nextIn_13 rfl (by decide) (by omega) (hV.l _ _) (fun c13 => ?_) (fun c13 => ?_)
    · refine Wp.iload_n (pc2 := 83) dX5_nextIn_82 rfl rfl ?_
      refine Wp.ret dX5_nextIn_83 rfl rfl ?_
      have e : r = V 1 t := by omega
      subst e
      exact ⟨⟨m, rfl, h⟩, rfl⟩
    · refine Wp.bipN (pc2 := 18) 50 dX5_nextIn_16 rfl (by decide +kernel) ?_
      refine Wp.iload_n (pc2 := 19) dX5_nextIn_18 rfl rfl ?_
      refine Wp.imulN (pc2 := 20) dX5_nextIn_19 rfl  ?_
      refine Wp.iload (pc2 := 22) dX5_nextIn_20 rfl rfl ?_
      refine Wp.iaddN (pc2 := 23) dX5_nextIn_22 rfl  ?_
      refine Wp.istore (pc2 := 25) dX5_nextIn_23 rfl (by decide) rfl ?_
      refine Wp.aload_n (pc2 := 26) dX5_nextIn_25 rfl rfl ?_
      refine Wp.getf (pc2 := 29) fX5_69 dX5_nextIn_26 rfl rfl rfl ?_
      refine Wp.iload (pc2 := 31) dX5_nextIn_29 rfl rfl ?_
      refine Wp.ialdN (pc2 := 32) dX5_nextIn_31 rfl rfl (by omega) (by decide) ?_
      refine Wp.iconN (pc2 := 33) 2 dX5_nextIn_32 rfl ?_
      refine Wp.icmpN_ne (pc2 := 36) 76 dX5_nextIn_33 rfl (by decide) (hV.l _ _) (by decide) (fun c33 => ?_) (fun c33 => ?_)
      · refine Wp.iincN (pc2 := 79) dX5_nextIn_76 rfl rfl (by decide) rfl ?_
        refine Wp.goto (pc2 := 5) dX5_nextIn_79 (by decide) ?_
        first
          | (refine Wp.fg [.ref 0, .int (nI t), .int (zo b), .int (nI r), .int (nI (r + 1)), .null] (And.intro (Or.inr rfl) (And.intro (Or.inr rfl) (And.intro (Or.inr rfl) (And.intro (Or.inr rfl) (And.intro (Or.inr rfl) (And.intro (Or.inl rfl) trivial)))))) ?_
             have hin : inP V t b r := ⟨c33, zo_nle (by have := hV 19 (50 * t + r); omega) hb c44⟩
             have hn : NX V t b (r + 1) (r + 1) := by
               first
                 | exact NX_new h hin c70
                 | exact NX_new0 (((zo_m1 hm30).mp c49) ▸ h) hin
             exact Wp.leq (by rw [zo_s]) (ih (r + 1) (r + 1) (by omega) (by omega) hn))
          | (refine Wp.fg [.ref 0, .int (nI t), .int (zo b), .int (nI m), .int (nI (r + 1)), .null] (And.intro (Or.inr rfl) (And.intro (Or.inr rfl) (And.intro (Or.inr rfl) (And.intro (Or.inr rfl) (And.intro (Or.inr rfl) (And.intro (Or.inl rfl) trivial)))))) ?_
             exact Wp.leq (by rw [zo_s]) (ih (r + 1) (m + 1) (by omega) (by omega) (NX_keep h c70)))
          | (refine Wp.fg [.ref 0, .int (nI t), .int (zo b), .int (zo m), .int (nI (r + 1)), .null] (And.intro (Or.inr rfl) (And.intro (Or.inr rfl) (And.intro (Or.inr rfl) (And.intro (Or.inr rfl) (And.intro (Or.inr rfl) (And.intro (Or.inl rfl) trivial)))))) ?_
             have hin : ¬ inP V t b r := by
               first
                 | exact fun z => c33 z.1
                 | exact fun z => absurd ((zo_le (c := V 19 (50 * t + r)) (b := b) (by have := hV 19 (50 * t + r); omega) hb).mp c44) (Nat.not_lt.mpr z.2)
             exact ih (r + 1) m (by omega) (by omega) (NX_skip h hin))
      · refine Wp.aload_n (pc2 := 37) dX5_nextIn_36 rfl rfl ?_
        refine Wp.getf (pc2 := 40) fX5_72 dX5_nextIn_37 rfl rfl rfl ?_
        refine Wp.iload (pc2 := 42) dX5_nextIn_40 rfl rfl ?_
        refine Wp.ialdN (pc2 := 43) dX5_nextIn_42 rfl rfl (by omega) (by decide) ?_
        refine Wp.iload_n (pc2 := 44) dX5_nextIn_43 rfl rfl ?_
        refine Wp.icmp_le (pc2 := 47) 76 dX5_nextIn_44 rfl (by decide)  (fun c44 => ?_) (fun c44 => ?_)
        · refine Wp.iincN (pc2 := 79) dX5_nextIn_76 rfl rfl (by decide) rfl ?_
          refine Wp.goto (pc2 := 5) dX5_nextIn_79 (by decide) ?_
          first
            | (refine Wp.fg [.ref 0, .int (nI t), .int (zo b), .int (nI r), .int (nI (r + 1)), .null] (And.intro (Or.inr rfl) (And.intro (Or.inr rfl) (And.intro (Or.inr rfl) (And.intro (Or.inr rfl) (And.intro (Or.inr rfl) (And.intro (Or.inl rfl) trivial)))))) ?_
               have hin : inP V t b r := ⟨c33, zo_nle (by have := hV 19 (50 * t + r); omega) hb c44⟩
               have hn : NX V t b (r + 1) (r + 1) := by
                 first
                   | exact NX_new h hin c70
                   | exact NX_new0 (((zo_m1 hm30).mp c49) ▸ h) hin
               exact Wp.leq (by rw [zo_s]) (ih (r + 1) (r + 1) (by omega) (by omega) hn))
            | (refine Wp.fg [.ref 0, .int (nI t), .int (zo b), .int (nI m), .int (nI (r + 1)), .null] (And.intro (Or.inr rfl) (And.intro (Or.inr rfl) (And.intro (Or.inr rfl) (And.intro (Or.inr rfl) (And.intro (Or.inr rfl) (And.intro (Or.inl rfl) trivial)))))) ?_
               exact Wp.leq (by rw [zo_s]) (ih (r + 1) (m + 1) (by omega) (by omega) (NX_keep h c70)))
            | (refine Wp.fg [.ref 0, .int (nI t), .int (zo b), .int (zo m), .int (nI (r + 1)), .null] (And.intro (Or.inr rfl) (And.intro (Or.inr rfl) (And.intro (Or.inr rfl) (And.intro (Or.inr rfl) (And.intro (Or.inr rfl) (And.intro (Or.inl rfl) trivial)))))) ?_
               have hin : ¬ inP V t b r := by
                 first
                   | exact fun z => c33 z.1
                   | exact fun z => absurd ((zo_le (c := V 19 (50 * t + r)) (b := b) (by have := hV 19 (50 * t + r); omega) hb).mp c44) (Nat.not_lt.mpr z.2)
               exact ih (r + 1) m (by omega) (by omega) (NX_skip h hin))
        · refine Wp.iload_n (pc2 := 48) dX5_nextIn_47 rfl rfl ?_
          refine Wp.icon (pc2 := 49) dX5_nextIn_48 rfl (-1) (by decide +kernel) ?_
          refine Wp.icmp_eq (pc2 := 52) 73 dX5_nextIn_49 rfl (by decide)  (fun c49 => ?_) (fun c49 => ?_)
          · refine Wp.iload (pc2 := 75) dX5_nextIn_73 rfl rfl ?_
            refine Wp.istore_n (pc2 := 76) dX5_nextIn_75 rfl (by decide) rfl ?_
            refine Wp.iincN (pc2 := 79) dX5_nextIn_76 rfl rfl (by decide) rfl ?_
            refine Wp.goto (pc2 := 5) dX5_nextIn_79 (by decide) ?_
            first
              | (refine Wp.fg [.ref 0, .int (nI t), .int (zo b), .int (nI r), .int (nI (r + 1)), .null] (And.intro (Or.inr rfl) (And.intro (Or.inr rfl) (And.intro (Or.inr rfl) (And.intro (Or.inr rfl) (And.intro (Or.inr rfl) (And.intro (Or.inl rfl) trivial)))))) ?_
                 have hin : inP V t b r := ⟨c33, zo_nle (by have := hV 19 (50 * t + r); omega) hb c44⟩
                 have hn : NX V t b (r + 1) (r + 1) := by
                   first
                     | exact NX_new h hin c70
                     | exact NX_new0 (((zo_m1 hm30).mp c49) ▸ h) hin
                 exact Wp.leq (by rw [zo_s]) (ih (r + 1) (r + 1) (by omega) (by omega) hn))
              | (refine Wp.fg [.ref 0, .int (nI t), .int (zo b), .int (nI m), .int (nI (r + 1)), .null] (And.intro (Or.inr rfl) (And.intro (Or.inr rfl) (And.intro (Or.inr rfl) (And.intro (Or.inr rfl) (And.intro (Or.inr rfl) (And.intro (Or.inl rfl) trivial)))))) ?_
                 exact Wp.leq (by rw [zo_s]) (ih (r + 1) (m + 1) (by omega) (by omega) (NX_keep h c70)))
              | (refine Wp.fg [.ref 0, .int (nI t), .int (zo b), .int (zo m), .int (nI (r + 1)), .null] (And.intro (Or.inr rfl) (And.intro (Or.inr rfl) (And.intro (Or.inr rfl) (And.intro (Or.inr rfl) (And.intro (Or.inr rfl) (And.intro (Or.inl rfl) trivial)))))) ?_
                 have hin : ¬ inP V t b r := by
                   first
                     | exact fun z => c33 z.1
                     | exact fun z => absurd ((zo_le (c := V 19 (50 * t + r)) (b := b) (by have := hV 19 (50 * t + r); omega) hb).mp c44) (Nat.not_lt.mpr z.2)
                 exact ih (r + 1) m (by omega) (by omega) (NX_skip h hin))
          · obtain ⟨m, rfl⟩ : ∃ m1, m = m1 + 1 := ⟨m - 1, by have : m ≠ 0 := zo_ne hm30 c49; omega⟩
            have hmr := NX_lt h
            rw [zo_s]
            refine Wp.aload_n (pc2 := 53) dX5_nextIn_52 rfl rfl ?_
            refine Wp.getf (pc2 := 56) fX5_72 dX5_nextIn_53 rfl rfl rfl ?_
            refine Wp.iload (pc2 := 58) dX5_nextIn_56 rfl rfl ?_
            refine Wp.ialdN (pc2 := 59) dX5_nextIn_58 rfl rfl (by omega) (by decide) ?_
            refine Wp.aload_n (pc2 := 60) dX5_nextIn_59 rfl rfl ?_
            refine Wp.getf (pc2 := 63) fX5_72 dX5_nextIn_60 rfl rfl rfl ?_
            refine Wp.bipN (pc2 := 65) 50 dX5_nextIn_63 rfl (by decide +kernel) ?_
            refine Wp.iload_n (pc2 := 66) dX5_nextIn_65 rfl rfl ?_
            refine Wp.imulN (pc2 := 67) dX5_nextIn_66 rfl  ?_
            refine Wp.iload_n (pc2 := 68) dX5_nextIn_67 rfl rfl ?_
            refine Wp.iaddN (pc2 := 69) dX5_nextIn_68 rfl  ?_
            refine Wp.ialdN (pc2 := 70) dX5_nextIn_69 rfl rfl (by omega) (by decide) ?_
            refine Wp.icmpN_ge (pc2 := 73) 76 dX5_nextIn_70 rfl (by decide) (hV.l _ _) (hV.l _ _) (fun c70 => ?_) (fun c70 => ?_)
            · refine Wp.iincN (pc2 := 79) dX5_nextIn_76 rfl rfl (by decide) rfl ?_
              refine Wp.goto (pc2 := 5) dX5_nextIn_79 (by decide) ?_
              first
                | (refine Wp.fg [.ref 0, .int (nI t), .int (zo b), .int (nI r), .int (nI (r + 1)), .null] (And.intro (Or.inr rfl) (And.intro (Or.inr rfl) (And.intro (Or.inr rfl) (And.intro (Or.inr rfl) (And.intro (Or.inr rfl) (And.intro (Or.inl rfl) trivial)))))) ?_
                   have hin : inP V t b r := ⟨c33, zo_nle (by have := hV 19 (50 * t + r); omega) hb c44⟩
                   have hn : NX V t b (r + 1) (r + 1) := by
                     first
                       | exact NX_new h hin c70
                       | exact NX_new0 (((zo_m1 hm30).mp c49) ▸ h) hin
                   exact Wp.leq (by rw [zo_s]) (ih (r + 1) (r + 1) (by omega) (by omega) hn))
                | (refine Wp.fg [.ref 0, .int (nI t), .int (zo b), .int (nI m), .int (nI (r + 1)), .null] (And.intro (Or.inr rfl) (And.intro (Or.inr rfl) (And.intro (Or.inr rfl) (And.intro (Or.inr rfl) (And.intro (Or.inr rfl) (And.intro (Or.inl rfl) trivial)))))) ?_
                   exact Wp.leq (by rw [zo_s]) (ih (r + 1) (m + 1) (by omega) (by omega) (NX_keep h c70)))
                | (refine Wp.fg [.ref 0, .int (nI t), .int (zo b), .int (zo m), .int (nI (r + 1)), .null] (And.intro (Or.inr rfl) (And.intro (Or.inr rfl) (And.intro (Or.inr rfl) (And.intro (Or.inr rfl) (And.intro (Or.inr rfl) (And.intro (Or.inl rfl) trivial)))))) ?_
                   have hin : ¬ inP V t b r := by
                     first
                       | exact fun z => c33 z.1
                       | exact fun z => absurd ((zo_le (c := V 19 (50 * t + r)) (b := b) (by have := hV 19 (50 * t + r); omega) hb).mp c44) (Nat.not_lt.mpr z.2)
                   exact ih (r + 1) m (by omega) (by omega) (NX_skip h hin))
            · refine Wp.iload (pc2 := 75) dX5_nextIn_73 rfl rfl ?_
              refine Wp.istore_n (pc2 := 76) dX5_nextIn_75 rfl (by decide) rfl ?_
              refine Wp.iincN (pc2 := 79) dX5_nextIn_76 rfl rfl (by decide) rfl ?_
              refine Wp.goto (pc2 := 5) dX5_nextIn_79 (by decide) ?_
              first
                | (refine Wp.fg [.ref 0, .int (nI t), .int (zo b), .int (nI r), .int (nI (r + 1)), .null] (And.intro (Or.inr rfl) (And.intro (Or.inr rfl) (And.intro (Or.inr rfl) (And.intro (Or.inr rfl) (And.intro (Or.inr rfl) (And.intro (Or.inl rfl) trivial)))))) ?_
                   have hin : inP V t b r := ⟨c33, zo_nle (by have := hV 19 (50 * t + r); omega) hb c44⟩
                   have hn : NX V t b (r + 1) (r + 1) := by
                     first
                       | exact NX_new h hin c70
                       | exact NX_new0 (((zo_m1 hm30).mp c49) ▸ h) hin
                   exact Wp.leq (by rw [zo_s]) (ih (r + 1) (r + 1) (by omega) (by omega) hn))
                | (refine Wp.fg [.ref 0, .int (nI t), .int (zo b), .int (nI m), .int (nI (r + 1)), .null] (And.intro (Or.inr rfl) (And.intro (Or.inr rfl) (And.intro (Or.inr rfl) (And.intro (Or.inr rfl) (And.intro (Or.inr rfl) (And.intro (Or.inl rfl) trivial)))))) ?_
                   exact Wp.leq (by rw [zo_s]) (ih (r + 1) (m + 1) (by omega) (by omega) (NX_keep h c70)))
                | (refine Wp.fg [.ref 0, .int (nI t), .int (zo b), .int (zo m), .int (nI (r + 1)), .null] (And.intro (Or.inr rfl) (And.intro (Or.inr rfl) (And.intro (Or.inr rfl) (And.intro (Or.inr rfl) (And.intro (Or.inr rfl) (And.intro (Or.inl rfl) trivial)))))) ?_
                   have hin : ¬ inP V t b r := by
                     first
                       | exact fun z => c33 z.1
                       | exact fun z => absurd ((zo_le (c := V 19 (50 * t + r)) (b := b) (by have := hV 19 (50 * t + r); omega) hb).mp c44) (Nat.not_lt.mpr z.2)
                   exact ih (r + 1) m (by omega) (by omega) (NX_skip h hin))

set_option maxRecDepth 100000 in
set_option maxHeartbeats 4000000 in
theorem m_nextIn (V : zS) (t b : Nat) (hV : BV V) (ht : t < 2) (hr : V 1 t ≤ 50) (hb : b < 2 ^ 30) : PM mX5_nextIn [.ref 0, .int (nI t), .int (zo b)] (hM V) (fun zr zq => (∃ m, zr = some (.int (zo m)) ∧ NX V t b (V 1 t) m) ∧ zq = hM V) := by
  refine PM.of (by decide +kernel) (by simp [Value.category]) (Nat.le_of_ble_eq_true rfl) ?_
  refine Wp.icon (pc2 := 1) dX5_nextIn_0 rfl (-1) (by decide +kernel) ?_
  refine Wp.istore_n (pc2 := 2) dX5_nextIn_1 rfl (by decide) rfl ?_
  refine Wp.iconN (pc2 := 3) 0 dX5_nextIn_2 rfl ?_
  refine Wp.istore (pc2 := 5) dX5_nextIn_3 rfl (by decide) rfl ?_
  exact m_nextIn_l V t b hV ht hr hb (V 1 t + 1) 0 0 (by omega) (by omega) (NX_0 V t b)

def NB (V : zS) (n m : Nat) : Prop := (m = 0 ∧ ∀ r, r < n → ¬ V 18 r = 2) ∨ (∃ r, m = r + 1 ∧ r < n ∧ V 18 r = 2 ∧ ∀ r', r' < n → V 18 r' = 2 → V 19 r ≤ V 19 r')
theorem NB_0 (V : zS) : NB V 0 0 := Or.inl ⟨rfl, fun r h => absurd h (Nat.not_lt_zero r)⟩
theorem NB_skip {V : zS} {n m : Nat} (h : NB V n m) (hp : ¬ V 18 n = 2) : NB V (n + 1) m := by
  rcases h with ⟨h1, h2⟩ | ⟨r, h1, h2, h3, h4⟩
  · exact Or.inl ⟨h1, lt_s (p := fun r => ¬ V 18 r = 2) h2 hp⟩
  · exact Or.inr ⟨r, h1, by omega, h3, lt_s (p := fun r' => V 18 r' = 2 → V 19 r ≤ V 19 r') h4 (fun z => absurd z hp)⟩
theorem NB_new0 {V : zS} {n : Nat} (h : NB V n 0) (hp : V 18 n = 2) : NB V (n + 1) (n + 1) := by
  rcases h with ⟨-, h2⟩ | ⟨r, h1, -⟩
  · exact Or.inr ⟨n, rfl, by omega, hp, lt_s (p := fun r' => V 18 r' = 2 → V 19 n ≤ V 19 r') (fun r' hr z => absurd z (h2 r' hr)) (fun _ => Nat.le_refl _)⟩
  · omega
theorem NB_new {V : zS} {n m : Nat} (h : NB V n (m + 1)) (hp : V 18 n = 2) (hl : V 19 n < V 19 m) : NB V (n + 1) (n + 1) := by
  rcases h with ⟨h1, -⟩ | ⟨r, h1, h2, h3, h4⟩
  · omega
  · have e : r = m := by omega
    subst e
    exact Or.inr ⟨n, rfl, by omega, hp, lt_s (p := fun r' => V 18 r' = 2 → V 19 n ≤ V 19 r') (fun r' hr z => Nat.le_trans (Nat.le_of_lt hl) (h4 r' hr z)) (fun _ => Nat.le_refl _)⟩
theorem NB_keep {V : zS} {n m : Nat} (h : NB V n (m + 1)) (hl : V 19 m ≤ V 19 n) : NB V (n + 1) (m + 1) := by
  rcases h with ⟨h1, -⟩ | ⟨r, h1, h2, h3, h4⟩
  · omega
  · have e : r = m := by omega
    subst e
    exact Or.inr ⟨r, rfl, by omega, h3, lt_s (p := fun r' => V 18 r' = 2 → V 19 r ≤ V 19 r') h4 (fun _ => hl)⟩
theorem NB_lt {V : zS} {n m : Nat} (h : NB V n (m + 1)) : m < n := by
  rcases h with ⟨h1, -⟩ | ⟨r, h1, h2, -⟩ <;> omega
/-- the rows that came to memory, in their order: V 22 (it stands in no cell of the reference) -/
def QI (V : zS) : Prop := V 0 28 ≤ V 0 23 ∧ V 0 23 ≤ 100 ∧ (∀ i, i < V 0 23 → V 22 i < 100 ∧ V 19 (V 22 i) = i ∧ V 18 (V 22 i) = if i < V 0 28 then 3 else 2) ∧ ∀ e, e < 100 → 2 ≤ V 18 e → ∃ i, i < V 0 23 ∧ V 22 i = e
def mSpill1 (V : zS) : zS := vs (vs V 18 (V 22 (V 0 28)) 3) 0 28 (V 0 28 + 1)
def spillN : Nat → zS → zS
  | 0, V => V
  | n + 1, V => spillN n (mSpill1 V)
def mSpills (V : zS) : zS := spillN (V 0 23 - V 0 28 - V 0 8) V
theorem QI_inj {V : zS} (h : QI V) {i j : Nat} (hi : i < V 0 23) (hj : j < V 0 23) (e : V 22 i = V 22 j) : i = j := by
  have h1 := (h.2.2.1 i hi).2.1
  have h2 := (h.2.2.1 j hj).2.1
  rw [e, h2] at h1; exact h1.symm
theorem QI_spill {V : zS} (h : QI V) (hl : V 0 28 < V 0 23) : QI (mSpill1 V) := by
  have e23 : mSpill1 V 0 23 = V 0 23 := by simp [mSpill1, vs]
  have e28 : mSpill1 V 0 28 = V 0 28 + 1 := by simp [mSpill1, vs]
  have e22 : ∀ i, mSpill1 V 22 i = V 22 i := fun i => by simp [mSpill1, vs]
  have e19 : ∀ i, mSpill1 V 19 i = V 19 i := fun i => by simp [mSpill1, vs]
  have e18 : ∀ i, mSpill1 V 18 i = if i = V 22 (V 0 28) then 3 else V 18 i := fun i => by simp [mSpill1, vs]
  obtain ⟨h1, h2, h3, h4⟩ := id h
  refine ⟨by omega, by omega, fun i hi => ?_, fun e he hp => ?_⟩
  · rw [e23] at hi
    rw [e22, e19, e18, e28]
    refine ⟨(h3 i hi).1, (h3 i hi).2.1, ?_⟩
    by_cases q : V 22 i = V 22 (V 0 28)
    · rw [if_pos q, if_pos (by have := QI_inj h hi hl q; omega)]
    · rw [if_neg q, (h3 i hi).2.2]
      have : i ≠ V 0 28 := fun z => q (by rw [z])
      by_cases q2 : i < V 0 28
      · rw [if_pos q2, if_pos (by omega)]
      · rw [if_neg q2, if_neg (by omega)]
  · rw [e23]
    rw [e18] at hp
    by_cases q : e = V 22 (V 0 28)
    · exact ⟨V 0 28, hl, by rw [e22]; exact q.symm⟩
    · rw [if_neg q] at hp
      obtain ⟨i, hi, hq⟩ := h4 e he hp
      exact ⟨i, hi, by rw [e22]; exact hq⟩
theorem cntM_vs {V : zS} {e x : Nat} (he : V 18 e = 2) (hx : x ≠ 2) : ∀ n, (n ≤ e → cntM (vs V 18 e x) n = cntM V n) ∧ (e < n → cntM V n = cntM (vs V 18 e x) n + 1)
  | 0 => ⟨fun _ => rfl, fun h => absurd h (Nat.not_lt_zero e)⟩
  | n + 1 => by
    obtain ⟨h1, h2⟩ := cntM_vs he hx n
    refine ⟨fun h => ?_, fun h => ?_⟩
    · show cntM _ n + _ = cntM V n + _
      rw [h1 (by omega), vs_at, if_neg (show n ≠ e by omega)]
    · show cntM V n + _ = cntM _ n + _ + 1
      rw [vs_at]
      by_cases q : n = e
      · subst q
        rw [h1 (Nat.le_refl _), if_pos he, if_pos rfl, if_neg hx]
      · rw [h2 (by omega), if_neg q]; omega
theorem cntM_o {V : zS} {k : Nat} (i x : Nat) (hk : k ≠ 18) : ∀ n, cntM (vs V k i x) n = cntM V n
  | 0 => rfl
  | n + 1 => by
    show cntM _ n + _ = cntM V n + _
    rw [cntM_o i x hk n, vs_k _ (Ne.symm hk)]
theorem cntM_0 {V : zS} : ∀ n, (∀ e, e < n → V 18 e ≠ 2) → cntM V n = 0
  | 0, _ => rfl
  | n + 1, h => by
    show cntM V n + _ = 0
    rw [cntM_0 n (fun e he => h e (by omega)), if_neg (h n (by omega))]
theorem QI_cnt : ∀ (n : Nat) {V : zS}, QI V → V 0 23 - V 0 28 = n → cntM V 100 = n
  | 0, V, h, hn => by
    refine cntM_0 100 (fun e he z => ?_)
    obtain ⟨i, hi, hq⟩ := h.2.2.2 e he (by omega)
    have := (h.2.2.1 i hi).2.2
    have h1 := h.1
    rw [hq, z, if_pos (by omega)] at this
    omega
  | n + 1, V, h, hn => by
    have hl : V 0 28 < V 0 23 := by omega
    have h3 := h.2.2.1 _ hl
    have h2 : V 18 (V 22 (V 0 28)) = 2 := by rw [h3.2.2, if_neg (by omega)]
    have k := QI_cnt n (QI_spill h hl) (by simp [mSpill1, vs]; omega)
    unfold mSpill1 at k
    rw [cntM_o _ _ (by decide)] at k
    rw [(cntM_vs h2 (show (3 : Nat) ≠ 2 by decide) 100).2 h3.1, k]
theorem BV_spill1 {V : zS} (hV : BV V) (h : V 0 28 < 2 ^ 20 - 1) : BV (mSpill1 V) := (hV.up (by decide)).up (by omega)

set_option maxRecDepth 100000 in
set_option maxHeartbeats 4000000 in
theorem m_spills_l (V : zS) (Q : Option Value → zh → Prop) (hV : BV V) (K : ∀ m, NB V 100 m → Wp mX5_spills Q 59 [.ref 0, .int (zo m), .null] [] (hM V)) : ∀ (n r m : Nat), r ≤ 100 → 100 < r + n → NB V r m → Wp mX5_spills Q 15 [.ref 0, .int (zo m), .int (nI r)] [] (hM V) := by
  intro n
  induction n with
  | zero => intro r m h1 h2; omega
  | succ n ih =>
    intro r m h1 h2 h
    have hm30 : m < 2 ^ 30 := by
      rcases h with ⟨e, -⟩ | ⟨q, e, e2, -⟩ <;> omega
    refine Wp.iload_n (pc2 := 16) dX5_spills_15 rfl rfl ?_
    refine Wp.bipN (pc2 := 18) 100 dX5_spills_16 rfl (by decide +kernel) ?_
    refine Wp.icmpN_ge (pc2 := 21) 59 dX5_spills_18 rfl (by decide) (by omega) (by omega) (fun c18 => ?_) (fun c18 => ?_)
    · have e : r = 100 := by omega
      subst e
      refine Wp.fg [.ref 0, .int (zo m), .null] (And.intro (Or.inr rfl) (And.intro (Or.inr rfl) (And.intro (Or.inl rfl) trivial))) ?_
      exact K m h
    · refine Wp.aload_n (pc2 := 22) dX5_spills_21 rfl rfl ?_
      refine Wp.getf (pc2 := 25) fX5_69 dX5_spills_22 rfl rfl rfl ?_
      refine Wp.iload_n (pc2 := 26) dX5_spills_25 rfl rfl ?_
      refine Wp.ialdN (pc2 := 27) dX5_spills_26 rfl rfl (by omega) (by decide) ?_
      refine Wp.iconN (pc2 := 28) 2 dX5_spills_27 rfl ?_
      refine Wp.icmpN_ne (pc2 := 31) 53 dX5_spills_28 rfl (by decide) (hV.l _ _) (by decide) (fun c28 => ?_) (fun c28 => ?_)
      · refine Wp.iincN (pc2 := 56) dX5_spills_53 rfl rfl (by decide) rfl ?_
        refine Wp.goto (pc2 := 15) dX5_spills_56 (by decide) ?_
        first
          | (refine Wp.fg [.ref 0, .int (nI r), .int (nI (r + 1))] (And.intro (Or.inr rfl) (And.intro (Or.inr rfl) (And.intro (Or.inr rfl) trivial))) ?_
             have hn : NB V (r + 1) (r + 1) := by
               first
                 | exact NB_new h c28 c48
                 | exact NB_new0 (((zo_m1 hm30).mp c33) ▸ h) c28
             exact Wp.leq (by rw [zo_s]) (ih (r + 1) (r + 1) (by omega) (by omega) hn))
          | (refine Wp.fg [.ref 0, .int (nI m), .int (nI (r + 1))] (And.intro (Or.inr rfl) (And.intro (Or.inr rfl) (And.intro (Or.inr rfl) trivial))) ?_
             exact Wp.leq (by rw [zo_s]) (ih (r + 1) (m + 1) (by omega) (by omega) (NB_keep h c48)))
          | (refine Wp.fg [.ref 0, .int (zo m), .int (nI (r + 1))] (And.intro (Or.inr rfl) (And.intro (Or.inr rfl) (And.intro (Or.inr rfl) trivial))) ?_
             exact ih (r + 1) m (by omega) (by omega) (NB_skip h c28))
      · refine Wp.iload_n (pc2 := 32) dX5_spills_31 rfl rfl ?_
        refine Wp.icon (pc2 := 33) dX5_spills_32 rfl (-1) (by decide +kernel) ?_
        refine Wp.icmp_eq (pc2 := 36) 51 dX5_spills_33 rfl (by decide)  (fun c33 => ?_) (fun c33 => ?_)
        · refine Wp.iload_n (pc2 := 52) dX5_spills_51 rfl rfl ?_
          refine Wp.istore_n (pc2 := 53) dX5_spills_52 rfl (by decide) rfl ?_
          refine Wp.iincN (pc2 := 56) dX5_spills_53 rfl rfl (by decide) rfl ?_
          refine Wp.goto (pc2 := 15) dX5_spills_56 (by decide) ?_
          first
            | (refine Wp.fg [.ref 0, .int (nI r), .int (nI (r + 1))] (And.intro (Or.inr rfl) (And.intro (Or.inr rfl) (And.intro (Or.inr rfl) trivial))) ?_
               have hn : NB V (r + 1) (r + 1) := by
                 first
                   | exact NB_new h c28 c48
                   | exact NB_new0 (((zo_m1 hm30).mp c33) ▸ h) c28
               exact Wp.leq (by rw [zo_s]) (ih (r + 1) (r + 1) (by omega) (by omega) hn))
            | (refine Wp.fg [.ref 0, .int (nI m), .int (nI (r + 1))] (And.intro (Or.inr rfl) (And.intro (Or.inr rfl) (And.intro (Or.inr rfl) trivial))) ?_
               exact Wp.leq (by rw [zo_s]) (ih (r + 1) (m + 1) (by omega) (by omega) (NB_keep h c48)))
            | (refine Wp.fg [.ref 0, .int (zo m), .int (nI (r + 1))] (And.intro (Or.inr rfl) (And.intro (Or.inr rfl) (And.intro (Or.inr rfl) trivial))) ?_
               exact ih (r + 1) m (by omega) (by omega) (NB_skip h c28))
        · obtain ⟨m, rfl⟩ : ∃ m1, m = m1 + 1 := ⟨m - 1, by have : m ≠ 0 := zo_ne hm30 c33; omega⟩
          have hmr := NB_lt h
          rw [zo_s]
          refine Wp.aload_n (pc2 := 37) dX5_spills_36 rfl rfl ?_
          refine Wp.getf (pc2 := 40) fX5_72 dX5_spills_37 rfl rfl rfl ?_
          refine Wp.iload_n (pc2 := 41) dX5_spills_40 rfl rfl ?_
          refine Wp.ialdN (pc2 := 42) dX5_spills_41 rfl rfl (by omega) (by decide) ?_
          refine Wp.aload_n (pc2 := 43) dX5_spills_42 rfl rfl ?_
          refine Wp.getf (pc2 := 46) fX5_72 dX5_spills_43 rfl rfl rfl ?_
          refine Wp.iload_n (pc2 := 47) dX5_spills_46 rfl rfl ?_
          refine Wp.ialdN (pc2 := 48) dX5_spills_47 rfl rfl (by omega) (by decide) ?_
          refine Wp.icmpN_ge (pc2 := 51) 53 dX5_spills_48 rfl (by decide) (hV.l _ _) (hV.l _ _) (fun c48 => ?_) (fun c48 => ?_)
          · refine Wp.iincN (pc2 := 56) dX5_spills_53 rfl rfl (by decide) rfl ?_
            refine Wp.goto (pc2 := 15) dX5_spills_56 (by decide) ?_
            first
              | (refine Wp.fg [.ref 0, .int (nI r), .int (nI (r + 1))] (And.intro (Or.inr rfl) (And.intro (Or.inr rfl) (And.intro (Or.inr rfl) trivial))) ?_
                 have hn : NB V (r + 1) (r + 1) := by
                   first
                     | exact NB_new h c28 c48
                     | exact NB_new0 (((zo_m1 hm30).mp c33) ▸ h) c28
                 exact Wp.leq (by rw [zo_s]) (ih (r + 1) (r + 1) (by omega) (by omega) hn))
              | (refine Wp.fg [.ref 0, .int (nI m), .int (nI (r + 1))] (And.intro (Or.inr rfl) (And.intro (Or.inr rfl) (And.intro (Or.inr rfl) trivial))) ?_
                 exact Wp.leq (by rw [zo_s]) (ih (r + 1) (m + 1) (by omega) (by omega) (NB_keep h c48)))
              | (refine Wp.fg [.ref 0, .int (zo m), .int (nI (r + 1))] (And.intro (Or.inr rfl) (And.intro (Or.inr rfl) (And.intro (Or.inr rfl) trivial))) ?_
                 exact ih (r + 1) m (by omega) (by omega) (NB_skip h c28))
          · refine Wp.iload_n (pc2 := 52) dX5_spills_51 rfl rfl ?_
            refine Wp.istore_n (pc2 := 53) dX5_spills_52 rfl (by decide) rfl ?_
            refine Wp.iincN (pc2 := 56) dX5_spills_53 rfl rfl (by decide) rfl ?_
            refine Wp.goto (pc2 := 15) dX5_spills_56 (by decide) ?_
            first
              | (refine Wp.fg [.ref 0, .int (nI r), .int (nI (r + 1))] (And.intro (Or.inr rfl) (And.intro (Or.inr rfl) (And.intro (Or.inr rfl) trivial))) ?_
                 have hn : NB V (r + 1) (r + 1) := by
                   first
                     | exact NB_new h c28 c48
                     | exact NB_new0 (((zo_m1 hm30).mp c33) ▸ h) c28
                 exact Wp.leq (by rw [zo_s]) (ih (r + 1) (r + 1) (by omega) (by omega) hn))
              | (refine Wp.fg [.ref 0, .int (nI m), .int (nI (r + 1))] (And.intro (Or.inr rfl) (And.intro (Or.inr rfl) (And.intro (Or.inr rfl) trivial))) ?_
                 exact Wp.leq (by rw [zo_s]) (ih (r + 1) (m + 1) (by omega) (by omega) (NB_keep h c48)))
              | (refine Wp.fg [.ref 0, .int (zo m), .int (nI (r + 1))] (And.intro (Or.inr rfl) (And.intro (Or.inr rfl) (And.intro (Or.inr rfl) trivial))) ?_
                 exact ih (r + 1) m (by omega) (by omega) (NB_skip h c28))

set_option maxRecDepth 100000 in
set_option maxHeartbeats 4000000 in
theorem m_spills_o : ∀ (n : Nat) (V : zS), QI V → BV V → V 0 23 - V 0 28 - V 0 8 = n → Wp mX5_spills (fun zr zq => zr = none ∧ zq = hM (spillN n V)) 0 [.ref 0, .null, .null] [] (hM V) := by
  intro n
  induction n with
  | zero =>
    intro V hq hV hn
    have hc := QI_cnt _ hq rfl
    refine Wp.aload_n (pc2 := 1) dX5_spills_0 rfl rfl ?_
    refine Wp.callV (pc2 := 4) kX5_spills_155 vX5_inMemory (m_inMemory V hV) dX5_spills_1 rfl rfl rfl rfl rfl (Nat.le_of_ble_eq_true rfl) ?_
    rintro _ _ ⟨rfl, rfl⟩
    refine Wp.aload_n (pc2 := 5) dX5_spills_4 rfl rfl ?_
    refine Wp.getf (pc2 := 8) fX5_34 dX5_spills_5 rfl rfl rfl ?_
    refine Wp.icmpN_le (pc2 := 11) 79 dX5_spills_8 rfl (by decide) (by rw [hc]; have := hq.2.1; omega) (hV.l _ _) (fun c8 => ?_) (fun c8 => ?_)
    · refine Wp.retv dX5_spills_79 rfl ?_
      exact ⟨rfl, rfl⟩
    · rw [hc] at c8
      exfalso; omega
  | succ n ih =>
    intro V hq hV hn
    have hc := QI_cnt _ hq rfl
    have hl : V 0 28 < V 0 23 := by omega
    have h3 := hq.2.2.1 _ hl
    have h100 := hq.2.1
    have h2 : V 18 (V 22 (V 0 28)) = 2 := by rw [h3.2.2, if_neg (by omega)]
    refine Wp.aload_n (pc2 := 1) dX5_spills_0 rfl rfl ?_
    refine Wp.callV (pc2 := 4) kX5_spills_155 vX5_inMemory (m_inMemory V hV) dX5_spills_1 rfl rfl rfl rfl rfl (Nat.le_of_ble_eq_true rfl) ?_
    rintro _ _ ⟨rfl, rfl⟩
    refine Wp.aload_n (pc2 := 5) dX5_spills_4 rfl rfl ?_
    refine Wp.getf (pc2 := 8) fX5_34 dX5_spills_5 rfl rfl rfl ?_
    refine Wp.icmpN_le (pc2 := 11) 79 dX5_spills_8 rfl (by decide) (by rw [hc]; omega) (hV.l _ _) (fun c8 => ?_) (fun c8 => ?_)
    · rw [hc] at c8
      exfalso; omega
    · refine Wp.icon (pc2 := 12) dX5_spills_11 rfl (-1) (by decide +kernel) ?_
      refine Wp.istore_n (pc2 := 13) dX5_spills_12 rfl (by decide) rfl ?_
      refine Wp.iconN (pc2 := 14) 0 dX5_spills_13 rfl ?_
      refine Wp.istore_n (pc2 := 15) dX5_spills_14 rfl (by decide) rfl ?_
      refine m_spills_l V _ hV (fun m h => ?_) 101 0 0 (by omega) (by omega) (NB_0 V)
      rcases h with ⟨-, h⟩ | ⟨e, rfl, he, he2, he3⟩
      · exact absurd h2 (h _ h3.1)
      obtain ⟨i, hi, rfl⟩ := hq.2.2.2 e he (by omega)
      have k1 := hq.2.2.1 i hi
      have k2 := he3 _ h3.1 h2
      rw [k1.2.1, h3.2.1] at k2
      have ei : i = V 0 28 := by
        have k3 := k1.2.2
        rw [he2] at k3
        by_cases q : i < V 0 28
        · rw [if_pos q] at k3; omega
        · omega
      subst ei
      rw [zo_s]
      refine Wp.aload_n (pc2 := 60) dX5_spills_59 rfl rfl ?_
      refine Wp.getf (pc2 := 63) fX5_69 dX5_spills_60 rfl rfl rfl ?_
      refine Wp.iload_n (pc2 := 64) dX5_spills_63 rfl rfl ?_
      refine Wp.iconN (pc2 := 65) 3 dX5_spills_64 rfl ?_
      refine Wp.iastN (pc2 := 66) dX5_spills_65 rfl rfl (by omega) (by decide) ?_
      refine Wp.heq (hM_a18 _ _ _) ?_
      refine Wp.aload_n (pc2 := 67) dX5_spills_66 rfl rfl ?_
      refine Wp.dup (pc2 := 68) dX5_spills_67 rfl rfl ?_
      refine Wp.getf (pc2 := 71) fX5_109 dX5_spills_68 rfl rfl rfl ?_
      refine Wp.iconN (pc2 := 72) 1 dX5_spills_71 rfl ?_
      refine Wp.iaddN (pc2 := 73) dX5_spills_72 rfl  ?_
      change Wp _ _ _ _ (.int (nI (V 0 28 + 1)) :: _) _
      refine Wp.putf (pc2 := 76) gX5_109 dX5_spills_73 rfl rfl (Nat.le_of_ble_eq_true rfl) rfl rfl ?_
      refine Wp.heq (hM_o0_28 _ _) ?_
      refine Wp.goto (pc2 := 0) dX5_spills_76 (by decide) ?_
      refine Wp.fg [.ref 0, .null, .null] (And.intro (Or.inr rfl) (And.intro (Or.inl rfl) (And.intro (Or.inl rfl) trivial))) ?_
      exact ih (mSpill1 V) (QI_spill hq hl) (BV_spill1 hV (by omega)) (by simp [mSpill1, vs]; omega)

set_option maxRecDepth 100000 in
set_option maxHeartbeats 4000000 in
theorem m_spills (V : zS) (hq : QI V) (hV : BV V) : PM mX5_spills [.ref 0] (hM V) (fun zr zq => zr = none ∧ zq = hM (mSpills V)) := by
  refine PM.of (by decide +kernel) (by simp [Value.category]) (Nat.le_of_ble_eq_true rfl) ?_
  exact m_spills_o _ V hq hV rfl

theorem QI_o {V : zS} {k i x : Nat} (h : QI V) (hk : (k = 0 ∧ i ≠ 23 ∧ i ≠ 28) ∨ (k ≠ 0 ∧ k ≠ 18 ∧ k ≠ 19 ∧ k ≠ 22)) : QI (vs V k i x) := by
  have e23 : vs V k i x 0 23 = V 0 23 := by
    rcases hk with ⟨rfl, h1, h2⟩ | h1
    · exact vs_i V (Ne.symm h1)
    · exact vs_k V (Ne.symm h1.1)
  have e28 : vs V k i x 0 28 = V 0 28 := by
    rcases hk with ⟨rfl, h1, h2⟩ | h1
    · exact vs_i V (Ne.symm h2)
    · exact vs_k V (Ne.symm h1.1)
  have e18 : ∀ j, vs V k i x 18 j = V 18 j := fun j => vs_k V (by omega)
  have e19 : ∀ j, vs V k i x 19 j = V 19 j := fun j => vs_k V (by omega)
  have e22 : ∀ j, vs V k i x 22 j = V 22 j := fun j => vs_k V (by omega)
  unfold QI
  simp only [e23, e28, e18, e19, e22]
  exact h

set_option maxRecDepth 100000 in
set_option maxHeartbeats 4000000 in
theorem m_memory_ok (V : zS) (n : Nat) (hq : QI V) (hV : BV V) (hn : n < 101) : PM mX5_memory [.ref 0, .int (nI n)] (hM V) (fun zr zq => zr = some (.int (nI (1))) ∧ zq = hM (mSpills (vs V 0 8 n))) := by
  refine PM.of (by decide +kernel) (by simp [Value.category]) (Nat.le_of_ble_eq_true rfl) ?_
  refine Wp.iload_n (pc2 := 1) dX5_memory_0 rfl rfl ?_
  refine Wp.iconN (pc2 := 2) 0 dX5_memory_1 rfl ?_
  refine Wp.bipN (pc2 := 4) 100 dX5_memory_2 rfl (by decide +kernel) ?_
  refine Wp.callS (pc2 := 7) kX5_memory_81 sX5_in (m_in_t _ _ _ _ ((rg_in (by decide)).mpr ⟨n, hn, rfl⟩)) dX5_memory_4 rfl rfl rfl (Nat.le_of_ble_eq_true rfl) ?_
  rintro _ _ ⟨rfl, rfl⟩
  refine Wp.ifN_ne (pc2 := 10) 12 dX5_memory_7 rfl (by decide) (by omega) (fun c7 => ?_) (fun c7 => ?_)
  · refine Wp.aload_n (pc2 := 13) dX5_memory_12 rfl rfl ?_
    refine Wp.iload_n (pc2 := 14) dX5_memory_13 rfl rfl ?_
    refine Wp.putf (pc2 := 17) gX5_34 dX5_memory_14 rfl rfl (Nat.le_of_ble_eq_true rfl) rfl rfl ?_
    refine Wp.heq (hM_o0_8 _ _) ?_
    refine Wp.aload_n (pc2 := 18) dX5_memory_17 rfl rfl ?_
    refine Wp.callV (pc2 := 21) kX5_memory_152 vX5_spills (m_spills _ (QI_o hq (Or.inl (by omega))) (hV.up (by omega))) dX5_memory_18 rfl rfl rfl rfl rfl (Nat.le_of_ble_eq_true rfl) ?_
    rintro _ _ ⟨rfl, rfl⟩
    refine Wp.iconN (pc2 := 22) 1 dX5_memory_21 rfl ?_
    refine Wp.ret dX5_memory_22 rfl rfl ?_
    exact ⟨rfl, rfl⟩
  · exfalso; omega

set_option maxRecDepth 100000 in
set_option maxHeartbeats 4000000 in
theorem m_memory_no (V : zS) (x : Int32) (hno : ¬ rg x 101) : PM mX5_memory [.ref 0, .int x] (hM V) (fun zr zq => zr = some (.int (nI 0)) ∧ zq = hM V) := by
  refine PM.of (by decide +kernel) (by simp [Value.category]) (Nat.le_of_ble_eq_true rfl) ?_
  refine Wp.iload_n (pc2 := 1) dX5_memory_0 rfl rfl ?_
  refine Wp.iconN (pc2 := 2) 0 dX5_memory_1 rfl ?_
  refine Wp.bipN (pc2 := 4) 100 dX5_memory_2 rfl (by decide +kernel) ?_
  refine Wp.callS (pc2 := 7) kX5_memory_81 sX5_in (m_in _ x _ _) dX5_memory_4 rfl rfl rfl (Nat.le_of_ble_eq_true rfl) ?_
  rintro _ _ ⟨⟨b, rfl, hb⟩, rfl⟩
  refine Wp.ifN_ne (pc2 := 10) 12 dX5_memory_7 rfl (by decide) (zb_lt _) (fun c7 => ?_) (fun c7 => ?_)
  · exact absurd ((rg_in (by decide)).mp (zby hb c7)) hno
  · refine Wp.iconN (pc2 := 11) 0 dX5_memory_10 rfl ?_
    refine Wp.ret dX5_memory_11 rfl rfl ?_
    exact ⟨rfl, rfl⟩

/-- what a test costs for each that fails, crosswise -/
def wgt (V : zS) (t a b : Nat) : Nat := V 7 (4 * t + a) * (V 13 (4 * t + a) + 2) * (V 14 (4 * t + b) + 1)
def lessP (V : zS) (t a b : Nat) : Prop := wgt V t a b < wgt V t b a ∨ (wgt V t a b = wgt V t b a ∧ a < b)
theorem mul3 {a b c : Nat} (ha : a < 2 ^ 20) (hb : b < 2 ^ 20) (hc : c < 2 ^ 20) : a * (b + 2) * (c + 1) < 2 ^ 62 := by
  have h1 := Nat.mul_le_mul (show a ≤ 2 ^ 20 by omega) (show b + 2 ≤ 2 ^ 21 by omega)
  have h2 := Nat.mul_le_mul h1 (show c + 1 ≤ 2 ^ 20 by omega)
  have : (2 : Nat) ^ 20 * 2 ^ 21 * 2 ^ 20 < 2 ^ 62 := by decide
  omega

set_option maxRecDepth 100000 in
set_option maxHeartbeats 4000000 in
theorem m_isCheaper (V : zS) (t a b : Nat) (hV : BV V) (ht : t < 2) (ha : a < 4) (hb : b < 4) : PM mX5_isCheaper [.ref 0, .int (nI t), .int (nI a), .int (nI b)] (hM V) (fun zr zq => zbo (lessP V t a b) zr ∧ zq = hM V) := by
  refine PM.of (by decide +kernel) (by simp [Value.category]) (Nat.le_of_ble_eq_true rfl) ?_
  have k1 : wgt V t a b < 2 ^ 62 := mul3 (hV _ _) (hV _ _) (hV _ _)
  have k2 : wgt V t b a < 2 ^ 62 := mul3 (hV _ _) (hV _ _) (hV _ _)
  refine Wp.iconN (pc2 := 1) 4 dX5_isCheaper_0 rfl ?_
  refine Wp.iload_n (pc2 := 2) dX5_isCheaper_1 rfl rfl ?_
  refine Wp.imulN (pc2 := 3) dX5_isCheaper_2 rfl  ?_
  refine Wp.iload_n (pc2 := 4) dX5_isCheaper_3 rfl rfl ?_
  refine Wp.iaddN (pc2 := 5) dX5_isCheaper_4 rfl  ?_
  refine Wp.istore (pc2 := 7) dX5_isCheaper_5 rfl (by decide) rfl ?_
  refine Wp.iconN (pc2 := 8) 4 dX5_isCheaper_7 rfl ?_
  refine Wp.iload_n (pc2 := 9) dX5_isCheaper_8 rfl rfl ?_
  refine Wp.imulN (pc2 := 10) dX5_isCheaper_9 rfl  ?_
  refine Wp.iload_n (pc2 := 11) dX5_isCheaper_10 rfl rfl ?_
  refine Wp.iaddN (pc2 := 12) dX5_isCheaper_11 rfl  ?_
  refine Wp.istore (pc2 := 14) dX5_isCheaper_12 rfl (by decide) rfl ?_
  refine Wp.aload_n (pc2 := 15) dX5_isCheaper_14 rfl rfl ?_
  refine Wp.getf (pc2 := 18) fX5_28 dX5_isCheaper_15 rfl rfl rfl ?_
  refine Wp.iload (pc2 := 20) dX5_isCheaper_18 rfl rfl ?_
  refine Wp.ialdN (pc2 := 21) dX5_isCheaper_20 rfl rfl (by omega) (by decide) ?_
  refine Wp.i2lN (pc2 := 22) dX5_isCheaper_21 rfl (by have q1 := hV 7 (4 * t + a); have q2 := hV 7 (4 * t + b); have q3 := hV 13 (4 * t + a); have q4 := hV 13 (4 * t + b); have q5 := hV 14 (4 * t + a); have q6 := hV 14 (4 * t + b); omega) ?_
  refine Wp.aload_n (pc2 := 23) dX5_isCheaper_22 rfl rfl ?_
  refine Wp.getf (pc2 := 26) fX5_54 dX5_isCheaper_23 rfl rfl rfl ?_
  refine Wp.iload (pc2 := 28) dX5_isCheaper_26 rfl rfl ?_
  refine Wp.ialdN (pc2 := 29) dX5_isCheaper_28 rfl rfl (by omega) (by decide) ?_
  refine Wp.iconN (pc2 := 30) 2 dX5_isCheaper_29 rfl ?_
  refine Wp.iaddN (pc2 := 31) dX5_isCheaper_30 rfl  ?_
  refine Wp.i2lN (pc2 := 32) dX5_isCheaper_31 rfl (by have q1 := hV 7 (4 * t + a); have q2 := hV 7 (4 * t + b); have q3 := hV 13 (4 * t + a); have q4 := hV 13 (4 * t + b); have q5 := hV 14 (4 * t + a); have q6 := hV 14 (4 * t + b); omega) ?_
  refine Wp.lmulN (pc2 := 33) dX5_isCheaper_32 rfl ?_
  refine Wp.aload_n (pc2 := 34) dX5_isCheaper_33 rfl rfl ?_
  refine Wp.getf (pc2 := 37) fX5_57 dX5_isCheaper_34 rfl rfl rfl ?_
  refine Wp.iload (pc2 := 39) dX5_isCheaper_37 rfl rfl ?_
  refine Wp.ialdN (pc2 := 40) dX5_isCheaper_39 rfl rfl (by omega) (by decide) ?_
  refine Wp.iconN (pc2 := 41) 1 dX5_isCheaper_40 rfl ?_
  refine Wp.iaddN (pc2 := 42) dX5_isCheaper_41 rfl  ?_
  refine Wp.i2lN (pc2 := 43) dX5_isCheaper_42 rfl (by have q1 := hV 7 (4 * t + a); have q2 := hV 7 (4 * t + b); have q3 := hV 13 (4 * t + a); have q4 := hV 13 (4 * t + b); have q5 := hV 14 (4 * t + a); have q6 := hV 14 (4 * t + b); omega) ?_
  refine Wp.lmulN (pc2 := 44) dX5_isCheaper_43 rfl ?_
  refine Wp.lstore (pc2 := 46) dX5_isCheaper_44 rfl (by decide) rfl ?_
  refine Wp.aload_n (pc2 := 47) dX5_isCheaper_46 rfl rfl ?_
  refine Wp.getf (pc2 := 50) fX5_28 dX5_isCheaper_47 rfl rfl rfl ?_
  refine Wp.iload (pc2 := 52) dX5_isCheaper_50 rfl rfl ?_
  refine Wp.ialdN (pc2 := 53) dX5_isCheaper_52 rfl rfl (by omega) (by decide) ?_
  refine Wp.i2lN (pc2 := 54) dX5_isCheaper_53 rfl (by have q1 := hV 7 (4 * t + a); have q2 := hV 7 (4 * t + b); have q3 := hV 13 (4 * t + a); have q4 := hV 13 (4 * t + b); have q5 := hV 14 (4 * t + a); have q6 := hV 14 (4 * t + b); omega) ?_
  refine Wp.aload_n (pc2 := 55) dX5_isCheaper_54 rfl rfl ?_
  refine Wp.getf (pc2 := 58) fX5_54 dX5_isCheaper_55 rfl rfl rfl ?_
  refine Wp.iload (pc2 := 60) dX5_isCheaper_58 rfl rfl ?_
  refine Wp.ialdN (pc2 := 61) dX5_isCheaper_60 rfl rfl (by omega) (by decide) ?_
  refine Wp.iconN (pc2 := 62) 2 dX5_isCheaper_61 rfl ?_
  refine Wp.iaddN (pc2 := 63) dX5_isCheaper_62 rfl  ?_
  refine Wp.i2lN (pc2 := 64) dX5_isCheaper_63 rfl (by have q1 := hV 7 (4 * t + a); have q2 := hV 7 (4 * t + b); have q3 := hV 13 (4 * t + a); have q4 := hV 13 (4 * t + b); have q5 := hV 14 (4 * t + a); have q6 := hV 14 (4 * t + b); omega) ?_
  refine Wp.lmulN (pc2 := 65) dX5_isCheaper_64 rfl ?_
  refine Wp.aload_n (pc2 := 66) dX5_isCheaper_65 rfl rfl ?_
  refine Wp.getf (pc2 := 69) fX5_57 dX5_isCheaper_66 rfl rfl rfl ?_
  refine Wp.iload (pc2 := 71) dX5_isCheaper_69 rfl rfl ?_
  refine Wp.ialdN (pc2 := 72) dX5_isCheaper_71 rfl rfl (by omega) (by decide) ?_
  refine Wp.iconN (pc2 := 73) 1 dX5_isCheaper_72 rfl ?_
  refine Wp.iaddN (pc2 := 74) dX5_isCheaper_73 rfl  ?_
  refine Wp.i2lN (pc2 := 75) dX5_isCheaper_74 rfl (by have q1 := hV 7 (4 * t + a); have q2 := hV 7 (4 * t + b); have q3 := hV 13 (4 * t + a); have q4 := hV 13 (4 * t + b); have q5 := hV 14 (4 * t + a); have q6 := hV 14 (4 * t + b); omega) ?_
  refine Wp.lmulN (pc2 := 76) dX5_isCheaper_75 rfl ?_
  refine Wp.lstore (pc2 := 78) dX5_isCheaper_76 rfl (by decide) rfl ?_
  refine Wp.lload (pc2 := 80) dX5_isCheaper_78 rfl rfl ?_
  refine Wp.lload (pc2 := 82) dX5_isCheaper_80 rfl rfl ?_
  refine Wp.lcmp (pc2 := 83) dX5_isCheaper_82 rfl ?_
  refine Wp.if_lt (pc2 := 86) 99 dX5_isCheaper_83 rfl (by decide)  (fun c83 => ?_) (fun c83 => ?_)
  · refine Wp.iconN (pc2 := 100) 1 dX5_isCheaper_99 rfl ?_
    refine Wp.goto (pc2 := 104) dX5_isCheaper_100 (by decide) ?_
    refine Wp.ret dX5_isCheaper_104 rfl (by first | exact zb_nar true | exact zb_nar false) ?_
    first
      | exact ⟨zbo_t (Or.inl ((lglt k1 k2).mp c83)), rfl⟩
      | exact ⟨zbo_t (Or.inr ⟨(lgeq k1 k2).mp c91, c96⟩), rfl⟩
      | exact ⟨zbo_f (fun z => z.elim (fun q => c83 ((lglt k1 k2).mpr q)) (fun q => absurd q.2 (Nat.not_lt.mpr c96))), rfl⟩
      | exact ⟨zbo_f (fun z => z.elim (fun q => c83 ((lglt k1 k2).mpr q)) (fun q => c91 ((lgeq k1 k2).mpr q.1))), rfl⟩
  · refine Wp.lload (pc2 := 88) dX5_isCheaper_86 rfl rfl ?_
    refine Wp.lload (pc2 := 90) dX5_isCheaper_88 rfl rfl ?_
    refine Wp.lcmp (pc2 := 91) dX5_isCheaper_90 rfl ?_
    refine Wp.if_ne (pc2 := 94) 103 dX5_isCheaper_91 rfl (by decide)  (fun c91 => ?_) (fun c91 => ?_)
    · refine Wp.iconN (pc2 := 104) 0 dX5_isCheaper_103 rfl ?_
      refine Wp.ret dX5_isCheaper_104 rfl (by first | exact zb_nar true | exact zb_nar false) ?_
      first
        | exact ⟨zbo_t (Or.inl ((lglt k1 k2).mp c83)), rfl⟩
        | exact ⟨zbo_t (Or.inr ⟨(lgeq k1 k2).mp c91, c96⟩), rfl⟩
        | exact ⟨zbo_f (fun z => z.elim (fun q => c83 ((lglt k1 k2).mpr q)) (fun q => absurd q.2 (Nat.not_lt.mpr c96))), rfl⟩
        | exact ⟨zbo_f (fun z => z.elim (fun q => c83 ((lglt k1 k2).mpr q)) (fun q => c91 ((lgeq k1 k2).mpr q.1))), rfl⟩
    · refine Wp.iload_n (pc2 := 95) dX5_isCheaper_94 rfl rfl ?_
      refine Wp.iload_n (pc2 := 96) dX5_isCheaper_95 rfl rfl ?_
      refine Wp.icmpN_ge (pc2 := 99) 103 dX5_isCheaper_96 rfl (by decide) (by omega) (by omega) (fun c96 => ?_) (fun c96 => ?_)
      · refine Wp.iconN (pc2 := 104) 0 dX5_isCheaper_103 rfl ?_
        refine Wp.ret dX5_isCheaper_104 rfl (by first | exact zb_nar true | exact zb_nar false) ?_
        first
          | exact ⟨zbo_t (Or.inl ((lglt k1 k2).mp c83)), rfl⟩
          | exact ⟨zbo_t (Or.inr ⟨(lgeq k1 k2).mp c91, c96⟩), rfl⟩
          | exact ⟨zbo_f (fun z => z.elim (fun q => c83 ((lglt k1 k2).mpr q)) (fun q => absurd q.2 (Nat.not_lt.mpr c96))), rfl⟩
          | exact ⟨zbo_f (fun z => z.elim (fun q => c83 ((lglt k1 k2).mpr q)) (fun q => c91 ((lgeq k1 k2).mpr q.1))), rfl⟩
      · refine Wp.iconN (pc2 := 100) 1 dX5_isCheaper_99 rfl ?_
        refine Wp.goto (pc2 := 104) dX5_isCheaper_100 (by decide) ?_
        refine Wp.ret dX5_isCheaper_104 rfl (by first | exact zb_nar true | exact zb_nar false) ?_
        first
          | exact ⟨zbo_t (Or.inl ((lglt k1 k2).mp c83)), rfl⟩
          | exact ⟨zbo_t (Or.inr ⟨(lgeq k1 k2).mp c91, c96⟩), rfl⟩
          | exact ⟨zbo_f (fun z => z.elim (fun q => c83 ((lglt k1 k2).mpr q)) (fun q => absurd q.2 (Nat.not_lt.mpr c96))), rfl⟩
          | exact ⟨zbo_f (fun z => z.elim (fun q => c83 ((lglt k1 k2).mpr q)) (fun q => c91 ((lgeq k1 k2).mpr q.1))), rfl⟩
end
section
def alikeB (V : zS) (a b : Nat) : Bool := decide (V 2 (3 * (50 * 0 + a) + V 8 0) = V 2 (3 * (50 * 1 + b) + V 8 1))
theorem alikeB_iff {V : zS} {a b : Nat} : alikeB V a b = true ↔ alike V a b := by unfold alikeB alike; exact decide_eq_true_iff
def fa (t r x : Nat) : Nat := if t = 0 then r else x
def fb (t r x : Nat) : Nat := if t = 0 then x else r
/-- reading row r of table t gives pairs with the rows that came i, i + 1, .. -/
def fnd (t r : Nat) : Nat → Nat → zS → zS
  | 0, _, V => V
  | n + 1, i, V => fnd t r n (i + 1) (if V 22 i / 50 = 1 - t ∧ alikeB V (fa t r (V 22 i % 50)) (fb t r (V 22 i % 50)) = true then mGive V (fa t r (V 22 i % 50)) (fb t r (V 22 i % 50)) else V)
theorem fnd_add (t r : Nat) : ∀ (n m i : Nat) (V : zS), fnd t r (n + m) i V = fnd t r m (i + n) (fnd t r n i V)
  | 0, m, i, V => by rw [Nat.zero_add]; rfl
  | n + 1, m, i, V => by
    rw [show n + 1 + m = (n + m) + 1 by omega]
    show fnd t r (n + m) (i + 1) _ = fnd t r m (i + (n + 1)) (fnd t r n (i + 1) _)
    rw [fnd_add t r n m (i + 1), show i + (n + 1) = i + 1 + n by omega]
theorem fnd_skip (t r : Nat) : ∀ (n i : Nat) (V : zS), (∀ j, i ≤ j → j < i + n → V 22 j / 50 ≠ 1 - t) → fnd t r n i V = V
  | 0, _, _, _ => rfl
  | n + 1, i, V, h => by
    show fnd t r n (i + 1) _ = V
    rw [if_neg (fun z => h i (Nat.le_refl _) (by omega) z.1)]
    exact fnd_skip t r n (i + 1) V (fun j h1 h2 => h j (by omega) (by omega))
/-- what giving leaves as it was -/
def gfree (k j : Nat) : Prop := k ≠ 20 ∧ k ≠ 21 ∧ (k = 0 → j ≠ 26)
theorem mGive_o {V : zS} {a b k j : Nat} (h : gfree k j) : mGive V a b k j = V k j := by
  unfold mGive
  by_cases hk : k = 0
  · subst hk
    rw [vs_i _ (h.2.2 rfl), vs_k _ (by decide), vs_k _ (by decide)]
  · rw [vs_k _ hk, vs_k _ h.2.1, vs_k _ h.1]
theorem fnd_o {t r : Nat} {k j : Nat} (h : gfree k j) : ∀ (n i : Nat) (V : zS), fnd t r n i V k j = V k j
  | 0, _, _ => rfl
  | n + 1, i, V => by
    show fnd t r n (i + 1) _ k j = V k j
    rw [fnd_o h n (i + 1)]
    split
    · exact mGive_o h
    · rfl
theorem gf (k j : Nat) (h : gfree k j) : gfree k j := h
/-- what was given: the list and its marks -/
def GI (V : zS) : Prop := (∀ i, i < V 0 26 → V 21 i < 2500 ∧ V 20 (V 21 i) = 1) ∧ (∀ i j, i < V 0 26 → j < V 0 26 → V 21 i = V 21 j → i = j) ∧ ∀ p, p < 2500 → V 20 p ≠ 0 → ∃ i, i < V 0 26 ∧ V 21 i = p
theorem pigeon : ∀ (m n : Nat) (f : Nat → Nat), (∀ i, i < n → f i < m) → (∀ i j, i < n → j < n → f i = f j → i = j) → n ≤ m
  | 0, n, f, h, _ => by
    rcases Nat.eq_zero_or_pos n with q | q
    · omega
    · exact absurd (h 0 q) (Nat.not_lt_zero _)
  | m + 1, n, f, h, inj => by
    cases n with
    | zero => omega
    | succ n =>
      have := pigeon m n (fun i => if f i = m then f n else f i) (by
        intro i hi
        show (if f i = m then f n else f i) < m
        have h1 := h i (by omega)
        have h2 := h n (by omega)
        by_cases q : f i = m
        · rw [if_pos q]
          have : f n ≠ m := fun z => by have := inj i n (by omega) (by omega) (by omega); omega
          omega
        · rw [if_neg q]; omega) (by
        intro i j hi hj e
        have e : (if f i = m then f n else f i) = (if f j = m then f n else f j) := e
        by_cases q1 : f i = m <;> by_cases q2 : f j = m
        · exact inj i j (by omega) (by omega) (by omega)
        · rw [if_pos q1, if_neg q2] at e
          have := inj n j (by omega) (by omega) e
          omega
        · rw [if_neg q1, if_pos q2] at e
          have := inj i n (by omega) (by omega) e
          omega
        · rw [if_neg q1, if_neg q2] at e
          exact inj i j (by omega) (by omega) e)
      omega
theorem GI_le {V : zS} (h : GI V) : V 0 26 ≤ 2500 := pigeon 2500 (V 0 26) (V 21) (fun i hi => (h.1 i hi).1) h.2.1
theorem GI_lt {V : zS} (h : GI V) {p : Nat} (hp : p < 2500) (h0 : V 20 p = 0) : V 0 26 < 2500 := by
  have := pigeon 2500 (V 0 26 + 1) (fun i => if i < V 0 26 then V 21 i else p) (by
    intro i hi
    show (if i < V 0 26 then V 21 i else p) < 2500
    split
    · exact (h.1 i ‹_›).1
    · exact hp) (by
    intro i j hi hj e
    have e : (if i < V 0 26 then V 21 i else p) = (if j < V 0 26 then V 21 j else p) := e
    by_cases q1 : i < V 0 26 <;> by_cases q2 : j < V 0 26
    · rw [if_pos q1, if_pos q2] at e; exact h.2.1 i j q1 q2 e
    · rw [if_pos q1, if_neg q2] at e
      have := (h.1 i q1).2; rw [e, h0] at this; omega
    · rw [if_neg q1, if_pos q2] at e
      have := (h.1 j q2).2; rw [← e, h0] at this; omega
    · omega)
  omega
theorem GI_give {V : zS} (h : GI V) {a b : Nat} (hp : 50 * a + b < 2500) (h0 : V 20 (50 * a + b) = 0) : GI (mGive V a b) := by
  have e26 : mGive V a b 0 26 = V 0 26 + 1 := by simp [mGive, vs]
  have e21 : ∀ i, mGive V a b 21 i = if i = V 0 26 then 50 * a + b else V 21 i := fun i => by simp [mGive, vs]
  have e20 : ∀ i, mGive V a b 20 i = if i = 50 * a + b then 1 else V 20 i := fun i => by simp [mGive, vs]
  obtain ⟨h1, h2, h3⟩ := h
  refine ⟨fun i hi => ?_, fun i j hi hj e => ?_, fun p hp2 hq => ?_⟩
  · rw [e26] at hi
    rw [e21, e20]
    by_cases q : i = V 0 26
    · rw [if_pos q, if_pos rfl]; exact ⟨hp, rfl⟩
    · rw [if_neg q]
      have k := h1 i (by omega)
      refine ⟨k.1, ?_⟩
      rw [if_neg (fun z => by rw [z, h0] at k; omega)]
      exact k.2
  · rw [e26] at hi hj
    rw [e21, e21] at e
    by_cases q1 : i = V 0 26 <;> by_cases q2 : j = V 0 26
    · omega
    · rw [if_pos q1, if_neg q2] at e
      have := (h1 j (by omega)).2; rw [← e, h0] at this; omega
    · rw [if_neg q1, if_pos q2] at e
      have := (h1 i (by omega)).2; rw [e, h0] at this; omega
    · rw [if_neg q1, if_neg q2] at e
      exact h2 i j (by omega) (by omega) e
  · rw [e20] at hq
    by_cases q : p = 50 * a + b
    · exact ⟨V 0 26, by omega, by rw [e21, if_pos rfl]; exact q.symm⟩
    · rw [if_neg q] at hq
      obtain ⟨i, hi, he⟩ := h3 p hp2 hq
      exact ⟨i, by omega, by rw [e21, if_neg (by omega)]; exact he⟩
theorem BV_give {V : zS} (hV : BV V) {a b : Nat} (hp : 50 * a + b < 2500) (hg : V 0 26 < 2500) : BV (mGive V a b) := ((hV.up (by decide)).up (by omega)).up (by omega)
/-- the pairs to come aren't given yet -/
def FI (V : zS) (t r i : Nat) : Prop := ∀ j, i ≤ j → j < V 0 23 → V 22 j / 50 = 1 - t → V 20 (50 * fa t r (V 22 j % 50) + fb t r (V 22 j % 50)) = 0
theorem fab_inj {t r x y : Nat} (hr : r < 50) (hx : x < 50) (hy : y < 50) (e : 50 * fa t r x + fb t r x = 50 * fa t r y + fb t r y) : x = y := by
  unfold fa fb at e
  by_cases q : t = 0
  · simp only [q, if_true] at e; omega
  · simp only [q, if_false] at e; omega
theorem fab_lt {t r x : Nat} (hr : r < 50) (hx : x < 50) : 50 * fa t r x + fb t r x < 2500 ∧ fa t r x < 50 ∧ fb t r x < 50 := by
  unfold fa fb
  by_cases q : t = 0
  · simp only [q, if_true]; omega
  · simp only [q, if_false]; omega
theorem FI_give {V : zS} {t r i : Nat} (hq : QI V) (ht : t < 2) (hr : r < 50) (hi : i < V 0 23) (h5 : V 22 i / 50 = 1 - t) (h : FI V t r i) : FI (mGive V (fa t r (V 22 i % 50)) (fb t r (V 22 i % 50))) t r (i + 1) := by
  intro j h1 h2
  rw [mGive_o (by unfold gfree; omega)] at h2 ⊢
  intro h3
  have e20 : ∀ p, mGive V (fa t r (V 22 i % 50)) (fb t r (V 22 i % 50)) 20 p = if p = 50 * fa t r (V 22 i % 50) + fb t r (V 22 i % 50) then 1 else V 20 p := fun p => by simp [mGive, vs]
  rw [e20, if_neg]
  · exact h j (by omega) h2 h3
  · intro z
    have := fab_inj hr (by omega) (by omega) z
    have k : V 22 j = V 22 i := by omega
    have := QI_inj hq h2 hi k
    omega
theorem FI_mono {V : zS} {t r i j : Nat} (h : FI V t r i) (hij : i ≤ j) : FI V t r j := fun k h1 h2 => h k (by omega) h2
theorem QI_give {V : zS} {a b : Nat} (h : QI V) : QI (mGive V a b) := QI_o (QI_o (QI_o h (Or.inr (by decide))) (Or.inr (by decide))) (Or.inl (by decide))
/-- rows that are read are rows -/
def PI (V : zS) : Prop := ∀ t r, t < 2 → r < 50 → V 18 (50 * t + r) ≠ 0 → r < V 1 t
def mFinds0 (V : zS) (t r : Nat) : zS := fnd t r (V 0 23 - V 0 28) (V 0 28) V
def mFinds1 (V W : zS) (t r : Nat) : zS := vs (vs (vs (vs (vs W 17 t (W 17 t + (W 0 26 - V 0 26))) 18 (50 * t + r) 2) 19 (50 * t + r) (W 0 23)) 0 23 (W 0 23 + 1)) 22 (W 0 23) (50 * t + r)
def mFinds (V : zS) (t r : Nat) : zS := mSpills (mFinds1 V (mFinds0 V t r) t r)

set_option maxRecDepth 100000 in
set_option maxHeartbeats 4000000 in
theorem m_finds_n (V0 : zS) (t r : Nat) (Q : Option Value → zh → Prop) (ht : t < 2) (b : Nat) (V : zS) (hV : BV V) (hrw : V 1 (1 - t) ≤ 50) (hb : b < 2 ^ 30)
    (K : ∀ m, NX V (1 - t) b (V 1 (1 - t)) m → Wp mX5_finds Q 16 [.ref 0, .int (nI t), .int (nI r), .int (nI (V 0 26 - V0 0 26)), .int (zo b), .int (zo m), .null, .null] [] (hM V)) :
    Wp mX5_finds Q 84 [.ref 0, .int (nI t), .int (nI r), .int (nI (V 0 26 - V0 0 26)), .int (zo b), .null, .null, .null] [] (hM V) := by
  refine Wp.aload_n (pc2 := 85) dX5_finds_84 rfl rfl ?_
  refine Wp.iconN (pc2 := 86) 1 dX5_finds_85 rfl ?_
  refine Wp.iload_n (pc2 := 87) dX5_finds_86 rfl rfl ?_
  refine Wp.isubN (pc2 := 88) dX5_finds_87 rfl (by omega) ?_
  refine Wp.iload (pc2 := 90) dX5_finds_88 rfl rfl ?_
  refine Wp.callV (pc2 := 93) kX5_finds_145 vX5_nextIn (m_nextIn V (1 - t) b hV (by omega) hrw hb) dX5_finds_90 rfl rfl rfl rfl rfl (Nat.le_of_ble_eq_true rfl) ?_
  rintro _ _ ⟨⟨m, rfl, h⟩, rfl⟩
  refine Wp.istore (pc2 := 95) dX5_finds_93 rfl (by decide) rfl ?_
  refine Wp.goto (pc2 := 16) dX5_finds_95 (by decide) ?_
  exact K m h

set_option maxRecDepth 100000 in
set_option maxHeartbeats 4000000 in
theorem m_finds_l (V0 : zS) (t r : Nat) (Q : Option Value → zh → Prop) (ht : t < 2) (hr : r < 50) (hj0 : V0 8 0 < 3) (hj1 : V0 8 1 < 3) (hrw : V0 1 (1 - t) ≤ 50) (hPI : PI V0)
    (K : ∀ W, W = mFinds0 V0 t r → QI W → BV W → GI W → Wp mX5_finds Q 98 [.ref 0, .int (nI t), .int (nI r), .int (nI (W 0 26 - V0 0 26)), .null, .null, .null, .null] [] (hM W)) :
    ∀ (n cur b m : Nat) (V : zS), V 0 23 < cur + n → QI V → BV V → GI V → FI V t r cur → V = fnd t r (cur - V0 0 28) (V0 0 28) V0 → V0 0 28 ≤ cur → cur ≤ V 0 23 → b ≤ cur → (∀ i, i < V 0 23 → b ≤ i → V0 0 28 ≤ i → cur ≤ i) → V0 0 26 ≤ V 0 26 → NX V (1 - t) b (V 1 (1 - t)) m →
      Wp mX5_finds Q 16 [.ref 0, .int (nI t), .int (nI r), .int (nI (V 0 26 - V0 0 26)), .int (zo b), .int (zo m), .null, .null] [] (hM V) := by
  intro n
  induction n with
  | zero => intro cur b m V h1 h2 h3 h4 h5 h6 h7 h8; omega
  | succ n ih =>
    intro cur b m V hn hq hV hg hF hE hs hc hbc hbi hgm hNX
    have u : ∀ k j, gfree k j → V k j = V0 k j := fun k j z => by rw [hE]; exact fnd_o z _ _ _
    have u23 : V 0 23 = V0 0 23 := u 0 23 (by unfold gfree; omega)
    have u28 : V 0 28 = V0 0 28 := u 0 28 (by unfold gfree; omega)
    have u1 : V 1 (1 - t) = V0 1 (1 - t) := u 1 _ (by unfold gfree; omega)
    have u80 : V 8 0 = V0 8 0 := u 8 0 (by unfold gfree; omega)
    have u81 : V 8 1 = V0 8 1 := u 8 1 (by unfold gfree; omega)
    have u18 : ∀ j, V 18 j = V0 18 j := fun j => u 18 j (by unfold gfree; omega)
    have h100 := hq.2.1
    have hm30 : m < 2 ^ 30 := by
      rcases hNX with ⟨e, -⟩ | ⟨q, e, e2, -⟩ <;> omega
    have other : ∀ j, cur ≤ j → j < V 0 23 → V 22 j / 50 = 1 - t → V 22 j = 50 * (1 - t) + V 22 j % 50 ∧ V 22 j % 50 < V 1 (1 - t) ∧ inP V (1 - t) b (V 22 j % 50) ∧ V 19 (50 * (1 - t) + V 22 j % 50) = j := by
      intro j h1 h2 h3
      have k := hq.2.2.1 j h2
      have e : V 22 j = 50 * (1 - t) + V 22 j % 50 := by omega
      have k2 : V 18 (50 * (1 - t) + V 22 j % 50) = 2 := by rw [← e, k.2.2, if_neg (by omega)]
      have k3 : V 19 (50 * (1 - t) + V 22 j % 50) = j := by rw [← e]; exact k.2.1
      refine ⟨e, ?_, ⟨k2, by omega⟩, k3⟩
      rw [u1]
      exact hPI (1 - t) _ (by omega) (by omega) (by rw [← u18, k2]; decide)
    refine Wp.iload (pc2 := 18) dX5_finds_16 rfl rfl ?_
    refine Wp.icon (pc2 := 19) dX5_finds_18 rfl (-1) (by decide +kernel) ?_
    refine Wp.icmp_eq (pc2 := 22) 98 dX5_finds_19 rfl (by decide)  (fun c19 => ?_) (fun c19 => ?_)
    · have em : m = 0 := (zo_m1 hm30).mp c19
      subst em
      have hno : ∀ q, q < V 1 (1 - t) → ¬ inP V (1 - t) b q := by
        rcases hNX with ⟨-, h⟩ | ⟨q, e, -⟩
        · exact h
        · omega
      have e2 : V = mFinds0 V0 t r := by
        unfold mFinds0
        rw [show V0 0 23 - V0 0 28 = (cur - V0 0 28) + (V0 0 23 - cur) by omega, fnd_add, ← hE, fnd_skip]
        intro j h1 h2 h3
        have k := other j (by omega) (by omega) h3
        exact hno _ k.2.1 k.2.2.1
      refine Wp.fg [.ref 0, .int (nI t), .int (nI r), .int (nI (V 0 26 - V0 0 26)), .null, .null, .null, .null] (And.intro (Or.inr rfl) (And.intro (Or.inr rfl) (And.intro (Or.inr rfl) (And.intro (Or.inr rfl) (And.intro (Or.inl rfl) (And.intro (Or.inl rfl) (And.intro (Or.inl rfl) (And.intro (Or.inl rfl) trivial)))))))) ?_
      exact K V e2 hq hV hg
    · obtain ⟨x, rfl⟩ : ∃ x, m = x + 1 := ⟨m - 1, by have := zo_ne hm30 c19; omega⟩
      rcases hNX with ⟨e, -⟩ | ⟨x', ex, hx, hin, hmin⟩
      · omega
      have ex2 : x' = x := by omega
      subst ex2
      have hx50 : x' < 50 := by omega
      have hxe : 50 * (1 - t) + x' < 100 := by omega
      obtain ⟨i, hi, hqi⟩ := hq.2.2.2 (50 * (1 - t) + x') hxe (by rw [hin.1]; decide)
      have ki := hq.2.2.1 i hi
      rw [hqi] at ki
      have his : V 0 28 ≤ i := by
        rcases Nat.lt_or_ge i (V 0 28) with q | q
        · have := ki.2.2; rw [if_pos q, hin.1] at this; omega
        · exact q
      have hci : cur ≤ i := hbi i hi (by have := hin.2; omega) (by omega)
      have hskip : ∀ j, cur ≤ j → j < cur + (i - cur) → V 22 j / 50 ≠ 1 - t := by
        intro j h1 h2 h3
        have k := other j h1 (by omega) h3
        have := hmin _ k.2.1 k.2.2.1
        omega
      have hq5 : V 22 i / 50 = 1 - t := by omega
      have hqm : V 22 i % 50 = x' := by omega
      have hE2 : V = fnd t r (i - V0 0 28) (V0 0 28) V0 := by
        rw [show i - V0 0 28 = (cur - V0 0 28) + (i - cur) by omega, fnd_add, ← hE, fnd_skip _ _ _ _ _ (fun j h1 h2 => hskip j (by omega) (by omega))]
      have hstep : ∀ W, (if V 22 i / 50 = 1 - t ∧ alikeB V (fa t r x') (fb t r x') = true then mGive V (fa t r x') (fb t r x') else V) = W → W = fnd t r (i + 1 - V0 0 28) (V0 0 28) V0 := by
        intro W hW
        rw [show i + 1 - V0 0 28 = (i - V0 0 28) + 1 by omega, fnd_add, ← hE2, show V0 0 28 + (i - V0 0 28) = i by omega]
        show W = fnd t r 0 (i + 1) _
        rw [hqm]
        exact hW.symm
      have hfab := fab_lt (t := t) hr hx50
      have hzero : V 20 (50 * fa t r x' + fb t r x') = 0 := by
        have := hF i hci hi hq5
        rw [hqm] at this; exact this
      have hglt := GI_lt hg hfab.1 hzero
      rw [zo_s]
      have ki2 : V 19 (50 * (1 - t) + x') = i := ki.2.1
      refine Wp.aload_n (pc2 := 23) dX5_finds_22 rfl rfl ?_
      refine Wp.getf (pc2 := 26) fX5_72 dX5_finds_23 rfl rfl rfl ?_
      refine Wp.bipN (pc2 := 28) 50 dX5_finds_26 rfl (by decide +kernel) ?_
      refine Wp.iconN (pc2 := 29) 1 dX5_finds_28 rfl ?_
      refine Wp.iload_n (pc2 := 30) dX5_finds_29 rfl rfl ?_
      refine Wp.isubN (pc2 := 31) dX5_finds_30 rfl (by omega) ?_
      refine Wp.imulN (pc2 := 32) dX5_finds_31 rfl  ?_
      refine Wp.iload (pc2 := 34) dX5_finds_32 rfl rfl ?_
      refine Wp.iaddN (pc2 := 35) dX5_finds_34 rfl  ?_
      refine Wp.ialdN (pc2 := 36) dX5_finds_35 rfl rfl (by omega) (by decide) ?_
      rw [ki2]
      refine Wp.istore (pc2 := 38) dX5_finds_36 rfl (by decide) rfl ?_
      refine Wp.iload_n (pc2 := 39) dX5_finds_38 rfl rfl ?_
      refine Wp.ifN_ne (pc2 := 42) 46 dX5_finds_39 rfl (by decide) (by omega) (fun c39 => ?_) (fun c39 => ?_)
      · refine Wp.iload (pc2 := 48) dX5_finds_46 rfl rfl ?_
        refine Wp.istore (pc2 := 50) dX5_finds_48 rfl (by decide) rfl ?_
        refine Wp.iload_n (pc2 := 51) dX5_finds_50 rfl rfl ?_
        refine Wp.ifN_ne (pc2 := 54) 59 dX5_finds_51 rfl (by decide) (by omega) (fun c51 => ?_) (fun c51 => ?_)
        · refine Wp.iload_n (pc2 := 60) dX5_finds_59 rfl rfl ?_
          refine Wp.istore (pc2 := 62) dX5_finds_60 rfl (by decide) rfl ?_
          have eA : (if t = 0 then r else x') = fa t r x' := rfl
          refine Wp.fg [.ref 0, .int (nI t), .int (nI r), .int (nI (V 0 26 - V0 0 26)), .int (nI i), .null, .int (nI (fa t r x')), .int (nI (fb t r x'))] ?_ ?_
          · first
              | (simp only [fa, fb, if_pos c39]; exact (And.intro (Or.inr rfl) (And.intro (Or.inr rfl) (And.intro (Or.inr rfl) (And.intro (Or.inr rfl) (And.intro (Or.inr rfl) (And.intro (Or.inl rfl) (And.intro (Or.inr rfl) (And.intro (Or.inr rfl) trivial)))))))))
              | (simp only [fa, fb, if_neg c39]; exact (And.intro (Or.inr rfl) (And.intro (Or.inr rfl) (And.intro (Or.inr rfl) (And.intro (Or.inr rfl) (And.intro (Or.inr rfl) (And.intro (Or.inl rfl) (And.intro (Or.inr rfl) (And.intro (Or.inr rfl) trivial)))))))))
              | exact absurd c39 c51
              | exact absurd c51 c39
          refine Wp.aload_n (pc2 := 63) dX5_finds_62 rfl rfl ?_
          refine Wp.iload (pc2 := 65) dX5_finds_63 rfl rfl ?_
          refine Wp.iload (pc2 := 67) dX5_finds_65 rfl rfl ?_
          refine Wp.callV (pc2 := 70) kX5_finds_124 vX5_isAlike (m_isAlike V (fa t r x') (fb t r x') hV hfab.2.1 hfab.2.2 (by omega) (by omega)) dX5_finds_67 rfl rfl rfl rfl rfl (Nat.le_of_ble_eq_true rfl) ?_
          rintro _ _ ⟨⟨b, rfl, hb⟩, rfl⟩
          refine Wp.ifN_eq (pc2 := 73) 84 dX5_finds_70 rfl (by decide) (zb_lt _) (fun c70 => ?_) (fun c70 => ?_)
          · first
              | (have hal : alikeB V (fa t r x') (fb t r x') = true := alikeB_iff.mpr (zby hb c70)
                 have hW := hstep _ (if_pos ⟨hq5, hal⟩)
                 have hF2 : FI (mGive V (fa t r x') (fb t r x')) t r (i + 1) := by
                   have := FI_give hq ht hr hi hq5 (FI_mono hF hci)
                   rw [hqm] at this; exact this
                 have e23 : mGive V (fa t r x') (fb t r x') 0 23 = V 0 23 := mGive_o (by unfold gfree; omega)
                 have e1 : mGive V (fa t r x') (fb t r x') 1 (1 - t) = V 1 (1 - t) := mGive_o (by unfold gfree; omega)
                 have e26 : mGive V (fa t r x') (fb t r x') 0 26 = V 0 26 + 1 := by simp [mGive, vs]
                 refine Wp.fg [.ref 0, .int (nI t), .int (nI r), .int (nI (V 0 26 - V0 0 26 + 1)), .int (nI i), .null, .null, .null] (And.intro (Or.inr rfl) (And.intro (Or.inr rfl) (And.intro (Or.inr rfl) (And.intro (Or.inr rfl) (And.intro (Or.inr rfl) (And.intro (Or.inl rfl) (And.intro (Or.inl rfl) (And.intro (Or.inl rfl) trivial)))))))) ?_
                 rw [show V 0 26 - V0 0 26 + 1 = mGive V (fa t r x') (fb t r x') 0 26 - V0 0 26 by omega, ← zo_s i]
                 exact m_finds_n V0 t r Q ht (i + 1) _ (BV_give hV hfab.1 hglt) (by rw [e1, u1]; exact hrw) (by omega) (fun m h => ih (i + 1) (i + 1) m _ (by omega) (QI_give hq) (BV_give hV hfab.1 hglt) (GI_give hg hfab.1 hzero) hF2 hW (by omega) (by omega) (Nat.le_refl _) (fun j _ h _ => h) (by omega) h))
              | (have hal : ¬ (V 22 i / 50 = 1 - t ∧ alikeB V (fa t r x') (fb t r x') = true) := fun z => zbn hb c70 (alikeB_iff.mp z.2)
                 have hW := hstep _ (if_neg hal)
                 refine Wp.fg [.ref 0, .int (nI t), .int (nI r), .int (nI (V 0 26 - V0 0 26)), .int (nI i), .null, .null, .null] (And.intro (Or.inr rfl) (And.intro (Or.inr rfl) (And.intro (Or.inr rfl) (And.intro (Or.inr rfl) (And.intro (Or.inr rfl) (And.intro (Or.inl rfl) (And.intro (Or.inl rfl) (And.intro (Or.inl rfl) trivial)))))))) ?_
                 rw [← zo_s i]
                 exact m_finds_n V0 t r Q ht (i + 1) V hV (by omega) (by omega) (fun m h => ih (i + 1) (i + 1) m V (by omega) hq hV hg (FI_mono hF (by omega)) hW (by omega) (by omega) (Nat.le_refl _) (fun j _ h _ => h) hgm h))
          · refine Wp.aload_n (pc2 := 74) dX5_finds_73 rfl rfl ?_
            refine Wp.iload (pc2 := 76) dX5_finds_74 rfl rfl ?_
            refine Wp.iload (pc2 := 78) dX5_finds_76 rfl rfl ?_
            refine Wp.callV (pc2 := 81) kX5_finds_148 vX5_gives (m_gives V (fa t r x') (fb t r x') hfab.1 hglt) dX5_finds_78 rfl rfl rfl rfl rfl (Nat.le_of_ble_eq_true rfl) ?_
            rintro _ _ ⟨rfl, rfl⟩
            refine Wp.iincN (pc2 := 84) dX5_finds_81 rfl rfl (by decide) rfl ?_
            first
              | (have hal : alikeB V (fa t r x') (fb t r x') = true := alikeB_iff.mpr (zby hb c70)
                 have hW := hstep _ (if_pos ⟨hq5, hal⟩)
                 have hF2 : FI (mGive V (fa t r x') (fb t r x')) t r (i + 1) := by
                   have := FI_give hq ht hr hi hq5 (FI_mono hF hci)
                   rw [hqm] at this; exact this
                 have e23 : mGive V (fa t r x') (fb t r x') 0 23 = V 0 23 := mGive_o (by unfold gfree; omega)
                 have e1 : mGive V (fa t r x') (fb t r x') 1 (1 - t) = V 1 (1 - t) := mGive_o (by unfold gfree; omega)
                 have e26 : mGive V (fa t r x') (fb t r x') 0 26 = V 0 26 + 1 := by simp [mGive, vs]
                 refine Wp.fg [.ref 0, .int (nI t), .int (nI r), .int (nI (V 0 26 - V0 0 26 + 1)), .int (nI i), .null, .null, .null] (And.intro (Or.inr rfl) (And.intro (Or.inr rfl) (And.intro (Or.inr rfl) (And.intro (Or.inr rfl) (And.intro (Or.inr rfl) (And.intro (Or.inl rfl) (And.intro (Or.inl rfl) (And.intro (Or.inl rfl) trivial)))))))) ?_
                 rw [show V 0 26 - V0 0 26 + 1 = mGive V (fa t r x') (fb t r x') 0 26 - V0 0 26 by omega, ← zo_s i]
                 exact m_finds_n V0 t r Q ht (i + 1) _ (BV_give hV hfab.1 hglt) (by rw [e1, u1]; exact hrw) (by omega) (fun m h => ih (i + 1) (i + 1) m _ (by omega) (QI_give hq) (BV_give hV hfab.1 hglt) (GI_give hg hfab.1 hzero) hF2 hW (by omega) (by omega) (Nat.le_refl _) (fun j _ h _ => h) (by omega) h))
              | (have hal : ¬ (V 22 i / 50 = 1 - t ∧ alikeB V (fa t r x') (fb t r x') = true) := fun z => zbn hb c70 (alikeB_iff.mp z.2)
                 have hW := hstep _ (if_neg hal)
                 refine Wp.fg [.ref 0, .int (nI t), .int (nI r), .int (nI (V 0 26 - V0 0 26)), .int (nI i), .null, .null, .null] (And.intro (Or.inr rfl) (And.intro (Or.inr rfl) (And.intro (Or.inr rfl) (And.intro (Or.inr rfl) (And.intro (Or.inr rfl) (And.intro (Or.inl rfl) (And.intro (Or.inl rfl) (And.intro (Or.inl rfl) trivial)))))))) ?_
                 rw [← zo_s i]
                 exact m_finds_n V0 t r Q ht (i + 1) V hV (by omega) (by omega) (fun m h => ih (i + 1) (i + 1) m V (by omega) hq hV hg (FI_mono hF (by omega)) hW (by omega) (by omega) (Nat.le_refl _) (fun j _ h _ => h) hgm h))
        · refine Wp.iload (pc2 := 56) dX5_finds_54 rfl rfl ?_
          refine Wp.goto (pc2 := 60) dX5_finds_56 (by decide) ?_
          refine Wp.istore (pc2 := 62) dX5_finds_60 rfl (by decide) rfl ?_
          have eA : (if t = 0 then r else x') = fa t r x' := rfl
          refine Wp.fg [.ref 0, .int (nI t), .int (nI r), .int (nI (V 0 26 - V0 0 26)), .int (nI i), .null, .int (nI (fa t r x')), .int (nI (fb t r x'))] ?_ ?_
          · first
              | (simp only [fa, fb, if_pos c39]; exact (And.intro (Or.inr rfl) (And.intro (Or.inr rfl) (And.intro (Or.inr rfl) (And.intro (Or.inr rfl) (And.intro (Or.inr rfl) (And.intro (Or.inl rfl) (And.intro (Or.inr rfl) (And.intro (Or.inr rfl) trivial)))))))))
              | (simp only [fa, fb, if_neg c39]; exact (And.intro (Or.inr rfl) (And.intro (Or.inr rfl) (And.intro (Or.inr rfl) (And.intro (Or.inr rfl) (And.intro (Or.inr rfl) (And.intro (Or.inl rfl) (And.intro (Or.inr rfl) (And.intro (Or.inr rfl) trivial)))))))))
              | exact absurd c39 c51
              | exact absurd c51 c39
          refine Wp.aload_n (pc2 := 63) dX5_finds_62 rfl rfl ?_
          refine Wp.iload (pc2 := 65) dX5_finds_63 rfl rfl ?_
          refine Wp.iload (pc2 := 67) dX5_finds_65 rfl rfl ?_
          refine Wp.callV (pc2 := 70) kX5_finds_124 vX5_isAlike (m_isAlike V (fa t r x') (fb t r x') hV hfab.2.1 hfab.2.2 (by omega) (by omega)) dX5_finds_67 rfl rfl rfl rfl rfl (Nat.le_of_ble_eq_true rfl) ?_
          rintro _ _ ⟨⟨b, rfl, hb⟩, rfl⟩
          refine Wp.ifN_eq (pc2 := 73) 84 dX5_finds_70 rfl (by decide) (zb_lt _) (fun c70 => ?_) (fun c70 => ?_)
          · first
              | (have hal : alikeB V (fa t r x') (fb t r x') = true := alikeB_iff.mpr (zby hb c70)
                 have hW := hstep _ (if_pos ⟨hq5, hal⟩)
                 have hF2 : FI (mGive V (fa t r x') (fb t r x')) t r (i + 1) := by
                   have := FI_give hq ht hr hi hq5 (FI_mono hF hci)
                   rw [hqm] at this; exact this
                 have e23 : mGive V (fa t r x') (fb t r x') 0 23 = V 0 23 := mGive_o (by unfold gfree; omega)
                 have e1 : mGive V (fa t r x') (fb t r x') 1 (1 - t) = V 1 (1 - t) := mGive_o (by unfold gfree; omega)
                 have e26 : mGive V (fa t r x') (fb t r x') 0 26 = V 0 26 + 1 := by simp [mGive, vs]
                 refine Wp.fg [.ref 0, .int (nI t), .int (nI r), .int (nI (V 0 26 - V0 0 26 + 1)), .int (nI i), .null, .null, .null] (And.intro (Or.inr rfl) (And.intro (Or.inr rfl) (And.intro (Or.inr rfl) (And.intro (Or.inr rfl) (And.intro (Or.inr rfl) (And.intro (Or.inl rfl) (And.intro (Or.inl rfl) (And.intro (Or.inl rfl) trivial)))))))) ?_
                 rw [show V 0 26 - V0 0 26 + 1 = mGive V (fa t r x') (fb t r x') 0 26 - V0 0 26 by omega, ← zo_s i]
                 exact m_finds_n V0 t r Q ht (i + 1) _ (BV_give hV hfab.1 hglt) (by rw [e1, u1]; exact hrw) (by omega) (fun m h => ih (i + 1) (i + 1) m _ (by omega) (QI_give hq) (BV_give hV hfab.1 hglt) (GI_give hg hfab.1 hzero) hF2 hW (by omega) (by omega) (Nat.le_refl _) (fun j _ h _ => h) (by omega) h))
              | (have hal : ¬ (V 22 i / 50 = 1 - t ∧ alikeB V (fa t r x') (fb t r x') = true) := fun z => zbn hb c70 (alikeB_iff.mp z.2)
                 have hW := hstep _ (if_neg hal)
                 refine Wp.fg [.ref 0, .int (nI t), .int (nI r), .int (nI (V 0 26 - V0 0 26)), .int (nI i), .null, .null, .null] (And.intro (Or.inr rfl) (And.intro (Or.inr rfl) (And.intro (Or.inr rfl) (And.intro (Or.inr rfl) (And.intro (Or.inr rfl) (And.intro (Or.inl rfl) (And.intro (Or.inl rfl) (And.intro (Or.inl rfl) trivial)))))))) ?_
                 rw [← zo_s i]
                 exact m_finds_n V0 t r Q ht (i + 1) V hV (by omega) (by omega) (fun m h => ih (i + 1) (i + 1) m V (by omega) hq hV hg (FI_mono hF (by omega)) hW (by omega) (by omega) (Nat.le_refl _) (fun j _ h _ => h) hgm h))
          · refine Wp.aload_n (pc2 := 74) dX5_finds_73 rfl rfl ?_
            refine Wp.iload (pc2 := 76) dX5_finds_74 rfl rfl ?_
            refine Wp.iload (pc2 := 78) dX5_finds_76 rfl rfl ?_
            refine Wp.callV (pc2 := 81) kX5_finds_148 vX5_gives (m_gives V (fa t r x') (fb t r x') hfab.1 hglt) dX5_finds_78 rfl rfl rfl rfl rfl (Nat.le_of_ble_eq_true rfl) ?_
            rintro _ _ ⟨rfl, rfl⟩
            refine Wp.iincN (pc2 := 84) dX5_finds_81 rfl rfl (by decide) rfl ?_
            first
              | (have hal : alikeB V (fa t r x') (fb t r x') = true := alikeB_iff.mpr (zby hb c70)
                 have hW := hstep _ (if_pos ⟨hq5, hal⟩)
                 have hF2 : FI (mGive V (fa t r x') (fb t r x')) t r (i + 1) := by
                   have := FI_give hq ht hr hi hq5 (FI_mono hF hci)
                   rw [hqm] at this; exact this
                 have e23 : mGive V (fa t r x') (fb t r x') 0 23 = V 0 23 := mGive_o (by unfold gfree; omega)
                 have e1 : mGive V (fa t r x') (fb t r x') 1 (1 - t) = V 1 (1 - t) := mGive_o (by unfold gfree; omega)
                 have e26 : mGive V (fa t r x') (fb t r x') 0 26 = V 0 26 + 1 := by simp [mGive, vs]
                 refine Wp.fg [.ref 0, .int (nI t), .int (nI r), .int (nI (V 0 26 - V0 0 26 + 1)), .int (nI i), .null, .null, .null] (And.intro (Or.inr rfl) (And.intro (Or.inr rfl) (And.intro (Or.inr rfl) (And.intro (Or.inr rfl) (And.intro (Or.inr rfl) (And.intro (Or.inl rfl) (And.intro (Or.inl rfl) (And.intro (Or.inl rfl) trivial)))))))) ?_
                 rw [show V 0 26 - V0 0 26 + 1 = mGive V (fa t r x') (fb t r x') 0 26 - V0 0 26 by omega, ← zo_s i]
                 exact m_finds_n V0 t r Q ht (i + 1) _ (BV_give hV hfab.1 hglt) (by rw [e1, u1]; exact hrw) (by omega) (fun m h => ih (i + 1) (i + 1) m _ (by omega) (QI_give hq) (BV_give hV hfab.1 hglt) (GI_give hg hfab.1 hzero) hF2 hW (by omega) (by omega) (Nat.le_refl _) (fun j _ h _ => h) (by omega) h))
              | (have hal : ¬ (V 22 i / 50 = 1 - t ∧ alikeB V (fa t r x') (fb t r x') = true) := fun z => zbn hb c70 (alikeB_iff.mp z.2)
                 have hW := hstep _ (if_neg hal)
                 refine Wp.fg [.ref 0, .int (nI t), .int (nI r), .int (nI (V 0 26 - V0 0 26)), .int (nI i), .null, .null, .null] (And.intro (Or.inr rfl) (And.intro (Or.inr rfl) (And.intro (Or.inr rfl) (And.intro (Or.inr rfl) (And.intro (Or.inr rfl) (And.intro (Or.inl rfl) (And.intro (Or.inl rfl) (And.intro (Or.inl rfl) trivial)))))))) ?_
                 rw [← zo_s i]
                 exact m_finds_n V0 t r Q ht (i + 1) V hV (by omega) (by omega) (fun m h => ih (i + 1) (i + 1) m V (by omega) hq hV hg (FI_mono hF (by omega)) hW (by omega) (by omega) (Nat.le_refl _) (fun j _ h _ => h) hgm h))
      · refine Wp.iload_n (pc2 := 43) dX5_finds_42 rfl rfl ?_
        refine Wp.goto (pc2 := 48) dX5_finds_43 (by decide) ?_
        refine Wp.istore (pc2 := 50) dX5_finds_48 rfl (by decide) rfl ?_
        refine Wp.iload_n (pc2 := 51) dX5_finds_50 rfl rfl ?_
        refine Wp.ifN_ne (pc2 := 54) 59 dX5_finds_51 rfl (by decide) (by omega) (fun c51 => ?_) (fun c51 => ?_)
        · refine Wp.iload_n (pc2 := 60) dX5_finds_59 rfl rfl ?_
          refine Wp.istore (pc2 := 62) dX5_finds_60 rfl (by decide) rfl ?_
          have eA : (if t = 0 then r else x') = fa t r x' := rfl
          refine Wp.fg [.ref 0, .int (nI t), .int (nI r), .int (nI (V 0 26 - V0 0 26)), .int (nI i), .null, .int (nI (fa t r x')), .int (nI (fb t r x'))] ?_ ?_
          · first
              | (simp only [fa, fb, if_pos c39]; exact (And.intro (Or.inr rfl) (And.intro (Or.inr rfl) (And.intro (Or.inr rfl) (And.intro (Or.inr rfl) (And.intro (Or.inr rfl) (And.intro (Or.inl rfl) (And.intro (Or.inr rfl) (And.intro (Or.inr rfl) trivial)))))))))
              | (simp only [fa, fb, if_neg c39]; exact (And.intro (Or.inr rfl) (And.intro (Or.inr rfl) (And.intro (Or.inr rfl) (And.intro (Or.inr rfl) (And.intro (Or.inr rfl) (And.intro (Or.inl rfl) (And.intro (Or.inr rfl) (And.intro (Or.inr rfl) trivial)))))))))
              | exact absurd c39 c51
              | exact absurd c51 c39
          refine Wp.aload_n (pc2 := 63) dX5_finds_62 rfl rfl ?_
          refine Wp.iload (pc2 := 65) dX5_finds_63 rfl rfl ?_
          refine Wp.iload (pc2 := 67) dX5_finds_65 rfl rfl ?_
          refine Wp.callV (pc2 := 70) kX5_finds_124 vX5_isAlike (m_isAlike V (fa t r x') (fb t r x') hV hfab.2.1 hfab.2.2 (by omega) (by omega)) dX5_finds_67 rfl rfl rfl rfl rfl (Nat.le_of_ble_eq_true rfl) ?_
          rintro _ _ ⟨⟨b, rfl, hb⟩, rfl⟩
          refine Wp.ifN_eq (pc2 := 73) 84 dX5_finds_70 rfl (by decide) (zb_lt _) (fun c70 => ?_) (fun c70 => ?_)
          · first
              | (have hal : alikeB V (fa t r x') (fb t r x') = true := alikeB_iff.mpr (zby hb c70)
                 have hW := hstep _ (if_pos ⟨hq5, hal⟩)
                 have hF2 : FI (mGive V (fa t r x') (fb t r x')) t r (i + 1) := by
                   have := FI_give hq ht hr hi hq5 (FI_mono hF hci)
                   rw [hqm] at this; exact this
                 have e23 : mGive V (fa t r x') (fb t r x') 0 23 = V 0 23 := mGive_o (by unfold gfree; omega)
                 have e1 : mGive V (fa t r x') (fb t r x') 1 (1 - t) = V 1 (1 - t) := mGive_o (by unfold gfree; omega)
                 have e26 : mGive V (fa t r x') (fb t r x') 0 26 = V 0 26 + 1 := by simp [mGive, vs]
                 refine Wp.fg [.ref 0, .int (nI t), .int (nI r), .int (nI (V 0 26 - V0 0 26 + 1)), .int (nI i), .null, .null, .null] (And.intro (Or.inr rfl) (And.intro (Or.inr rfl) (And.intro (Or.inr rfl) (And.intro (Or.inr rfl) (And.intro (Or.inr rfl) (And.intro (Or.inl rfl) (And.intro (Or.inl rfl) (And.intro (Or.inl rfl) trivial)))))))) ?_
                 rw [show V 0 26 - V0 0 26 + 1 = mGive V (fa t r x') (fb t r x') 0 26 - V0 0 26 by omega, ← zo_s i]
                 exact m_finds_n V0 t r Q ht (i + 1) _ (BV_give hV hfab.1 hglt) (by rw [e1, u1]; exact hrw) (by omega) (fun m h => ih (i + 1) (i + 1) m _ (by omega) (QI_give hq) (BV_give hV hfab.1 hglt) (GI_give hg hfab.1 hzero) hF2 hW (by omega) (by omega) (Nat.le_refl _) (fun j _ h _ => h) (by omega) h))
              | (have hal : ¬ (V 22 i / 50 = 1 - t ∧ alikeB V (fa t r x') (fb t r x') = true) := fun z => zbn hb c70 (alikeB_iff.mp z.2)
                 have hW := hstep _ (if_neg hal)
                 refine Wp.fg [.ref 0, .int (nI t), .int (nI r), .int (nI (V 0 26 - V0 0 26)), .int (nI i), .null, .null, .null] (And.intro (Or.inr rfl) (And.intro (Or.inr rfl) (And.intro (Or.inr rfl) (And.intro (Or.inr rfl) (And.intro (Or.inr rfl) (And.intro (Or.inl rfl) (And.intro (Or.inl rfl) (And.intro (Or.inl rfl) trivial)))))))) ?_
                 rw [← zo_s i]
                 exact m_finds_n V0 t r Q ht (i + 1) V hV (by omega) (by omega) (fun m h => ih (i + 1) (i + 1) m V (by omega) hq hV hg (FI_mono hF (by omega)) hW (by omega) (by omega) (Nat.le_refl _) (fun j _ h _ => h) hgm h))
          · refine Wp.aload_n (pc2 := 74) dX5_finds_73 rfl rfl ?_
            refine Wp.iload (pc2 := 76) dX5_finds_74 rfl rfl ?_
            refine Wp.iload (pc2 := 78) dX5_finds_76 rfl rfl ?_
            refine Wp.callV (pc2 := 81) kX5_finds_148 vX5_gives (m_gives V (fa t r x') (fb t r x') hfab.1 hglt) dX5_finds_78 rfl rfl rfl rfl rfl (Nat.le_of_ble_eq_true rfl) ?_
            rintro _ _ ⟨rfl, rfl⟩
            refine Wp.iincN (pc2 := 84) dX5_finds_81 rfl rfl (by decide) rfl ?_
            first
              | (have hal : alikeB V (fa t r x') (fb t r x') = true := alikeB_iff.mpr (zby hb c70)
                 have hW := hstep _ (if_pos ⟨hq5, hal⟩)
                 have hF2 : FI (mGive V (fa t r x') (fb t r x')) t r (i + 1) := by
                   have := FI_give hq ht hr hi hq5 (FI_mono hF hci)
                   rw [hqm] at this; exact this
                 have e23 : mGive V (fa t r x') (fb t r x') 0 23 = V 0 23 := mGive_o (by unfold gfree; omega)
                 have e1 : mGive V (fa t r x') (fb t r x') 1 (1 - t) = V 1 (1 - t) := mGive_o (by unfold gfree; omega)
                 have e26 : mGive V (fa t r x') (fb t r x') 0 26 = V 0 26 + 1 := by simp [mGive, vs]
                 refine Wp.fg [.ref 0, .int (nI t), .int (nI r), .int (nI (V 0 26 - V0 0 26 + 1)), .int (nI i), .null, .null, .null] (And.intro (Or.inr rfl) (And.intro (Or.inr rfl) (And.intro (Or.inr rfl) (And.intro (Or.inr rfl) (And.intro (Or.inr rfl) (And.intro (Or.inl rfl) (And.intro (Or.inl rfl) (And.intro (Or.inl rfl) trivial)))))))) ?_
                 rw [show V 0 26 - V0 0 26 + 1 = mGive V (fa t r x') (fb t r x') 0 26 - V0 0 26 by omega, ← zo_s i]
                 exact m_finds_n V0 t r Q ht (i + 1) _ (BV_give hV hfab.1 hglt) (by rw [e1, u1]; exact hrw) (by omega) (fun m h => ih (i + 1) (i + 1) m _ (by omega) (QI_give hq) (BV_give hV hfab.1 hglt) (GI_give hg hfab.1 hzero) hF2 hW (by omega) (by omega) (Nat.le_refl _) (fun j _ h _ => h) (by omega) h))
              | (have hal : ¬ (V 22 i / 50 = 1 - t ∧ alikeB V (fa t r x') (fb t r x') = true) := fun z => zbn hb c70 (alikeB_iff.mp z.2)
                 have hW := hstep _ (if_neg hal)
                 refine Wp.fg [.ref 0, .int (nI t), .int (nI r), .int (nI (V 0 26 - V0 0 26)), .int (nI i), .null, .null, .null] (And.intro (Or.inr rfl) (And.intro (Or.inr rfl) (And.intro (Or.inr rfl) (And.intro (Or.inr rfl) (And.intro (Or.inr rfl) (And.intro (Or.inl rfl) (And.intro (Or.inl rfl) (And.intro (Or.inl rfl) trivial)))))))) ?_
                 rw [← zo_s i]
                 exact m_finds_n V0 t r Q ht (i + 1) V hV (by omega) (by omega) (fun m h => ih (i + 1) (i + 1) m V (by omega) hq hV hg (FI_mono hF (by omega)) hW (by omega) (by omega) (Nat.le_refl _) (fun j _ h _ => h) hgm h))
        · refine Wp.iload (pc2 := 56) dX5_finds_54 rfl rfl ?_
          refine Wp.goto (pc2 := 60) dX5_finds_56 (by decide) ?_
          refine Wp.istore (pc2 := 62) dX5_finds_60 rfl (by decide) rfl ?_
          have eA : (if t = 0 then r else x') = fa t r x' := rfl
          refine Wp.fg [.ref 0, .int (nI t), .int (nI r), .int (nI (V 0 26 - V0 0 26)), .int (nI i), .null, .int (nI (fa t r x')), .int (nI (fb t r x'))] ?_ ?_
          · first
              | (simp only [fa, fb, if_pos c39]; exact (And.intro (Or.inr rfl) (And.intro (Or.inr rfl) (And.intro (Or.inr rfl) (And.intro (Or.inr rfl) (And.intro (Or.inr rfl) (And.intro (Or.inl rfl) (And.intro (Or.inr rfl) (And.intro (Or.inr rfl) trivial)))))))))
              | (simp only [fa, fb, if_neg c39]; exact (And.intro (Or.inr rfl) (And.intro (Or.inr rfl) (And.intro (Or.inr rfl) (And.intro (Or.inr rfl) (And.intro (Or.inr rfl) (And.intro (Or.inl rfl) (And.intro (Or.inr rfl) (And.intro (Or.inr rfl) trivial)))))))))
              | exact absurd c39 c51
              | exact absurd c51 c39
          refine Wp.aload_n (pc2 := 63) dX5_finds_62 rfl rfl ?_
          refine Wp.iload (pc2 := 65) dX5_finds_63 rfl rfl ?_
          refine Wp.iload (pc2 := 67) dX5_finds_65 rfl rfl ?_
          refine Wp.callV (pc2 := 70) kX5_finds_124 vX5_isAlike (m_isAlike V (fa t r x') (fb t r x') hV hfab.2.1 hfab.2.2 (by omega) (by omega)) dX5_finds_67 rfl rfl rfl rfl rfl (Nat.le_of_ble_eq_true rfl) ?_
          rintro _ _ ⟨⟨b, rfl, hb⟩, rfl⟩
          refine Wp.ifN_eq (pc2 := 73) 84 dX5_finds_70 rfl (by decide) (zb_lt _) (fun c70 => ?_) (fun c70 => ?_)
          · first
              | (have hal : alikeB V (fa t r x') (fb t r x') = true := alikeB_iff.mpr (zby hb c70)
                 have hW := hstep _ (if_pos ⟨hq5, hal⟩)
                 have hF2 : FI (mGive V (fa t r x') (fb t r x')) t r (i + 1) := by
                   have := FI_give hq ht hr hi hq5 (FI_mono hF hci)
                   rw [hqm] at this; exact this
                 have e23 : mGive V (fa t r x') (fb t r x') 0 23 = V 0 23 := mGive_o (by unfold gfree; omega)
                 have e1 : mGive V (fa t r x') (fb t r x') 1 (1 - t) = V 1 (1 - t) := mGive_o (by unfold gfree; omega)
                 have e26 : mGive V (fa t r x') (fb t r x') 0 26 = V 0 26 + 1 := by simp [mGive, vs]
                 refine Wp.fg [.ref 0, .int (nI t), .int (nI r), .int (nI (V 0 26 - V0 0 26 + 1)), .int (nI i), .null, .null, .null] (And.intro (Or.inr rfl) (And.intro (Or.inr rfl) (And.intro (Or.inr rfl) (And.intro (Or.inr rfl) (And.intro (Or.inr rfl) (And.intro (Or.inl rfl) (And.intro (Or.inl rfl) (And.intro (Or.inl rfl) trivial)))))))) ?_
                 rw [show V 0 26 - V0 0 26 + 1 = mGive V (fa t r x') (fb t r x') 0 26 - V0 0 26 by omega, ← zo_s i]
                 exact m_finds_n V0 t r Q ht (i + 1) _ (BV_give hV hfab.1 hglt) (by rw [e1, u1]; exact hrw) (by omega) (fun m h => ih (i + 1) (i + 1) m _ (by omega) (QI_give hq) (BV_give hV hfab.1 hglt) (GI_give hg hfab.1 hzero) hF2 hW (by omega) (by omega) (Nat.le_refl _) (fun j _ h _ => h) (by omega) h))
              | (have hal : ¬ (V 22 i / 50 = 1 - t ∧ alikeB V (fa t r x') (fb t r x') = true) := fun z => zbn hb c70 (alikeB_iff.mp z.2)
                 have hW := hstep _ (if_neg hal)
                 refine Wp.fg [.ref 0, .int (nI t), .int (nI r), .int (nI (V 0 26 - V0 0 26)), .int (nI i), .null, .null, .null] (And.intro (Or.inr rfl) (And.intro (Or.inr rfl) (And.intro (Or.inr rfl) (And.intro (Or.inr rfl) (And.intro (Or.inr rfl) (And.intro (Or.inl rfl) (And.intro (Or.inl rfl) (And.intro (Or.inl rfl) trivial)))))))) ?_
                 rw [← zo_s i]
                 exact m_finds_n V0 t r Q ht (i + 1) V hV (by omega) (by omega) (fun m h => ih (i + 1) (i + 1) m V (by omega) hq hV hg (FI_mono hF (by omega)) hW (by omega) (by omega) (Nat.le_refl _) (fun j _ h _ => h) hgm h))
          · refine Wp.aload_n (pc2 := 74) dX5_finds_73 rfl rfl ?_
            refine Wp.iload (pc2 := 76) dX5_finds_74 rfl rfl ?_
            refine Wp.iload (pc2 := 78) dX5_finds_76 rfl rfl ?_
            refine Wp.callV (pc2 := 81) kX5_finds_148 vX5_gives (m_gives V (fa t r x') (fb t r x') hfab.1 hglt) dX5_finds_78 rfl rfl rfl rfl rfl (Nat.le_of_ble_eq_true rfl) ?_
            rintro _ _ ⟨rfl, rfl⟩
            refine Wp.iincN (pc2 := 84) dX5_finds_81 rfl rfl (by decide) rfl ?_
            first
              | (have hal : alikeB V (fa t r x') (fb t r x') = true := alikeB_iff.mpr (zby hb c70)
                 have hW := hstep _ (if_pos ⟨hq5, hal⟩)
                 have hF2 : FI (mGive V (fa t r x') (fb t r x')) t r (i + 1) := by
                   have := FI_give hq ht hr hi hq5 (FI_mono hF hci)
                   rw [hqm] at this; exact this
                 have e23 : mGive V (fa t r x') (fb t r x') 0 23 = V 0 23 := mGive_o (by unfold gfree; omega)
                 have e1 : mGive V (fa t r x') (fb t r x') 1 (1 - t) = V 1 (1 - t) := mGive_o (by unfold gfree; omega)
                 have e26 : mGive V (fa t r x') (fb t r x') 0 26 = V 0 26 + 1 := by simp [mGive, vs]
                 refine Wp.fg [.ref 0, .int (nI t), .int (nI r), .int (nI (V 0 26 - V0 0 26 + 1)), .int (nI i), .null, .null, .null] (And.intro (Or.inr rfl) (And.intro (Or.inr rfl) (And.intro (Or.inr rfl) (And.intro (Or.inr rfl) (And.intro (Or.inr rfl) (And.intro (Or.inl rfl) (And.intro (Or.inl rfl) (And.intro (Or.inl rfl) trivial)))))))) ?_
                 rw [show V 0 26 - V0 0 26 + 1 = mGive V (fa t r x') (fb t r x') 0 26 - V0 0 26 by omega, ← zo_s i]
                 exact m_finds_n V0 t r Q ht (i + 1) _ (BV_give hV hfab.1 hglt) (by rw [e1, u1]; exact hrw) (by omega) (fun m h => ih (i + 1) (i + 1) m _ (by omega) (QI_give hq) (BV_give hV hfab.1 hglt) (GI_give hg hfab.1 hzero) hF2 hW (by omega) (by omega) (Nat.le_refl _) (fun j _ h _ => h) (by omega) h))
              | (have hal : ¬ (V 22 i / 50 = 1 - t ∧ alikeB V (fa t r x') (fb t r x') = true) := fun z => zbn hb c70 (alikeB_iff.mp z.2)
                 have hW := hstep _ (if_neg hal)
                 refine Wp.fg [.ref 0, .int (nI t), .int (nI r), .int (nI (V 0 26 - V0 0 26)), .int (nI i), .null, .null, .null] (And.intro (Or.inr rfl) (And.intro (Or.inr rfl) (And.intro (Or.inr rfl) (And.intro (Or.inr rfl) (And.intro (Or.inr rfl) (And.intro (Or.inl rfl) (And.intro (Or.inl rfl) (And.intro (Or.inl rfl) trivial)))))))) ?_
                 rw [← zo_s i]
                 exact m_finds_n V0 t r Q ht (i + 1) V hV (by omega) (by omega) (fun m h => ih (i + 1) (i + 1) m V (by omega) hq hV hg (FI_mono hF (by omega)) hW (by omega) (by omega) (Nat.le_refl _) (fun j _ h _ => h) hgm h))

theorem QI_new {W : zS} (h : QI W) {t r : Nat} (ht : t < 2) (hr : r < 50) (h1 : W 18 (50 * t + r) < 2) (hc : W 0 23 < 100) (g : Nat) :
    QI (vs (vs (vs (vs (vs W 17 t g) 18 (50 * t + r) 2) 19 (50 * t + r) (W 0 23)) 0 23 (W 0 23 + 1)) 22 (W 0 23) (50 * t + r)) := by
  generalize hZ : vs (vs (vs (vs (vs W 17 t g) 18 (50 * t + r) 2) 19 (50 * t + r) (W 0 23)) 0 23 (W 0 23 + 1)) 22 (W 0 23) (50 * t + r) = Z
  have e23 : Z 0 23 = W 0 23 + 1 := by rw [← hZ]; simp [vs]
  have e28 : Z 0 28 = W 0 28 := by rw [← hZ]; simp [vs]
  have e22 : ∀ i, Z 22 i = if i = W 0 23 then 50 * t + r else W 22 i := fun i => by rw [← hZ]; simp [vs]
  have e19 : ∀ i, Z 19 i = if i = 50 * t + r then W 0 23 else W 19 i := fun i => by rw [← hZ]; simp [vs]
  have e18 : ∀ i, Z 18 i = if i = 50 * t + r then 2 else W 18 i := fun i => by rw [← hZ]; simp [vs]
  obtain ⟨q1, q2, q3, q4⟩ := h
  have hne : ∀ i, i < W 0 23 → W 22 i ≠ 50 * t + r := by
    intro i hi z
    have := (q3 i hi).2.2
    rw [z] at this
    split at this <;> omega
  refine ⟨by omega, by omega, fun i hi => ?_, fun e he hp => ?_⟩
  · rw [e22, e28]
    by_cases q : i = W 0 23
    · rw [if_pos q, e19, e18, if_pos rfl, if_pos rfl, if_neg (by omega)]
      exact ⟨by omega, q.symm, rfl⟩
    · have k := q3 i (by omega)
      rw [if_neg q, e19, e18, if_neg (hne i (by omega)), if_neg (hne i (by omega))]
      exact k
  · rw [e18] at hp
    by_cases q : e = 50 * t + r
    · exact ⟨W 0 23, by omega, by rw [e22, if_pos rfl]; exact q.symm⟩
    · rw [if_neg q] at hp
      obtain ⟨i, hi, hz⟩ := q4 e he hp
      exact ⟨i, by omega, by rw [e22, if_neg (by omega)]; exact hz⟩

set_option maxRecDepth 100000 in
set_option maxHeartbeats 4000000 in
theorem m_finds (V : zS) (t r : Nat) (ht : t < 2) (hr : r < 50) (hq : QI V) (hV : BV V) (hg : GI V) (hF : FI V t r (V 0 28)) (hj0 : V 8 0 < 3) (hj1 : V 8 1 < 3) (hrw : V 1 (1 - t) ≤ 50) (hPI : PI V) (h1 : V 18 (50 * t + r) < 2) (hc : V 0 23 < 100) (hgv : V 17 t ≤ 2500) : PM mX5_finds [.ref 0, .int (nI t), .int (nI r)] (hM V) (fun zr zq => zr = some (.int (nI (mFinds0 V t r 0 26 - V 0 26))) ∧ zq = hM (mFinds V t r)) := by
  refine PM.of (by decide +kernel) (by simp [Value.category]) (Nat.le_of_ble_eq_true rfl) ?_
  refine Wp.iconN (pc2 := 1) 0 dX5_finds_0 rfl ?_
  refine Wp.istore_n (pc2 := 2) dX5_finds_1 rfl (by decide) rfl ?_
  refine Wp.icon (pc2 := 3) dX5_finds_2 rfl (-1) (by decide +kernel) ?_
  refine Wp.istore (pc2 := 5) dX5_finds_3 rfl (by decide) rfl ?_
  refine Wp.aload_n (pc2 := 6) dX5_finds_5 rfl rfl ?_
  refine Wp.iconN (pc2 := 7) 1 dX5_finds_6 rfl ?_
  refine Wp.iload_n (pc2 := 8) dX5_finds_7 rfl rfl ?_
  refine Wp.isubN (pc2 := 9) dX5_finds_8 rfl (by omega) ?_
  refine Wp.iload (pc2 := 11) dX5_finds_9 rfl rfl ?_
  change Wp _ _ _ _ (.int (zo 0) :: _) _
  refine Wp.callV (pc2 := 14) kX5_finds_145 vX5_nextIn (m_nextIn V (1 - t) 0 hV (by omega) hrw (by decide)) dX5_finds_11 rfl rfl rfl rfl rfl (Nat.le_of_ble_eq_true rfl) ?_
  rintro _ _ ⟨⟨m, rfl, h⟩, rfl⟩
  refine Wp.istore (pc2 := 16) dX5_finds_14 rfl (by decide) rfl ?_
  refine Wp.leq (L' := [.ref 0, .int (nI t), .int (nI r), .int (nI (V 0 26 - V 0 26)), .int (zo 0), .int (zo m), .null, .null]) (by rw [Nat.sub_self]; rfl) ?_
  refine m_finds_l V t r _ ht hr hj0 hj1 hrw hPI (fun W hW hqW hVW hgW => ?_) (V 0 23 + 1) (V 0 28) 0 m V (by omega) hq hV hg hF (by rw [Nat.sub_self]; rfl) (Nat.le_refl _) hq.1 (Nat.zero_le _) (fun i _ _ h => h) (Nat.le_refl _) h
  have u : ∀ k j, gfree k j → W k j = V k j := fun k j z => by rw [hW]; exact fnd_o z _ _ _
  have u23 : W 0 23 = V 0 23 := u 0 23 (by unfold gfree; omega)
  have u18 : W 18 (50 * t + r) = V 18 (50 * t + r) := u 18 _ (by unfold gfree; omega)
  have u17 : W 17 t = V 17 t := u 17 _ (by unfold gfree; omega)
  have g26 := GI_le hgW
  have hQ2 := QI_new hqW ht hr (by omega) (by omega) (W 17 t + (W 0 26 - V 0 26))
  refine Wp.aload_n (pc2 := 99) dX5_finds_98 rfl rfl ?_
  refine Wp.getf (pc2 := 102) fX5_66 dX5_finds_99 rfl rfl rfl ?_
  refine Wp.iload_n (pc2 := 103) dX5_finds_102 rfl rfl ?_
  refine Wp.dup2 (pc2 := 104) dX5_finds_103 rfl rfl rfl ?_
  refine Wp.ialdN (pc2 := 105) dX5_finds_104 rfl rfl (by omega) (by decide) ?_
  refine Wp.iload_n (pc2 := 106) dX5_finds_105 rfl rfl ?_
  refine Wp.iaddN (pc2 := 107) dX5_finds_106 rfl  ?_
  refine Wp.iastN (pc2 := 108) dX5_finds_107 rfl rfl (by omega) (by decide) ?_
  refine Wp.heq (hM_a17 _ _ _) ?_
  refine Wp.aload_n (pc2 := 109) dX5_finds_108 rfl rfl ?_
  refine Wp.getf (pc2 := 112) fX5_69 dX5_finds_109 rfl rfl rfl ?_
  refine Wp.bipN (pc2 := 114) 50 dX5_finds_112 rfl (by decide +kernel) ?_
  refine Wp.iload_n (pc2 := 115) dX5_finds_114 rfl rfl ?_
  refine Wp.imulN (pc2 := 116) dX5_finds_115 rfl  ?_
  refine Wp.iload_n (pc2 := 117) dX5_finds_116 rfl rfl ?_
  refine Wp.iaddN (pc2 := 118) dX5_finds_117 rfl  ?_
  refine Wp.iconN (pc2 := 119) 2 dX5_finds_118 rfl ?_
  refine Wp.iastN (pc2 := 120) dX5_finds_119 rfl rfl (by omega) (by decide) ?_
  refine Wp.heq (hM_a18 _ _ _) ?_
  refine Wp.aload_n (pc2 := 121) dX5_finds_120 rfl rfl ?_
  refine Wp.getf (pc2 := 124) fX5_72 dX5_finds_121 rfl rfl rfl ?_
  refine Wp.bipN (pc2 := 126) 50 dX5_finds_124 rfl (by decide +kernel) ?_
  refine Wp.iload_n (pc2 := 127) dX5_finds_126 rfl rfl ?_
  refine Wp.imulN (pc2 := 128) dX5_finds_127 rfl  ?_
  refine Wp.iload_n (pc2 := 129) dX5_finds_128 rfl rfl ?_
  refine Wp.iaddN (pc2 := 130) dX5_finds_129 rfl  ?_
  refine Wp.aload_n (pc2 := 131) dX5_finds_130 rfl rfl ?_
  refine Wp.getf (pc2 := 134) fX5_100 dX5_finds_131 rfl rfl rfl ?_
  change Wp _ _ _ _ (.int (nI (W 0 23)) :: _) _
  refine Wp.iastN (pc2 := 135) dX5_finds_134 rfl rfl (by omega) (by decide) ?_
  refine Wp.heq (hM_a19 _ _ _) ?_
  refine Wp.aload_n (pc2 := 136) dX5_finds_135 rfl rfl ?_
  refine Wp.dup (pc2 := 137) dX5_finds_136 rfl rfl ?_
  refine Wp.getf (pc2 := 140) fX5_100 dX5_finds_137 rfl rfl rfl ?_
  refine Wp.iconN (pc2 := 141) 1 dX5_finds_140 rfl ?_
  refine Wp.iaddN (pc2 := 142) dX5_finds_141 rfl  ?_
  change Wp _ _ _ _ (.int (nI (W 0 23 + 1)) :: _) _
  refine Wp.putf (pc2 := 145) gX5_100 dX5_finds_142 rfl rfl (Nat.le_of_ble_eq_true rfl) rfl rfl ?_
  refine Wp.heq (hM_o0_23 _ _) ?_
  change Wp _ _ _ _ _ (hM (mFinds1 V W t r))
  refine Wp.aload_n (pc2 := 146) dX5_finds_145 rfl rfl ?_
  refine Wp.callV (pc2 := 149) kX5_finds_152 vX5_spills (m_spills (mFinds1 V W t r) hQ2 (((((hVW.up (by omega)).up (by decide)).up (by omega)).up (by omega)).up (by omega))) dX5_finds_146 rfl rfl rfl rfl rfl (Nat.le_of_ble_eq_true rfl) ?_
  rintro _ _ ⟨rfl, rfl⟩
  refine Wp.iload_n (pc2 := 150) dX5_finds_149 rfl rfl ?_
  refine Wp.ret dX5_finds_150 rfl rfl ?_
  unfold mFinds
  rw [← hW]
  exact ⟨rfl, rfl⟩
end
section
/-- another order of the tests of table t -/
def ordV (V : zS) (t : Nat) (o : Nat → Nat) : zS := fun a b => if a = 11 ∧ 4 * t ≤ b ∧ b < 4 * t + 4 then o (b - 4 * t) else V a b
theorem ordV_at (V : zS) (t : Nat) (o : Nat → Nat) {j : Nat} (h : j < 4) : ordV V t o 11 (4 * t + j) = o j := by
  unfold ordV
  rw [if_pos ⟨rfl, by omega, by omega⟩, show 4 * t + j - 4 * t = j by omega]
theorem ordV_k (V : zS) (t : Nat) (o : Nat → Nat) {a b : Nat} (h : a ≠ 11) : ordV V t o a b = V a b := by
  unfold ordV
  rw [if_neg (fun z => h z.1)]
theorem ordV_vs (V : zS) (t : Nat) (o : Nat → Nat) {j : Nat} (x : Nat) (h : j < 4) : vs (ordV V t o) 11 (4 * t + j) x = ordV V t (fun i => if i = j then x else o i) := by
  funext a b
  unfold vs ordV
  by_cases q : a = 11
  · subst q
    by_cases q2 : b = 4 * t + j
    · subst q2
      rw [if_pos rfl, if_pos rfl, if_pos ⟨rfl, by omega, by omega⟩]
      show x = if _ = j then x else _
      rw [if_pos (by omega)]
    · rw [if_pos rfl, if_neg q2]
      by_cases q3 : 4 * t ≤ b ∧ b < 4 * t + 4
      · rw [if_pos ⟨rfl, q3⟩, if_pos ⟨rfl, q3⟩]
        show _ = if _ = j then x else _
        rw [if_neg (by omega)]
      · rw [if_neg (fun z => q3 z.2), if_neg (fun z => q3 z.2)]
  · rw [if_neg q, if_neg (fun z => q z.1), if_neg (fun z => q z.1)]
theorem ordV_self (V : zS) (t : Nat) {o : Nat → Nat} (h : ∀ j, j < 4 → o j = V 11 (4 * t + j)) : ordV V t o = V := by
  funext a b
  unfold ordV
  by_cases q : a = 11 ∧ 4 * t ≤ b ∧ b < 4 * t + 4
  · rw [if_pos q, h _ (by omega), q.1, show 4 * t + (b - 4 * t) = b by omega]
  · rw [if_neg q]
theorem ordV_less (V : zS) (t : Nat) (o : Nat → Nat) (a b : Nat) : lessP (ordV V t o) t a b ↔ lessP V t a b := by
  unfold lessP wgt
  simp only [ordV_k _ _ _ (show (7 : Nat) ≠ 11 by decide), ordV_k _ _ _ (show (13 : Nat) ≠ 11 by decide), ordV_k _ _ _ (show (14 : Nat) ≠ 11 by decide)]
theorem BV_ord {V : zS} (hV : BV V) (t : Nat) {o : Nat → Nat} (h : ∀ j, j < 4 → o j < 4) : BV (ordV V t o) := by
  intro a b
  unfold ordV
  split
  · have := h (b - 4 * t) (by omega); omega
  · exact hV a b
theorem lx_le {ca cb cd fa fb fd : Nat} (hb : 0 < fb) (h1 : ca * fb ≤ cb * fa) (h2 : cb * fd ≤ cd * fb) : ca * fd ≤ cd * fa := by
  have k1 := Nat.mul_le_mul_right fd h1
  have k2 := Nat.mul_le_mul_right fa h2
  have e1 : cb * fa * fd = cb * fd * fa := by rw [Nat.mul_assoc, Nat.mul_comm fa fd, ← Nat.mul_assoc]
  have e2 : ca * fb * fd = ca * fd * fb := by rw [Nat.mul_assoc, Nat.mul_comm fb fd, ← Nat.mul_assoc]
  have e3 : cd * fb * fa = cd * fa * fb := by rw [Nat.mul_assoc, Nat.mul_comm fb fa, ← Nat.mul_assoc]
  exact Nat.le_of_mul_le_mul_right (by omega : ca * fd * fb ≤ cd * fa * fb) hb
theorem lx_lt {ca cb cd fa fb fd : Nat} (hd : 0 < fd) (ha : 0 < fa) (h1 : ca * fb ≤ cb * fa) (h2 : cb * fd ≤ cd * fb) (h3 : ca * fb < cb * fa ∨ cb * fd < cd * fb) : ca * fd < cd * fa := by
  have k1 := Nat.mul_le_mul_right fd h1
  have k2 := Nat.mul_le_mul_right fa h2
  have e1 : cb * fa * fd = cb * fd * fa := by rw [Nat.mul_assoc, Nat.mul_comm fa fd, ← Nat.mul_assoc]
  have e2 : ca * fb * fd = ca * fd * fb := by rw [Nat.mul_assoc, Nat.mul_comm fb fd, ← Nat.mul_assoc]
  have e3 : cd * fb * fa = cd * fa * fb := by rw [Nat.mul_assoc, Nat.mul_comm fb fa, ← Nat.mul_assoc]
  have k : ca * fd * fb < cd * fa * fb := by
    rcases h3 with h | h
    · have := Nat.mul_lt_mul_of_pos_right h hd; omega
    · have := Nat.mul_lt_mul_of_pos_right h ha; omega
  exact Nat.lt_of_mul_lt_mul_right k
theorem less_trans {V : zS} {t a b d : Nat} (h1 : lessP V t a b) (h2 : lessP V t b d) : lessP V t a d := by
  unfold lessP wgt at *
  have pa : 0 < V 14 (4 * t + a) + 1 := Nat.succ_pos _
  have pb : 0 < V 14 (4 * t + b) + 1 := Nat.succ_pos _
  have pd : 0 < V 14 (4 * t + d) + 1 := Nat.succ_pos _
  have g1 := h1.elim Nat.le_of_lt (fun q => Nat.le_of_eq q.1)
  have g2 := h2.elim Nat.le_of_lt (fun q => Nat.le_of_eq q.1)
  have g3 := lx_le pb g1 g2
  rcases h1 with h1 | h1
  · exact Or.inl (lx_lt pd pa g1 g2 (Or.inl h1))
  · rcases h2 with h2 | h2
    · exact Or.inl (lx_lt pd pa g1 g2 (Or.inr h2))
    · rcases Nat.lt_or_ge (V 7 (4 * t + a) * (V 13 (4 * t + a) + 2) * (V 14 (4 * t + d) + 1)) (V 7 (4 * t + d) * (V 13 (4 * t + d) + 2) * (V 14 (4 * t + a) + 1)) with q | q
      · exact Or.inl q
      · exact Or.inr ⟨Nat.le_antisymm g3 q, by omega⟩
theorem less_tot (V : zS) (t a b : Nat) (h : a ≠ b) (hn : ¬ lessP V t a b) : lessP V t b a := by
  unfold lessP at *
  omega
theorem less_asym {V : zS} {t a b : Nat} (h1 : lessP V t a b) (h2 : lessP V t b a) : False := by
  unfold lessP at *
  omega
/-- the tests of table t in the order o: by price for each that fails -/
def srtd (V : zS) (t n : Nat) (o : Nat → Nat) : Prop := (∀ i j, i < j → j < n → lessP V t (o i) (o j)) ∧ (∀ j, j < n → ∃ i, i < n ∧ o j = V 11 (4 * t + i)) ∧ (∀ i, i < n → ∃ j, j < n ∧ V 11 (4 * t + i) = o j) ∧ ∀ j, n ≤ j → o j = V 11 (4 * t + j)
theorem srtd_le {V : zS} {t n : Nat} {o o' : Nat → Nat} (h : srtd V t n o) (h' : srtd V t n o') {k : Nat} (hk : k < n) (ih : ∀ j, j < k → o j = o' j) : o k = o' k ∨ lessP V t (o' k) (o k) := by
  obtain ⟨i, hi, e1⟩ := h.2.1 k hk
  obtain ⟨j, hj, e2⟩ := h'.2.2.1 i hi
  rcases Nat.lt_trichotomy j k with q | q | q
  · have := h.1 j k q hk
    rw [ih j q, ← e2, ← e1] at this
    exact absurd this (fun z => less_asym z z)
  · subst q; exact Or.inl (e1.trans e2)
  · have := h'.1 k j q hj
    rw [← e2, ← e1] at this
    exact Or.inr this
theorem srtd_uniq {V : zS} {t n : Nat} {o o' : Nat → Nat} (h : srtd V t n o) (h' : srtd V t n o') : o = o' := by
  have key : ∀ k, ∀ j, j < k → j < n → o j = o' j := by
    intro k
    induction k with
    | zero => intro j hj; omega
    | succ k ih =>
      intro j hj hn
      rcases Nat.lt_or_ge j k with q | q
      · exact ih j q hn
      · have e : j = k := by omega
        subst e
        rcases srtd_le h h' hn (fun i hi => ih i hi (by omega)) with q1 | q1
        · exact q1
        · rcases srtd_le h' h hn (fun i hi => (ih i hi (by omega)).symm) with q2 | q2
          · exact q2.symm
          · exact absurd q1 (fun z => less_asym z q2)
  funext j
  rcases Nat.lt_or_ge j n with q | q
  · exact key (j + 1) j (by omega) q
  · rw [h.2.2.2 j q, h'.2.2.2 j q]
def turnR (V : zS) (t : Nat) (V' : zS) : Prop := ∃ o, srtd V t (V 9 t) o ∧ ((∀ j, j < V 9 t → o j = V 11 (4 * t + j)) → V' = V) ∧ ((∃ j, j < V 9 t ∧ o j ≠ V 11 (4 * t + j)) → V' = vs (ordV V t o) 0 31 (V 0 31 + 1))
theorem turnR_uniq {V : zS} {t : Nat} {V1 V2 : zS} (h1 : turnR V t V1) (h2 : turnR V t V2) : V1 = V2 := by
  obtain ⟨o, a1, a2, a3⟩ := h1
  obtain ⟨o', b1, b2, b3⟩ := h2
  have e := srtd_uniq a1 b1
  subst e
  by_cases q : ∀ j, j < V 9 t → o j = V 11 (4 * t + j)
  · rw [a2 q, b2 q]
  · have q2 : ∃ j, j < V 9 t ∧ o j ≠ V 11 (4 * t + j) := by
      apply Classical.byContradiction
      intro z
      exact q (fun j hj => Classical.byContradiction (fun w => z ⟨j, hj, w⟩))
    rw [a3 q2, b3 q2]
noncomputable def mTurn (V : zS) (t : Nat) : zS := @dite _ (∃ V', turnR V t V') (Classical.propDecidable _) (fun h => Classical.choose h) (fun _ => V)
theorem mTurn_eq {V : zS} {t : Nat} {V' : zS} (h : turnR V t V') : mTurn V t = V' := by
  unfold mTurn
  have hx : ∃ V', turnR V t V' := ⟨V', h⟩
  rw [dif_pos hx]
  exact turnR_uniq (Classical.choose_spec hx) h
noncomputable def mTurns (V : zS) (t : Nat) : zS := if V 12 t = 0 then mTurn V t else V
/-- A with its element k moved down to p -/
def shf (A : Nat → Nat) (k p : Nat) : Nat → Nat := fun j => if p < j ∧ j ≤ k then A (j - 1) else A j
def insA (A : Nat → Nat) (k p : Nat) : Nat → Nat := fun j => if j = p then A k else shf A k p j
theorem shf_k (A : Nat → Nat) (k : Nat) : shf A k k = A := by
  funext j
  unfold shf
  rw [if_neg (by omega)]
theorem shf_s (A : Nat → Nat) {k p : Nat} (h1 : 1 ≤ p) (h2 : p ≤ k) : (fun i => if i = p then A (p - 1) else shf A k p i) = shf A k (p - 1) := by
  funext j
  unfold shf
  by_cases q : j = p
  · subst q
    rw [if_pos rfl, if_pos (by omega)]
  · rw [if_neg q]
    by_cases q2 : p < j ∧ j ≤ k
    · rw [if_pos q2, if_pos (by omega)]
    · rw [if_neg q2, if_neg (by omega)]
/-- the first k tests of table t stand in order -/
def oInv (V : zS) (t n k : Nat) (A : Nat → Nat) : Prop := (∀ i j, i < j → j < k → j < n → lessP V t (A i) (A j)) ∧ (∀ j, j < n → ∃ i, i < n ∧ A j = V 11 (4 * t + i)) ∧ (∀ i, i < n → ∃ j, j < n ∧ V 11 (4 * t + i) = A j) ∧ (∀ j, k ≤ j → A j = V 11 (4 * t + j)) ∧ (∀ i j, i < n → j < n → A i = A j → i = j) ∧ ∀ j, j < 4 → A j < 4
theorem oInv_ins {V : zS} {t n k p : Nat} {A : Nat → Nat} (h : oInv V t n k A) (hk : k < n) (h1 : 1 ≤ k) (hp : p ≤ k) (hn : n ≤ 4) (hl : ∀ j, p ≤ j → j < k → lessP V t (A k) (A j)) (hs : p = 0 ∨ ¬ lessP V t (A k) (A (p - 1))) : oInv V t n (k + 1) (insA A k p) := by
  obtain ⟨q1, q2, q3, q4, q5, q6⟩ := h
  have hlow : ∀ i, i < p → lessP V t (A i) (A k) := by
    intro i hi
    rcases hs with hs | hs
    · omega
    · have hne : A k ≠ A (p - 1) := fun z => by have := q5 k (p - 1) (by omega) (by omega) z; omega
      have hb := less_tot V t _ _ hne hs
      rcases Nat.lt_or_ge i (p - 1) with q | q
      · exact less_trans (q1 i (p - 1) q (by omega) (by omega)) hb
      · have : i = p - 1 := by omega
        rw [this]; exact hb
  have v1 : ∀ j, j < p → insA A k p j = A j := fun j hj => by unfold insA shf; rw [if_neg (by omega), if_neg (by omega)]
  have v2 : insA A k p p = A k := by unfold insA; rw [if_pos rfl]
  have v3 : ∀ j, p < j → j ≤ k → insA A k p j = A (j - 1) := fun j h1 h2 => by unfold insA shf; rw [if_neg (by omega), if_pos ⟨h1, h2⟩]
  have v4 : ∀ j, k < j → insA A k p j = A j := fun j hj => by unfold insA shf; rw [if_neg (by omega), if_neg (by omega)]
  have src : ∀ j, ∃ i, insA A k p j = A i ∧ (j ≤ k → i ≤ k) ∧ (k < j → i = j) ∧ (j < p → i = j) ∧ (j = p → i = k) ∧ (p < j → j ≤ k → i = j - 1) := by
    intro j
    rcases Nat.lt_trichotomy j p with q | q | q
    · exact ⟨j, v1 j q, by omega, by omega, by omega, by omega, by omega⟩
    · subst q; exact ⟨k, v2, by omega, by omega, by omega, by omega, by omega⟩
    · rcases Nat.lt_or_ge k j with q' | q'
      · exact ⟨j, v4 j q', by omega, by omega, by omega, by omega, by omega⟩
      · exact ⟨j - 1, v3 j q q', by omega, by omega, by omega, by omega, by omega⟩
  refine ⟨fun i j hij hj hjn => ?_, fun j hj => ?_, fun i hi => ?_, fun j hj => ?_, fun i j hi hj e => ?_, fun j hj => ?_⟩
  · rcases Nat.lt_trichotomy j p with b | b | b
    · rw [v1 i (by omega), v1 j b]; exact q1 i j hij (by omega) hjn
    · subst b; rw [v1 i hij, v2]; exact hlow i hij
    · rw [v3 j b (by omega)]
      rcases Nat.lt_trichotomy i p with c | c | c
      · rw [v1 i c]
        exact q1 i (j - 1) (by omega) (by omega) (by omega)
      · subst c; rw [v2]; exact hl (j - 1) (by omega) (by omega)
      · rw [v3 i c (by omega)]; exact q1 (i - 1) (j - 1) (by omega) (by omega) (by omega)
  · obtain ⟨i, e, e1, e2, -⟩ := src j
    rw [e]
    exact q2 i (by omega)
  · obtain ⟨j, hj, e⟩ := q3 i hi
    rcases Nat.lt_trichotomy j k with z | z | z
    · rcases Nat.lt_or_ge j p with y | y
      · exact ⟨j, hj, by rw [v1 j y]; exact e⟩
      · exact ⟨j + 1, by omega, by rw [v3 (j + 1) (by omega) (by omega)]; exact e⟩
    · exact ⟨p, by omega, by rw [v2, ← z]; exact e⟩
    · exact ⟨j, hj, by rw [v4 j z]; exact e⟩
  · rw [v4 j (by omega)]; exact q4 j (by omega)
  · obtain ⟨i', e1, a1, a2, a3, a4, a5⟩ := src i
    obtain ⟨j', e2, b1, b2, b3, b4, b5⟩ := src j
    rw [e1, e2] at e
    have hi' : i' < n := by omega
    have hj' : j' < n := by omega
    have := q5 i' j' hi' hj' e
    omega
  · obtain ⟨i', e1, a1, a2, -⟩ := src j
    rw [e1]
    exact q6 i' (by omega)
def oFlag (V : zS) (t n : Nat) (A : Nat → Nat) (is : Bool) : Prop := (is = false → ∀ j, A j = V 11 (4 * t + j)) ∧ (is = true → ∃ i j, i < j ∧ j < n ∧ lessP V t (V 11 (4 * t + j)) (V 11 (4 * t + i)))
theorem oInv_end {V : zS} {t k : Nat} {A : Nat → Nat} {is : Bool} (h : oInv V t (V 9 t) k A) (hk : V 9 t ≤ k) (hf : oFlag V t (V 9 t) A is) (hk1 : V 9 t = k ∨ is = false) : turnR V t (if is then vs (ordV V t A) 0 31 (V 0 31 + 1) else V) := by
  obtain ⟨q1, q2, q3, q4, q5, q6⟩ := h
  have hge : ∀ j, V 9 t ≤ j → A j = V 11 (4 * t + j) := by
    intro j hj
    rcases hk1 with e | e
    · exact q4 j (by omega)
    · exact hf.1 e j
  refine ⟨A, ⟨fun i j h1 h2 => q1 i j h1 (by omega) h2, q2, q3, hge⟩, fun hu => ?_, fun ⟨j, hj, hne⟩ => ?_⟩
  · cases is with
    | false => rfl
    | true =>
      obtain ⟨i, j, h1, h2, h3⟩ := hf.2 rfl
      rw [← hu i (by omega), ← hu j h2] at h3
      exact absurd (q1 i j h1 (by omega) h2) (fun z => less_asym z h3)
  · cases is with
    | false => exact absurd (hf.1 rfl j) hne
    | true => rfl

set_option maxRecDepth 100000 in
set_option maxHeartbeats 4000000 in
theorem m_turns_i (V : zS) (t k : Nat) (A : Nat → Nat) (Q : Option Value → zh → Prop) (hV : BV V) (ht : t < 2) (hk : k < V 9 t) (h1k : 1 ≤ k) (hn : V 9 t ≤ 4) (h : oInv V t (V 9 t) k A) (is0 : Bool) (hf : oFlag V t (V 9 t) A is0)
    (K : ∀ p is, p ≤ k → oInv V t (V 9 t) (k + 1) (insA A k p) → oFlag V t (V 9 t) (insA A k p) is → Wp mX5_turns Q 14 [.ref 0, .int (nI t), .int (nI (zb is)), .int (nI (k + 1)), .null, .null] [] (hM (ordV V t (insA A k p)))) :
    ∀ (n p : Nat) (is : Bool), p < n → p ≤ k → (∀ j, p ≤ j → j < k → lessP V t (A k) (A j)) → ((p = k ∧ is = is0) ∨ (is = true ∧ p < k)) → Wp mX5_turns Q 40 [.ref 0, .int (nI t), .int (nI (zb is)), .int (nI k), .int (nI (4 * t + p)), .int (nI (A k))] [] (hM (ordV V t (shf A k p))) := by
  have h6 := h.2.2.2.2.2
  intro n
  induction n with
  | zero => intro p is h1; omega
  | succ n ih =>
    intro p is hpn hp hl his
    have hs4 : ∀ j, j < 4 → shf A k p j < 4 := by
      intro j hj
      unfold shf
      split
      · exact h6 _ (by omega)
      · exact h6 j hj
    have leave : (p = 0 ∨ ¬ lessP V t (A k) (A (p - 1))) → Wp mX5_turns Q 91 [.ref 0, .int (nI t), .int (nI (zb is)), .int (nI k), .int (nI (4 * t + p)), .int (nI (A k))] [] (hM (ordV V t (shf A k p))) := by
      intro hs
      have hin := oInv_ins h hk h1k hp hn hl hs
      have hfl : oFlag V t (V 9 t) (insA A k p) is := by
        rcases his with ⟨e1, e2⟩ | ⟨e1, e2⟩
        · subst e1; subst e2
          have e : insA A p p = A := by
            funext j
            unfold insA
            rw [shf_k]
            by_cases q : j = p
            · rw [if_pos q, q]
            · rw [if_neg q]
          rw [e]; exact hf
        · refine ⟨fun z => (by rw [e1] at z; cases z), fun _ => ?_⟩
          cases is0 with
          | true => exact hf.2 rfl
          | false =>
            have hA := hf.1 rfl
            have := hl (k - 1) (by omega) (by omega)
            rw [hA k, hA (k - 1)] at this
            exact ⟨k - 1, k, by omega, hk, this⟩
      refine Wp.aload_n (pc2 := 92) dX5_turns_91 rfl rfl ?_
      refine Wp.getf (pc2 := 95) fX5_47 dX5_turns_92 rfl rfl rfl ?_
      refine Wp.iload (pc2 := 97) dX5_turns_95 rfl rfl ?_
      refine Wp.iload (pc2 := 99) dX5_turns_97 rfl rfl ?_
      refine Wp.iastN (pc2 := 100) dX5_turns_99 rfl rfl (by omega) (by decide) ?_
      refine Wp.heq (hM_a11 _ _ _) ?_
      rw [ordV_vs V t _ _ (by omega)]
      refine Wp.iincN (pc2 := 103) dX5_turns_100 rfl rfl (by decide) rfl ?_
      refine Wp.goto (pc2 := 14) dX5_turns_103 (by decide) ?_
      refine Wp.fg [.ref 0, .int (nI t), .int (nI (zb is)), .int (nI (k + 1)), .null, .null] (And.intro (Or.inr rfl) (And.intro (Or.inr rfl) (And.intro (Or.inr rfl) (And.intro (Or.inr rfl) (And.intro (Or.inl rfl) (And.intro (Or.inl rfl) trivial)))))) ?_
      exact K p is hp hin hfl
    refine Wp.iload (pc2 := 42) dX5_turns_40 rfl rfl ?_
    refine Wp.iconN (pc2 := 43) 4 dX5_turns_42 rfl ?_
    refine Wp.iload_n (pc2 := 44) dX5_turns_43 rfl rfl ?_
    refine Wp.imulN (pc2 := 45) dX5_turns_44 rfl  ?_
    refine Wp.icmpN_le (pc2 := 48) 91 dX5_turns_45 rfl (by decide) (by omega) (by omega) (fun c45 => ?_) (fun c45 => ?_)
    · first
        | exact leave (Or.inl (by omega))
        | exact leave (Or.inr (fun z => zbn hb c64 ((ordV_less V t _ _ _).mpr z)))
    · have hsp : shf A k p (p - 1) = A (p - 1) := by
        unfold shf
        rw [if_neg (by omega)]
      have e41 : 4 * t + p - 1 = 4 * t + (p - 1) := by omega
      refine Wp.aload_n (pc2 := 49) dX5_turns_48 rfl rfl ?_
      refine Wp.iload_n (pc2 := 50) dX5_turns_49 rfl rfl ?_
      refine Wp.iload (pc2 := 52) dX5_turns_50 rfl rfl ?_
      refine Wp.aload_n (pc2 := 53) dX5_turns_52 rfl rfl ?_
      refine Wp.getf (pc2 := 56) fX5_47 dX5_turns_53 rfl rfl rfl ?_
      refine Wp.iload (pc2 := 58) dX5_turns_56 rfl rfl ?_
      refine Wp.iconN (pc2 := 59) 1 dX5_turns_58 rfl ?_
      refine Wp.isubN (pc2 := 60) dX5_turns_59 rfl (by omega) ?_
      rw [e41]
      refine Wp.ialdN (pc2 := 61) dX5_turns_60 rfl rfl (by omega) (by decide) ?_
      rw [ordV_at V t _ (by omega), hsp]
      refine Wp.callV (pc2 := 64) kX5_turns_158 vX5_isCheaper (m_isCheaper (ordV V t (shf A k p)) t (A k) (A (p - 1)) (BV_ord hV t hs4) ht (h6 k (by omega)) (h6 (p - 1) (by omega))) dX5_turns_61 rfl rfl rfl rfl rfl (Nat.le_of_ble_eq_true rfl) ?_
      rintro _ _ ⟨⟨b, rfl, hb⟩, rfl⟩
      refine Wp.ifN_eq (pc2 := 67) 91 dX5_turns_64 rfl (by decide) (zb_lt _) (fun c64 => ?_) (fun c64 => ?_)
      · first
          | exact leave (Or.inl (by omega))
          | exact leave (Or.inr (fun z => zbn hb c64 ((ordV_less V t _ _ _).mpr z)))
      · refine Wp.aload_n (pc2 := 68) dX5_turns_67 rfl rfl ?_
        refine Wp.getf (pc2 := 71) fX5_47 dX5_turns_68 rfl rfl rfl ?_
        refine Wp.iload (pc2 := 73) dX5_turns_71 rfl rfl ?_
        refine Wp.aload_n (pc2 := 74) dX5_turns_73 rfl rfl ?_
        refine Wp.getf (pc2 := 77) fX5_47 dX5_turns_74 rfl rfl rfl ?_
        refine Wp.iload (pc2 := 79) dX5_turns_77 rfl rfl ?_
        refine Wp.iconN (pc2 := 80) 1 dX5_turns_79 rfl ?_
        refine Wp.isubN (pc2 := 81) dX5_turns_80 rfl (by omega) ?_
        rw [e41]
        refine Wp.ialdN (pc2 := 82) dX5_turns_81 rfl rfl (by omega) (by decide) ?_
        rw [ordV_at V t _ (by omega), hsp]
        refine Wp.iastN (pc2 := 83) dX5_turns_82 rfl rfl (by omega) (by decide) ?_
        refine Wp.heq (hM_a11 _ _ _) ?_
        rw [ordV_vs V t _ _ (by omega), shf_s A (by omega) hp]
        refine Wp.iinc (pc2 := 86) dX5_turns_83 rfl rfl (nI (4 * t + (p - 1))) (by rw [show 4 * t + p = (4 * t + (p - 1)) + 1 by omega]; exact pk_m1 _) (by decide) rfl ?_
        refine Wp.iconN (pc2 := 87) 1 dX5_turns_86 rfl ?_
        refine Wp.istore_n (pc2 := 88) dX5_turns_87 rfl (by decide) rfl ?_
        refine Wp.goto (pc2 := 40) dX5_turns_88 (by decide) ?_
        have hl2 : ∀ j, p - 1 ≤ j → j < k → lessP V t (A k) (A j) := by
          intro j h1 h2
          rcases Nat.lt_or_ge j p with q | q
          · have : j = p - 1 := by omega
            rw [this]
            exact (ordV_less V t _ _ _).mp (zby hb c64)
          · exact hl j q h2
        exact ih (p - 1) true (by omega) (by omega) hl2 (Or.inr ⟨rfl, by omega⟩)

set_option maxRecDepth 100000 in
set_option maxHeartbeats 4000000 in
theorem m_turns_o (V : zS) (t : Nat) (hV : BV V) (ht : t < 2) (hn : V 9 t ≤ 4) (h31 : V 0 31 < 2 ^ 20 - 1) : ∀ (n k : Nat) (A : Nat → Nat) (is : Bool), V 9 t < k + n → 1 ≤ k → oInv V t (V 9 t) k A → oFlag V t (V 9 t) A is → (V 9 t < k → k = 1) → Wp mX5_turns (fun zr zq => zr = none ∧ zq = hM (mTurn V t)) 14 [.ref 0, .int (nI t), .int (nI (zb is)), .int (nI k), .null, .null] [] (hM (ordV V t A)) := by
  intro n
  induction n with
  | zero =>
    intro k A is h1 h2 h h4 h5
    have hk1 := h5 (by omega)
    have hisf : is = false := by
      cases is with
      | false => rfl
      | true => obtain ⟨i, j, q1, q2, -⟩ := h4.2 rfl; omega
    have hend := oInv_end h (by omega) h4 (Or.inr hisf)
    rw [hisf] at hend
    have hA : ordV V t A = V := ordV_self V t (fun j _ => h4.1 hisf j)
    rw [hA, hisf]
    refine Wp.iload_n (pc2 := 15) dX5_turns_14 rfl rfl ?_
    refine Wp.aload_n (pc2 := 16) dX5_turns_15 rfl rfl ?_
    refine Wp.getf (pc2 := 19) fX5_41 dX5_turns_16 rfl rfl rfl ?_
    refine Wp.iload_n (pc2 := 20) dX5_turns_19 rfl rfl ?_
    refine Wp.ialdN (pc2 := 21) dX5_turns_20 rfl rfl (by omega) (by decide) ?_
    refine Wp.icmpN_ge (pc2 := 24) 106 dX5_turns_21 rfl (by decide) (by omega) (by omega) (fun c21 => ?_) (fun c21 => ?_)
    · refine Wp.iload_n (pc2 := 107) dX5_turns_106 rfl rfl ?_
      refine Wp.ifN_eq (pc2 := 110) 120 dX5_turns_107 rfl (by decide) (zb_lt _) (fun c107 => ?_) (fun c107 => ?_)
      · refine Wp.retv dX5_turns_120 rfl ?_
        rw [mTurn_eq hend]
        exact ⟨rfl, rfl⟩
      · exfalso; exact absurd c107 (by decide)
    · exfalso; omega
  | succ n ih =>
    intro k A is h1 h2 h h4 h5
    have h6 := h.2.2.2.2.2
    have e9 : ordV V t A 9 t = V 9 t := ordV_k V t A (by decide)
    have e31 : ordV V t A 0 31 = V 0 31 := ordV_k V t A (by decide)
    refine Wp.iload_n (pc2 := 15) dX5_turns_14 rfl rfl ?_
    refine Wp.aload_n (pc2 := 16) dX5_turns_15 rfl rfl ?_
    refine Wp.getf (pc2 := 19) fX5_41 dX5_turns_16 rfl rfl rfl ?_
    refine Wp.iload_n (pc2 := 20) dX5_turns_19 rfl rfl ?_
    refine Wp.ialdN (pc2 := 21) dX5_turns_20 rfl rfl (by omega) (by decide) ?_
    refine Wp.icmpN_ge (pc2 := 24) 106 dX5_turns_21 rfl (by decide) (by omega) (by omega) (fun c21 => ?_) (fun c21 => ?_)
    · refine Wp.iload_n (pc2 := 107) dX5_turns_106 rfl rfl ?_
      refine Wp.ifN_eq (pc2 := 110) 120 dX5_turns_107 rfl (by decide) (zb_lt _) (fun c107 => ?_) (fun c107 => ?_)
      · refine Wp.retv dX5_turns_120 rfl ?_
        have his := zb_0 c107
        have hend := oInv_end h (by omega) h4 (Or.inr his)
        rw [his] at hend
        have hA : ordV V t A = V := ordV_self V t (fun j _ => h4.1 his j)
        rw [hA, mTurn_eq hend]
        exact ⟨rfl, rfl⟩
      · have his := zb_1 c107
        have hend := oInv_end h (by omega) h4 (Or.inl (by
          rcases Nat.lt_or_ge (V 9 t) k with q | q
          · have hk1 := h5 q
            obtain ⟨i, j, q1, q2, -⟩ := h4.2 his
            omega
          · omega))
        rw [his, if_pos rfl] at hend
        refine Wp.aload_n (pc2 := 111) dX5_turns_110 rfl rfl ?_
        refine Wp.dup (pc2 := 112) dX5_turns_111 rfl rfl ?_
        refine Wp.getf (pc2 := 115) fX5_118 dX5_turns_112 rfl rfl rfl ?_
        refine Wp.iconN (pc2 := 116) 1 dX5_turns_115 rfl ?_
        refine Wp.iaddN (pc2 := 117) dX5_turns_116 rfl  ?_
        change Wp _ _ _ _ (.int (nI (ordV V t A 0 31 + 1)) :: _) _
        rw [e31]
        refine Wp.putf (pc2 := 120) gX5_118 dX5_turns_117 rfl rfl (Nat.le_of_ble_eq_true rfl) rfl rfl ?_
        refine Wp.heq (hM_o0_31 _ _) ?_
        refine Wp.retv dX5_turns_120 rfl ?_
        rw [mTurn_eq hend]
        exact ⟨rfl, rfl⟩
    · refine Wp.iconN (pc2 := 25) 4 dX5_turns_24 rfl ?_
      refine Wp.iload_n (pc2 := 26) dX5_turns_25 rfl rfl ?_
      refine Wp.imulN (pc2 := 27) dX5_turns_26 rfl  ?_
      refine Wp.iload_n (pc2 := 28) dX5_turns_27 rfl rfl ?_
      refine Wp.iaddN (pc2 := 29) dX5_turns_28 rfl  ?_
      refine Wp.istore (pc2 := 31) dX5_turns_29 rfl (by decide) rfl ?_
      refine Wp.aload_n (pc2 := 32) dX5_turns_31 rfl rfl ?_
      refine Wp.getf (pc2 := 35) fX5_47 dX5_turns_32 rfl rfl rfl ?_
      refine Wp.iload (pc2 := 37) dX5_turns_35 rfl rfl ?_
      have ek : k < 4 := by omega
      refine Wp.ialdN (pc2 := 38) dX5_turns_37 rfl rfl (by omega) (by decide) ?_
      rw [ordV_at V t _ ek]
      refine Wp.istore (pc2 := 40) dX5_turns_38 rfl (by decide) rfl ?_
      have hs := shf_k A k
      refine Wp.heq (h' := hM (ordV V t (shf A k k))) (by rw [hs]) ?_
      refine m_turns_i V t k A _ hV ht (by omega) h2 hn h is h4 (fun p is' hp hin hfl => ?_) (k + 1) k is (by omega) (Nat.le_refl _) (fun j h1 h2 => by omega) (Or.inl ⟨rfl, rfl⟩)
      exact ih (k + 1) (insA A k p) is' (by omega) (by omega) hin hfl (by omega)

set_option maxRecDepth 100000 in
set_option maxHeartbeats 4000000 in
theorem m_turns (V : zS) (t : Nat) (hV : BV V) (ht : t < 2) (hn : V 9 t ≤ 4) (h31 : V 0 31 < 2 ^ 20 - 1) (ho4 : ∀ j, j < 4 → V 11 (4 * t + j) < 4) (hinj : ∀ i j, i < V 9 t → j < V 9 t → V 11 (4 * t + i) = V 11 (4 * t + j) → i = j) : PM mX5_turns [.ref 0, .int (nI t)] (hM V) (fun zr zq => zr = none ∧ zq = hM (mTurns V t)) := by
  refine PM.of (by decide +kernel) (by simp [Value.category]) (Nat.le_of_ble_eq_true rfl) ?_
  refine Wp.aload_n (pc2 := 1) dX5_turns_0 rfl rfl ?_
  refine Wp.getf (pc2 := 4) fX5_50 dX5_turns_1 rfl rfl rfl ?_
  refine Wp.iload_n (pc2 := 5) dX5_turns_4 rfl rfl ?_
  refine Wp.zaldN (pc2 := 6) dX5_turns_5 rfl rfl (by omega) (by decide) ?_
  refine Wp.ifN_eq (pc2 := 9) 10 dX5_turns_6 rfl (by decide) (hV.l _ _) (fun c6 => ?_) (fun c6 => ?_)
  · unfold mTurns
    rw [if_pos c6]
    refine Wp.iconN (pc2 := 11) 0 dX5_turns_10 rfl ?_
    refine Wp.istore_n (pc2 := 12) dX5_turns_11 rfl (by decide) rfl ?_
    refine Wp.iconN (pc2 := 13) 1 dX5_turns_12 rfl ?_
    refine Wp.istore_n (pc2 := 14) dX5_turns_13 rfl (by decide) rfl ?_
    have hA : ordV V t (fun j => V 11 (4 * t + j)) = V := ordV_self V t (fun j _ => rfl)
    refine Wp.heq (h' := hM (ordV V t (fun j => V 11 (4 * t + j)))) (by rw [hA]) ?_
    exact m_turns_o V t hV ht hn h31 5 1 _ false (by omega) (by omega) ⟨fun i j h1 h2 h3 => by omega, fun j hj => ⟨j, hj, rfl⟩, fun i hi => ⟨i, hi, rfl⟩, fun j _ => rfl, hinj, ho4⟩ ⟨fun _ j => rfl, fun z => by cases z⟩ (fun _ => rfl)
  · refine Wp.retv dX5_turns_9 rfl ?_
    unfold mTurns
    rw [if_neg c6]
    exact ⟨rfl, rfl⟩
end
section
/-- what holds of the reference's numbers at every call -/
def J_t (V : zS) : Prop := ∀ t, t < 2 → V 1 t ≤ 50 ∧ V 3 t ≤ 4 ∧ V 9 t ≤ V 3 t ∧ V 10 t ≤ V 1 t ∧ V 8 t < 3 ∧ V 12 t ≤ 1 ∧ V 15 t ≤ 200 * V 10 t ∧ V 16 t = V 10 t + V 15 t + V 17 t
def J_8 (V : zS) : Prop := ∀ j, j < 8 → V 4 j < 3 ∧ V 7 j ≤ 50 ∧ V 11 j < 4
def J_k (V : zS) : Prop := ∀ t k, t < 2 → k < 4 → V 13 (4 * t + k) ≤ 4 * V 10 t ∧ V 14 (4 * t + k) ≤ 4 * V 10 t
def J_o (V : zS) : Prop := ∀ t, t < 2 → (∀ j, j < V 9 t → V 11 (4 * t + j) < V 9 t) ∧ (∀ i j, i < V 9 t → j < V 9 t → V 11 (4 * t + i) = V 11 (4 * t + j) → i = j) ∧ ∀ x, x < V 9 t → ∃ j, j < V 9 t ∧ V 11 (4 * t + j) = x
def J_p (V : zS) : Prop := ∀ t r, t < 2 → r < 50 → (V 18 (50 * t + r) ≠ 0 ↔ r < V 10 t) ∧ V 18 (50 * t + r) ≤ 3
def J_gp (V : zS) : Prop := ∀ p, p < 2500 → V 20 p ≤ 1 ∧ (V 20 p ≠ 0 → 2 ≤ V 18 (p / 50) ∧ 2 ≤ V 18 (50 + p % 50))
def J_s (V : zS) : Prop := V 0 8 ≤ 100 ∧ V 0 9 ≤ 2 ∧ V 0 10 ≤ 2 ∧ V 0 29 ≤ 2 ∧ V 0 23 ≤ V 10 0 + V 10 1 ∧ V 17 0 + V 17 1 ≤ V 0 26 ∧ V 0 27 = V 16 0 + V 16 1 + 2 * (V 0 26 - V 17 0 - V 17 1) ∧ V 0 30 ≤ V 10 0 + V 10 1 ∧ V 0 31 ≤ V 10 0 + V 10 1 ∧ (V 0 11 = 0 → V 9 0 = 0 ∧ V 9 1 = 0)
def J_c (V : zS) : Prop := ∀ j, j < 300 → V 2 j < 100
def J_e (V : zS) : Prop := V 0 10 = 1 → ¬ endP V
def JV (V : zS) : Prop := BV V ∧ J_t V ∧ J_8 V ∧ J_k V ∧ J_o V ∧ QI V ∧ GI V ∧ J_p V ∧ J_gp V ∧ J_s V ∧ J_c V
/-- reading: the first part -/
def mRd1 (V : zS) (t : Nat) : zS := vs (if V 0 29 ≠ 0 ∧ V 0 29 ≠ t + 1 then vs (vs V 10 t (V 10 t + 1)) 0 30 (V 0 30 + 1) else vs V 10 t (V 10 t + 1)) 0 29 (t + 1)
theorem mRd1_o {V : zS} {t k j : Nat} (h : k ≠ 10 ∧ (k = 0 → j ≠ 29 ∧ j ≠ 30)) : mRd1 V t k j = V k j := by
  unfold mRd1
  by_cases hk : k = 0
  · subst hk
    rw [vs_i _ (h.2 rfl).1]
    split
    · rw [vs_i _ (h.2 rfl).2, vs_k _ (by decide)]
    · rw [vs_k _ (by decide)]
  · rw [vs_k _ hk]
    split
    · rw [vs_k _ hk, vs_k _ h.1]
    · rw [vs_k _ h.1]
theorem mRd1_10 (V : zS) (t j : Nat) : mRd1 V t 10 j = if j = t then V 10 t + 1 else V 10 j := by
  unfold mRd1
  rw [vs_k _ (by decide)]
  split
  · rw [vs_k _ (by decide), vs_at]
  · rw [vs_at]
def passB (V : zS) (t r k : Nat) : Bool := if V 5 (4 * t + k) = 0 then decide (V 2 (3 * (50 * t + r) + V 4 (4 * t + k)) < V 6 (4 * t + k)) else if V 5 (4 * t + k) = 1 then decide (V 2 (3 * (50 * t + r) + V 4 (4 * t + k)) = V 6 (4 * t + k)) else decide (V 6 (4 * t + k) < V 2 (3 * (50 * t + r) + V 4 (4 * t + k)))
theorem passB_iff {V : zS} {t r k : Nat} : passB V t r k = true ↔ passP V t r k := by
  unfold passB passP
  split
  · exact decide_eq_true_iff
  · split <;> exact decide_eq_true_iff
/-- a test is tried; it fails -/
def mT1 (V : zS) (t k : Nat) : zS := vs (vs V 13 (4 * t + V 11 (4 * t + k)) (V 13 (4 * t + V 11 (4 * t + k)) + 1)) 15 t (V 15 t + V 7 (4 * t + V 11 (4 * t + k)))
def mTf (V : zS) (t k : Nat) : zS := vs V 14 (4 * t + V 11 (4 * t + k)) (V 14 (4 * t + V 11 (4 * t + k)) + 1)
def tst (t r : Nat) : Nat → Nat → zS → zS × Bool
  | 0, _, V => (V, true)
  | n + 1, k, V => if passB V t r (V 11 (4 * t + k)) then tst t r n (k + 1) (mT1 V t k) else (mTf (mT1 V t k) t k, false)
theorem tst_t {t r n k : Nat} {V : zS} (h : passB V t r (V 11 (4 * t + k)) = true) : tst t r (n + 1) k V = tst t r n (k + 1) (mT1 V t k) := by rw [tst, if_pos h]
theorem tst_f {t r n k : Nat} {V : zS} (h : ¬ passB V t r (V 11 (4 * t + k)) = true) : tst t r (n + 1) k V = (mTf (mT1 V t k) t k, false) := by rw [tst, if_neg h]
theorem mT1_o {V : zS} {t k a b : Nat} (h : a ≠ 13 ∧ a ≠ 15) : mT1 V t k a b = V a b := by
  unfold mT1
  rw [vs_k _ h.2, vs_k _ h.1]
theorem mTf_o {V : zS} {t k a b : Nat} (h : a ≠ 14) : mTf V t k a b = V a b := by
  unfold mTf
  rw [vs_k _ h]
theorem tst_o {t r a b : Nat} (h : a ≠ 13 ∧ a ≠ 14 ∧ a ≠ 15) : ∀ (n k : Nat) (V : zS), (tst t r n k V).1 a b = V a b
  | 0, _, _ => rfl
  | n + 1, k, V => by
    unfold tst
    split
    · rw [tst_o h n (k + 1), mT1_o ⟨h.1, h.2.2⟩]
    · show mTf _ _ _ a b = _
      rw [mTf_o h.2.1, mT1_o ⟨h.1, h.2.2⟩]
/-- bounds while tests are tried -/
def tB (V : zS) (t n : Nat) : Prop := (∀ j, j < 8 → V 13 j + n ≤ 2 ^ 19 ∧ V 14 j + n ≤ 2 ^ 19) ∧ V 15 t + 50 * n ≤ 2 ^ 19 ∧ (∀ j, j < 8 → V 7 j ≤ 50 ∧ V 4 j < 3 ∧ V 11 j < 4)
theorem tB_1 {V : zS} {t n k : Nat} (h : tB V t (n + 1)) (hk : 4 * t + k < 8) : tB (mT1 V t k) t n := by
  obtain ⟨h1, h2, h3⟩ := h
  refine ⟨fun j hj => ?_, ?_, fun j hj => ?_⟩
  · have e13 : mT1 V t k 13 j = if j = 4 * t + V 11 (4 * t + k) then V 13 (4 * t + V 11 (4 * t + k)) + 1 else V 13 j := by simp [mT1, vs]
    rw [e13, mT1_o (by decide)]
    have := h1 j hj
    split
    · rename_i q; subst q; omega
    · omega
  · have e15 : mT1 V t k 15 t = V 15 t + V 7 (4 * t + V 11 (4 * t + k)) := by simp [mT1, vs]
    rw [e15]
    have q := (h3 _ hk).2.2
    rcases Nat.lt_or_ge (4 * t + V 11 (4 * t + k)) 8 with z | z
    · have := (h3 _ z).1; omega
    · omega
  · rw [mT1_o (by decide), mT1_o (by decide), mT1_o (by decide)]
    exact h3 j hj
theorem BV_T1 {V : zS} {t n k : Nat} (hV : BV V) (h : tB V t (n + 1)) (hk : 4 * t + k < 8) (hx : 4 * t + V 11 (4 * t + k) < 8) : BV (mT1 V t k) := by
  have q := (h.2.2 _ hx).1
  have q2 := (h.1 _ hx).1
  have q3 := h.2.1
  refine (hV.up ?_).up ?_ <;> omega

set_option maxRecDepth 100000 in
set_option maxHeartbeats 4000000 in
theorem m_reads_f (t r : Nat) (Q : Option Value → zh → Prop) (ht : t < 2) (k pd : Nat) (V : zS) (hV : BV V) (hk : k ≤ 5)
    (K : Wp mX5_reads Q 167 [.ref 0, .int (nI t), .int (nI r), .int (nI pd), .int (nI (zb false)), .null, .null] [] (hM V)) :
    Wp mX5_reads Q 56 [.ref 0, .int (nI t), .int (nI r), .int (nI pd), .int (nI (zb false)), .int (nI k), .null] [] (hM V) := by
  refine Wp.iload (pc2 := 58) dX5_reads_56 rfl rfl ?_
  refine Wp.aload_n (pc2 := 59) dX5_reads_58 rfl rfl ?_
  refine Wp.getf (pc2 := 62) fX5_41 dX5_reads_59 rfl rfl rfl ?_
  refine Wp.iload_n (pc2 := 63) dX5_reads_62 rfl rfl ?_
  refine Wp.ialdN (pc2 := 64) dX5_reads_63 rfl rfl (by omega) (by decide) ?_
  refine Wp.icmpN_ge (pc2 := 67) 167 dX5_reads_64 rfl (by decide) (by omega) (hV.l _ _) (fun c64 => ?_) (fun c64 => ?_)
  · refine Wp.fg [.ref 0, .int (nI t), .int (nI r), .int (nI pd), .int (nI (zb false)), .null, .null] (And.intro (Or.inr rfl) (And.intro (Or.inr rfl) (And.intro (Or.inr rfl) (And.intro (Or.inr rfl) (And.intro (Or.inr rfl) (And.intro (Or.inl rfl) (And.intro (Or.inl rfl) trivial))))))) ?_
    exact K
  · refine Wp.iload (pc2 := 69) dX5_reads_67 rfl rfl ?_
    refine Wp.ifN_eq (pc2 := 72) 167 dX5_reads_69 rfl (by decide) (by decide) (fun c69 => ?_) (fun c69 => ?_)
    · refine Wp.fg [.ref 0, .int (nI t), .int (nI r), .int (nI pd), .int (nI (zb false)), .null, .null] (And.intro (Or.inr rfl) (And.intro (Or.inr rfl) (And.intro (Or.inr rfl) (And.intro (Or.inr rfl) (And.intro (Or.inr rfl) (And.intro (Or.inl rfl) (And.intro (Or.inl rfl) trivial))))))) ?_
      exact K
    · exact absurd rfl c69

set_option maxRecDepth 100000 in
set_option maxHeartbeats 4000000 in
theorem m_reads_t (t r : Nat) (Q : Option Value → zh → Prop) (ht : t < 2) (hr : r < 50) : ∀ (n k pd : Nat) (V : zS), BV V → tB V t n → V 9 t = k + n → V 9 t ≤ 4 → pd + 50 * n ≤ 2 ^ 19 →
    (∀ W is, (W, is) = tst t r n k V → V 15 t ≤ W 15 t → W 15 t ≤ V 15 t + 50 * n → BV W → Wp mX5_reads Q 167 [.ref 0, .int (nI t), .int (nI r), .int (nI (pd + (W 15 t - V 15 t))), .int (nI (zb is)), .null, .null] [] (hM W)) →
    Wp mX5_reads Q 56 [.ref 0, .int (nI t), .int (nI r), .int (nI pd), .int (nI (zb true)), .int (nI k), .null] [] (hM V) := by
  intro n
  induction n with
  | zero =>
    intro k pd V hV hB h9 h94 hpd K
    refine Wp.iload (pc2 := 58) dX5_reads_56 rfl rfl ?_
    refine Wp.aload_n (pc2 := 59) dX5_reads_58 rfl rfl ?_
    refine Wp.getf (pc2 := 62) fX5_41 dX5_reads_59 rfl rfl rfl ?_
    refine Wp.iload_n (pc2 := 63) dX5_reads_62 rfl rfl ?_
    refine Wp.ialdN (pc2 := 64) dX5_reads_63 rfl rfl (by omega) (by decide) ?_
    refine Wp.icmpN_ge (pc2 := 67) 167 dX5_reads_64 rfl (by decide) (by omega) (by omega) (fun c64 => ?_) (fun c64 => ?_)
    · refine Wp.fg [.ref 0, .int (nI t), .int (nI r), .int (nI pd), .int (nI (zb true)), .null, .null] (And.intro (Or.inr rfl) (And.intro (Or.inr rfl) (And.intro (Or.inr rfl) (And.intro (Or.inr rfl) (And.intro (Or.inr rfl) (And.intro (Or.inl rfl) (And.intro (Or.inl rfl) trivial))))))) ?_
      have := K V true rfl (Nat.le_refl _) (by omega) hV
      rw [Nat.sub_self] at this
      exact this
    · exfalso; omega
  | succ n ih =>
    intro k pd V hV hB h9 h94 hpd K
    have hx4 := (hB.2.2 (4 * t + k) (by omega)).2.2
    have hx8 : 4 * t + V 11 (4 * t + k) < 8 := by omega
    have hB1 := tB_1 hB (show 4 * t + k < 8 by omega)
    have hV1 := BV_T1 hV hB (by omega) hx8
    have hpr := (hB.2.2 _ hx8).1
    have e15 : mT1 V t k 15 t = V 15 t + V 7 (4 * t + V 11 (4 * t + k)) := by simp [mT1, vs]
    have hps : passB V t r (V 11 (4 * t + k)) = passB (mT1 V t k) t r (V 11 (4 * t + k)) := by
      unfold passB
      simp only [mT1_o (V := V) (t := t) (k := k) (show (5 : Nat) ≠ 13 ∧ (5 : Nat) ≠ 15 by decide), mT1_o (V := V) (t := t) (k := k) (show (2 : Nat) ≠ 13 ∧ (2 : Nat) ≠ 15 by decide), mT1_o (V := V) (t := t) (k := k) (show (4 : Nat) ≠ 13 ∧ (4 : Nat) ≠ 15 by decide), mT1_o (V := V) (t := t) (k := k) (show (6 : Nat) ≠ 13 ∧ (6 : Nat) ≠ 15 by decide)]
    refine Wp.iload (pc2 := 58) dX5_reads_56 rfl rfl ?_
    refine Wp.aload_n (pc2 := 59) dX5_reads_58 rfl rfl ?_
    refine Wp.getf (pc2 := 62) fX5_41 dX5_reads_59 rfl rfl rfl ?_
    refine Wp.iload_n (pc2 := 63) dX5_reads_62 rfl rfl ?_
    refine Wp.ialdN (pc2 := 64) dX5_reads_63 rfl rfl (by omega) (by decide) ?_
    refine Wp.icmpN_ge (pc2 := 67) 167 dX5_reads_64 rfl (by decide) (by omega) (by omega) (fun c64 => ?_) (fun c64 => ?_)
    · first
        | (exfalso; omega)
        | exact absurd c69 (by decide)
    · refine Wp.iload (pc2 := 69) dX5_reads_67 rfl rfl ?_
      refine Wp.ifN_eq (pc2 := 72) 167 dX5_reads_69 rfl (by decide) (zb_lt _) (fun c69 => ?_) (fun c69 => ?_)
      · first
          | (exfalso; omega)
          | exact absurd c69 (by decide)
      · refine Wp.iconN (pc2 := 73) 4 dX5_reads_72 rfl ?_
        refine Wp.iload_n (pc2 := 74) dX5_reads_73 rfl rfl ?_
        refine Wp.imulN (pc2 := 75) dX5_reads_74 rfl  ?_
        refine Wp.aload_n (pc2 := 76) dX5_reads_75 rfl rfl ?_
        refine Wp.getf (pc2 := 79) fX5_47 dX5_reads_76 rfl rfl rfl ?_
        refine Wp.iconN (pc2 := 80) 4 dX5_reads_79 rfl ?_
        refine Wp.iload_n (pc2 := 81) dX5_reads_80 rfl rfl ?_
        refine Wp.imulN (pc2 := 82) dX5_reads_81 rfl  ?_
        refine Wp.iload (pc2 := 84) dX5_reads_82 rfl rfl ?_
        refine Wp.iaddN (pc2 := 85) dX5_reads_84 rfl  ?_
        refine Wp.ialdN (pc2 := 86) dX5_reads_85 rfl rfl (by omega) (by decide) ?_
        refine Wp.iaddN (pc2 := 87) dX5_reads_86 rfl  ?_
        refine Wp.istore (pc2 := 89) dX5_reads_87 rfl (by decide) rfl ?_
        refine Wp.aload_n (pc2 := 90) dX5_reads_89 rfl rfl ?_
        refine Wp.getf (pc2 := 93) fX5_54 dX5_reads_90 rfl rfl rfl ?_
        refine Wp.iload (pc2 := 95) dX5_reads_93 rfl rfl ?_
        refine Wp.dup2 (pc2 := 96) dX5_reads_95 rfl rfl rfl ?_
        refine Wp.ialdN (pc2 := 97) dX5_reads_96 rfl rfl (by omega) (by decide) ?_
        refine Wp.iconN (pc2 := 98) 1 dX5_reads_97 rfl ?_
        refine Wp.iaddN (pc2 := 99) dX5_reads_98 rfl  ?_
        change Wp _ _ _ _ (.int (nI (V 13 (4 * t + V 11 (4 * t + k)) + 1)) :: _) _
        refine Wp.iastN (pc2 := 100) dX5_reads_99 rfl rfl (by omega) (by decide) ?_
        refine Wp.heq (hM_a13 _ _ _) ?_
        refine Wp.iload_n (pc2 := 101) dX5_reads_100 rfl rfl ?_
        refine Wp.aload_n (pc2 := 102) dX5_reads_101 rfl rfl ?_
        refine Wp.getf (pc2 := 105) fX5_28 dX5_reads_102 rfl rfl rfl ?_
        refine Wp.iload (pc2 := 107) dX5_reads_105 rfl rfl ?_
        refine Wp.ialdN (pc2 := 108) dX5_reads_107 rfl rfl (by omega) (by decide) ?_
        refine Wp.iaddN (pc2 := 109) dX5_reads_108 rfl  ?_
        change Wp _ _ _ _ (.int (nI (pd + V 7 (4 * t + V 11 (4 * t + k)))) :: _) _
        refine Wp.istore_n (pc2 := 110) dX5_reads_109 rfl (by decide) rfl ?_
        refine Wp.aload_n (pc2 := 111) dX5_reads_110 rfl rfl ?_
        refine Wp.getf (pc2 := 114) fX5_60 dX5_reads_111 rfl rfl rfl ?_
        refine Wp.iload_n (pc2 := 115) dX5_reads_114 rfl rfl ?_
        refine Wp.dup2 (pc2 := 116) dX5_reads_115 rfl rfl rfl ?_
        refine Wp.ialdN (pc2 := 117) dX5_reads_116 rfl rfl (by omega) (by decide) ?_
        refine Wp.aload_n (pc2 := 118) dX5_reads_117 rfl rfl ?_
        refine Wp.getf (pc2 := 121) fX5_28 dX5_reads_118 rfl rfl rfl ?_
        refine Wp.iload (pc2 := 123) dX5_reads_121 rfl rfl ?_
        refine Wp.ialdN (pc2 := 124) dX5_reads_123 rfl rfl (by omega) (by decide) ?_
        refine Wp.iaddN (pc2 := 125) dX5_reads_124 rfl  ?_
        change Wp _ _ _ _ (.int (nI (V 15 t + V 7 (4 * t + V 11 (4 * t + k)))) :: _) _
        refine Wp.iastN (pc2 := 126) dX5_reads_125 rfl rfl (by omega) (by decide) ?_
        refine Wp.heq (hM_a15 _ _ _) ?_
        change Wp _ _ _ _ _ (hM (mT1 V t k))
        refine Wp.aload_n (pc2 := 127) dX5_reads_126 rfl rfl ?_
        refine Wp.iload_n (pc2 := 128) dX5_reads_127 rfl rfl ?_
        refine Wp.iload_n (pc2 := 129) dX5_reads_128 rfl rfl ?_
        refine Wp.aload_n (pc2 := 130) dX5_reads_129 rfl rfl ?_
        refine Wp.getf (pc2 := 133) fX5_47 dX5_reads_130 rfl rfl rfl ?_
        refine Wp.iconN (pc2 := 134) 4 dX5_reads_133 rfl ?_
        refine Wp.iload_n (pc2 := 135) dX5_reads_134 rfl rfl ?_
        refine Wp.imulN (pc2 := 136) dX5_reads_135 rfl  ?_
        refine Wp.iload (pc2 := 138) dX5_reads_136 rfl rfl ?_
        refine Wp.iaddN (pc2 := 139) dX5_reads_138 rfl  ?_
        refine Wp.ialdN (pc2 := 140) dX5_reads_139 rfl rfl (by omega) (by decide) ?_
        change Wp _ _ _ _ (.int (nI (V 11 (4 * t + k))) :: _) _
        refine Wp.callV (pc2 := 143) kX5_reads_135 vX5_passes (m_passes (mT1 V t k) t r (V 11 (4 * t + k)) hV1 ht hr hx4 (by rw [mT1_o (by decide)]; exact (hB.2.2 _ hx8).2.1)) dX5_reads_140 rfl rfl rfl rfl rfl (Nat.le_of_ble_eq_true rfl) ?_
        rintro _ _ ⟨⟨b, rfl, hb⟩, rfl⟩
        refine Wp.istore (pc2 := 145) dX5_reads_143 rfl (by decide) rfl ?_
        refine Wp.iload (pc2 := 147) dX5_reads_145 rfl rfl ?_
        refine Wp.ifN_ne (pc2 := 150) 161 dX5_reads_147 rfl (by decide) (zb_lt _) (fun c147 => ?_) (fun c147 => ?_)
        · refine Wp.iincN (pc2 := 164) dX5_reads_161 rfl rfl (by decide) rfl ?_
          refine Wp.goto (pc2 := 56) dX5_reads_164 (by decide) ?_
          have hp : passB V t r (V 11 (4 * t + k)) = true := by rw [hps]; exact passB_iff.mpr (zby hb c147)
          have eb := zb_1 c147
          rw [eb]
          refine Wp.fg [.ref 0, .int (nI t), .int (nI r), .int (nI (pd + V 7 (4 * t + V 11 (4 * t + k)))), .int (nI (zb true)), .int (nI (k + 1)), .null] (And.intro (Or.inr rfl) (And.intro (Or.inr rfl) (And.intro (Or.inr rfl) (And.intro (Or.inr rfl) (And.intro (Or.inr rfl) (And.intro (Or.inr rfl) (And.intro (Or.inl rfl) trivial))))))) ?_
          refine ih (k + 1) _ (mT1 V t k) hV1 hB1 (by rw [mT1_o (by decide)]; omega) (by rw [mT1_o (by decide)]; exact h94) (by omega) (fun W is hW h1 h2 hVW => ?_)
          have k1 := K W is (by rw [hW, tst_t hp]) (by omega) (by omega) hVW
          rw [show pd + V 7 (4 * t + V 11 (4 * t + k)) + (W 15 t - mT1 V t k 15 t) = pd + (W 15 t - V 15 t) by omega]
          exact k1
        · refine Wp.aload_n (pc2 := 151) dX5_reads_150 rfl rfl ?_
          refine Wp.getf (pc2 := 154) fX5_57 dX5_reads_151 rfl rfl rfl ?_
          refine Wp.iload (pc2 := 156) dX5_reads_154 rfl rfl ?_
          refine Wp.dup2 (pc2 := 157) dX5_reads_156 rfl rfl rfl ?_
          refine Wp.ialdN (pc2 := 158) dX5_reads_157 rfl rfl (by omega) (by decide) ?_
          refine Wp.iconN (pc2 := 159) 1 dX5_reads_158 rfl ?_
          refine Wp.iaddN (pc2 := 160) dX5_reads_159 rfl  ?_
          change Wp _ _ _ _ (.int (nI (mT1 V t k 14 (4 * t + mT1 V t k 11 (4 * t + k)) + 1)) :: _) _
          refine Wp.iastN (pc2 := 161) dX5_reads_160 rfl rfl (by omega) (by decide) ?_
          refine Wp.heq (hM_a14 _ _ _) ?_
          refine Wp.iincN (pc2 := 164) dX5_reads_161 rfl rfl (by decide) rfl ?_
          refine Wp.goto (pc2 := 56) dX5_reads_164 (by decide) ?_
          have hp : ¬ passB V t r (V 11 (4 * t + k)) = true := by rw [hps]; exact fun z => zbn hb c147 (passB_iff.mp z)
          have eb := zb_0 c147
          rw [eb]
          have hVf : BV (mTf (mT1 V t k) t k) := hV1.up (by
            have := (hB1.1 (4 * t + V 11 (4 * t + k)) hx8).2
            rw [mT1_o (a := 11) (by decide)]; omega)
          have e15f : mTf (mT1 V t k) t k 15 t = mT1 V t k 15 t := mTf_o (by decide)
          have k1 := K (mTf (mT1 V t k) t k) false (tst_f hp).symm (by omega) (by omega) hVf
          rw [show pd + (mTf (mT1 V t k) t k 15 t - V 15 t) = pd + V 7 (4 * t + V 11 (4 * t + k)) by omega] at k1
          refine Wp.fg [.ref 0, .int (nI t), .int (nI r), .int (nI (pd + V 7 (4 * t + V 11 (4 * t + k)))), .int (nI (zb false)), .int (nI (k + 1)), .null] (And.intro (Or.inr rfl) (And.intro (Or.inr rfl) (And.intro (Or.inr rfl) (And.intro (Or.inr rfl) (And.intro (Or.inr rfl) (And.intro (Or.inr rfl) (And.intro (Or.inl rfl) trivial))))))) ?_
          exact m_reads_f t r Q ht (k + 1) _ (mTf (mT1 V t k) t k) hVf (by omega) k1
end
section
theorem mSpill1_o {V : zS} {k j : Nat} (h : k ≠ 18 ∧ (k = 0 → j ≠ 28)) : mSpill1 V k j = V k j := by
  unfold mSpill1
  by_cases hk : k = 0
  · subst hk; rw [vs_i _ (h.2 rfl), vs_k _ (by decide)]
  · rw [vs_k _ hk, vs_k _ h.1]
theorem spillN_o {k j : Nat} (h : k ≠ 18 ∧ (k = 0 → j ≠ 28)) : ∀ (n : Nat) (V : zS), spillN n V k j = V k j
  | 0, _ => rfl
  | n + 1, V => by
    show spillN n (mSpill1 V) k j = V k j
    rw [spillN_o h n, mSpill1_o h]
theorem spillN_all : ∀ (n : Nat) (V : zS), QI V → n ≤ V 0 23 - V 0 28 → QI (spillN n V) ∧ (BV V → BV (spillN n V)) ∧ spillN n V 0 28 = V 0 28 + n ∧ ∀ e, spillN n V 18 e = V 18 e ∨ (spillN n V 18 e = 3 ∧ V 18 e = 2)
  | 0, V, hq, _ => ⟨hq, fun h => h, rfl, fun _ => Or.inl rfl⟩
  | n + 1, V, hq, hn => by
    have hl : V 0 28 < V 0 23 := by omega
    have e23 : mSpill1 V 0 23 = V 0 23 := mSpill1_o (by decide)
    have e28 : mSpill1 V 0 28 = V 0 28 + 1 := by simp [mSpill1, vs]
    have e18 : ∀ i, mSpill1 V 18 i = if i = V 22 (V 0 28) then 3 else V 18 i := fun i => by simp [mSpill1, vs]
    have h2 : V 18 (V 22 (V 0 28)) = 2 := by rw [(hq.2.2.1 _ hl).2.2, if_neg (by omega)]
    obtain ⟨a1, a2, a3, a4⟩ := spillN_all n (mSpill1 V) (QI_spill hq hl) (by omega)
    have h100 := hq.2.1
    refine ⟨a1, fun h => a2 (BV_spill1 h (by omega)), ?_, fun e => ?_⟩
    · show spillN n (mSpill1 V) 0 28 = _
      omega
    · show spillN n (mSpill1 V) 18 e = _ ∨ (spillN n (mSpill1 V) 18 e = 3 ∧ _)
      have := a4 e
      rw [e18] at this
      by_cases q : e = V 22 (V 0 28)
      · rw [if_pos q] at this
        subst q
        rcases this with z | z
        · exact Or.inr ⟨z, h2⟩
        · omega
      · rw [if_neg q] at this; exact this
theorem mSpills_o {V : zS} {k j : Nat} (h : k ≠ 18 ∧ (k = 0 → j ≠ 28)) : mSpills V k j = V k j := spillN_o h _ V
theorem mSpills_all {V : zS} (hq : QI V) : QI (mSpills V) ∧ (BV V → BV (mSpills V)) ∧ ∀ e, mSpills V 18 e = V 18 e ∨ (mSpills V 18 e = 3 ∧ V 18 e = 2) := by
  obtain ⟨a1, a2, -, a4⟩ := spillN_all (V 0 23 - V 0 28 - V 0 8) V hq (by omega)
  exact ⟨a1, a2, a4⟩
theorem QI_18 {V : zS} (h : QI V) {e x : Nat} (he : V 18 e < 2) (hx : x < 2) : QI (vs V 18 e x) := by
  obtain ⟨q1, q2, q3, q4⟩ := h
  have o : ∀ k j, k ≠ 18 → vs V 18 e x k j = V k j := fun k j hk => vs_k V hk
  have hne : ∀ i, i < V 0 23 → V 22 i ≠ e := by
    intro i hi z
    have := (q3 i hi).2.2
    rw [z] at this
    split at this <;> omega
  refine ⟨by rw [o 0 28 (by decide), o 0 23 (by decide)]; exact q1, by rw [o 0 23 (by decide)]; exact q2, fun i hi => ?_, fun a ha hp => ?_⟩
  · rw [o 0 23 (by decide)] at hi
    rw [o 22 _ (by decide), o 19 _ (by decide), o 0 28 (by decide), vs_at, if_neg (hne i hi)]
    exact q3 i hi
  · rw [vs_at] at hp
    rw [o 0 23 (by decide)]
    by_cases q : a = e
    · rw [if_pos q] at hp; omega
    · rw [if_neg q] at hp
      obtain ⟨i, hi, hz⟩ := q4 a ha hp
      exact ⟨i, hi, by rw [o 22 _ (by decide)]; exact hz⟩
theorem GI_o {V W : zS} (h : GI V) (h1 : W 0 26 = V 0 26) (h2 : ∀ i, W 21 i = V 21 i) (h3 : ∀ p, W 20 p = V 20 p) : GI W := by
  unfold GI
  simp only [h1, h2, h3]
  exact h
/-- the pairs of a row -/
theorem fnd_all (t r : Nat) (ht : t < 2) (hr : r < 50) : ∀ (n i : Nat) (V : zS), i + n ≤ V 0 23 → QI V → GI V → FI V t r i →
    GI (fnd t r n i V) ∧ (BV V → BV (fnd t r n i V)) ∧ V 0 26 ≤ fnd t r n i V 0 26 ∧ (∀ p, fnd t r n i V 20 p = V 20 p ∨ (fnd t r n i V 20 p = 1 ∧ ∃ j, i ≤ j ∧ j < i + n ∧ V 22 j / 50 = 1 - t ∧ p = 50 * fa t r (V 22 j % 50) + fb t r (V 22 j % 50)))
  | 0, i, V, _, _, hg, _ => ⟨hg, fun h => h, Nat.le_refl _, fun _ => Or.inl rfl⟩
  | n + 1, i, V, hn, hq, hg, hF => by
    by_cases c : V 22 i / 50 = 1 - t ∧ alikeB V (fa t r (V 22 i % 50)) (fb t r (V 22 i % 50)) = true
    · have e : fnd t r (n + 1) i V = fnd t r n (i + 1) (mGive V (fa t r (V 22 i % 50)) (fb t r (V 22 i % 50))) := by rw [fnd, if_pos c]
      have hi : i < V 0 23 := by omega
      have hab := fab_lt (t := t) (x := V 22 i % 50) hr (by omega)
      have hz := hF i (Nat.le_refl _) hi c.1
      have hlt := GI_lt hg hab.1 hz
      have e23 : mGive V (fa t r (V 22 i % 50)) (fb t r (V 22 i % 50)) 0 23 = V 0 23 := mGive_o (by unfold gfree; omega)
      have e22 : ∀ j, mGive V (fa t r (V 22 i % 50)) (fb t r (V 22 i % 50)) 22 j = V 22 j := fun j => mGive_o (by unfold gfree; omega)
      have e26 : mGive V (fa t r (V 22 i % 50)) (fb t r (V 22 i % 50)) 0 26 = V 0 26 + 1 := by simp [mGive, vs]
      have e20 : ∀ p, mGive V (fa t r (V 22 i % 50)) (fb t r (V 22 i % 50)) 20 p = if p = 50 * fa t r (V 22 i % 50) + fb t r (V 22 i % 50) then 1 else V 20 p := fun p => by simp [mGive, vs]
      obtain ⟨a1, a2, a3, a4⟩ := fnd_all t r ht hr n (i + 1) _ (by omega) (QI_give hq) (GI_give hg hab.1 hz) (FI_give hq ht hr hi c.1 hF)
      rw [e]
      refine ⟨a1, fun h => a2 (BV_give h hab.1 hlt), by omega, fun p => ?_⟩
      rcases a4 p with z | ⟨z, j, z1, z2, z3, z4⟩
      · rw [z, e20]
        by_cases q : p = 50 * fa t r (V 22 i % 50) + fb t r (V 22 i % 50)
        · rw [if_pos q]; exact Or.inr ⟨rfl, i, Nat.le_refl _, by omega, c.1, q⟩
        · rw [if_neg q]; exact Or.inl rfl
      · rw [e22] at z3 z4
        exact Or.inr ⟨z, j, by omega, by omega, z3, z4⟩
    · have e : fnd t r (n + 1) i V = fnd t r n (i + 1) V := by rw [fnd, if_neg c]
      obtain ⟨a1, a2, a3, a4⟩ := fnd_all t r ht hr n (i + 1) V (by omega) hq hg (FI_mono hF (by omega))
      rw [e]
      refine ⟨a1, a2, a3, fun p => ?_⟩
      rcases a4 p with z | ⟨z, j, z1, z2, z3, z4⟩
      · exact Or.inl z
      · exact Or.inr ⟨z, j, by omega, by omega, z3, z4⟩
theorem mFinds1_o {V W : zS} {t r k j : Nat} (h : k ≠ 17 ∧ k ≠ 18 ∧ k ≠ 19 ∧ k ≠ 22 ∧ (k = 0 → j ≠ 23)) : mFinds1 V W t r k j = W k j := by
  unfold mFinds1
  by_cases hk : k = 0
  · subst hk; rw [vs_k _ (by decide), vs_i _ (h.2.2.2.2 rfl), vs_k _ (by decide), vs_k _ (by decide), vs_k _ (by decide)]
  · rw [vs_k _ h.2.2.2.1, vs_k _ hk, vs_k _ h.2.2.1, vs_k _ h.2.1, vs_k _ h.1]
theorem mFinds_o {V : zS} {t r k j : Nat} (h : k ≠ 17 ∧ k ≠ 18 ∧ k ≠ 19 ∧ k ≠ 22 ∧ k ≠ 20 ∧ k ≠ 21 ∧ (k = 0 → j ≠ 23 ∧ j ≠ 26 ∧ j ≠ 28)) : mFinds V t r k j = V k j := by
  unfold mFinds
  rw [mSpills_o ⟨h.2.1, fun z => (h.2.2.2.2.2.2 z).2.2⟩, mFinds1_o ⟨h.1, h.2.1, h.2.2.1, h.2.2.2.1, fun z => (h.2.2.2.2.2.2 z).1⟩]
  unfold mFinds0
  exact fnd_o ⟨h.2.2.2.2.1, h.2.2.2.2.2.1, fun z => (h.2.2.2.2.2.2 z).2.1⟩ _ _ _
/-- what finding does, in all -/
theorem mFinds_all {V : zS} {t r : Nat} (ht : t < 2) (hr : r < 50) (hq : QI V) (hg : GI V) (hF : FI V t r (V 0 28)) (h1 : V 18 (50 * t + r) < 2) (hc : V 0 23 < 100) :
    QI (mFinds V t r) ∧ GI (mFinds V t r) ∧ (BV V → V 17 t ≤ 2500 → BV (mFinds V t r)) ∧ V 0 26 ≤ mFinds0 V t r 0 26 ∧ mFinds V t r 0 26 = mFinds0 V t r 0 26 ∧ mFinds V t r 0 23 = V 0 23 + 1 ∧
    (∀ x, mFinds V t r 17 x = if x = t then V 17 t + (mFinds0 V t r 0 26 - V 0 26) else V 17 x) ∧
    (∀ e, (mFinds V t r 18 e = (if e = 50 * t + r then 2 else V 18 e)) ∨ (mFinds V t r 18 e = 3 ∧ (if e = 50 * t + r then 2 else V 18 e) = 2)) ∧
    (∀ p, mFinds V t r 20 p = V 20 p ∨ (mFinds V t r 20 p = 1 ∧ ∃ x, x < 50 ∧ V 18 (50 * (1 - t) + x) = 2 ∧ p = 50 * fa t r x + fb t r x)) := by
  obtain ⟨a1, a2, a3, a4⟩ := fnd_all t r ht hr (V 0 23 - V 0 28) (V 0 28) V (by have := hq.1; omega) hq hg hF
  have u : ∀ k j, gfree k j → mFinds0 V t r k j = V k j := fun k j z => fnd_o z _ _ _
  have u23 : mFinds0 V t r 0 23 = V 0 23 := u 0 23 (by unfold gfree; omega)
  have u28 : mFinds0 V t r 0 28 = V 0 28 := u 0 28 (by unfold gfree; omega)
  have u18 : ∀ j, mFinds0 V t r 18 j = V 18 j := fun j => u 18 j (by unfold gfree; omega)
  have u17 : ∀ j, mFinds0 V t r 17 j = V 17 j := fun j => u 17 j (by unfold gfree; omega)
  have u19 : ∀ j, mFinds0 V t r 19 j = V 19 j := fun j => u 19 j (by unfold gfree; omega)
  have u22 : ∀ j, mFinds0 V t r 22 j = V 22 j := fun j => u 22 j (by unfold gfree; omega)
  have hqW : QI (mFinds0 V t r) := by
    unfold QI
    simp only [u23, u28, u18, u19, u22]
    exact hq
  have hgW : GI (mFinds0 V t r) := a1
  have g26 := GI_le hgW
  have hQ2 := QI_new hqW ht hr (by rw [u18]; exact h1) (by omega) (mFinds0 V t r 17 t + (mFinds0 V t r 0 26 - V 0 26))
  obtain ⟨b1, b2, b3⟩ := mSpills_all hQ2
  have z26 : mFinds V t r 0 26 = mFinds0 V t r 0 26 := by
    unfold mFinds
    rw [mSpills_o (by decide), mFinds1_o (by decide)]
  have z23 : mFinds V t r 0 23 = V 0 23 + 1 := by
    unfold mFinds
    rw [mSpills_o (by decide), ← u23]
    simp [mFinds1, vs]
  have z20 : ∀ p, mFinds V t r 20 p = mFinds0 V t r 20 p := fun p => by
    unfold mFinds
    rw [mSpills_o (by omega), mFinds1_o (by omega)]
  have z21 : ∀ p, mFinds V t r 21 p = mFinds0 V t r 21 p := fun p => by
    unfold mFinds
    rw [mSpills_o (by omega), mFinds1_o (by omega)]
  refine ⟨b1, GI_o hgW z26 z21 z20, fun hV h17 => b2 ?_, a3, z26, z23, fun x => ?_, fun e => ?_, fun p => ?_⟩
  · have hVW := a2 hV
    exact ((((hVW.up (by rw [u17]; omega)).up (by decide)).up (by omega)).up (by omega)).up (by omega)
  · unfold mFinds
    rw [mSpills_o (by omega)]
    unfold mFinds1
    rw [vs_k _ (by decide), vs_k _ (by decide), vs_k _ (by decide), vs_k _ (by decide), vs_at, u17, u17]
  · have := b3 e
    have e18 : ∀ e, (vs (vs (vs (vs (vs (mFinds0 V t r) 17 t (mFinds0 V t r 17 t + (mFinds0 V t r 0 26 - V 0 26))) 18 (50 * t + r) 2) 19 (50 * t + r) (mFinds0 V t r 0 23)) 0 23 (mFinds0 V t r 0 23 + 1)) 22 (mFinds0 V t r 0 23) (50 * t + r)) 18 e = if e = 50 * t + r then 2 else V 18 e := by
      intro e
      rw [vs_k _ (by decide), vs_k _ (by decide), vs_k _ (by decide), vs_at, vs_k _ (by decide), u18]
    rw [e18] at this
    exact this
  · rw [z20]
    rcases a4 p with z | ⟨z, j, z1, z2, z3, z4⟩
    · exact Or.inl z
    · have hj : j < V 0 23 := by have := hq.1; omega
      have k := hq.2.2.1 j hj
      refine Or.inr ⟨z, V 22 j % 50, by omega, ?_, z4⟩
      rw [show 50 * (1 - t) + V 22 j % 50 = V 22 j by omega, k.2.2, if_neg (by omega)]
/-- a row is read -/
def mR2 (V : zS) (t : Nat) : zS × Bool := tst t (V 10 t) (V 9 t) 0 (mRd1 V t)
def mR3 (V : zS) (t : Nat) : zS := vs (mR2 V t).1 18 (50 * t + V 10 t) 1
def mR4 (V : zS) (t : Nat) : zS := if (mR2 V t).2 then mFinds (mR3 V t) t (V 10 t) else mR3 V t
def mPaid (V : zS) (t : Nat) : Nat := 1 + ((mR2 V t).1 15 t - V 15 t) + (if (mR2 V t).2 then mFinds0 (mR3 V t) t (V 10 t) 0 26 - mR3 V t 0 26 else 0)
def mR5 (V : zS) (t : Nat) : zS := vs (vs (mR4 V t) 0 27 (mR4 V t 0 27 + mPaid V t)) 16 t (mR4 V t 16 t + mPaid V t)
noncomputable def mReads (V : zS) (t : Nat) : zS := if mR5 V t 10 t % 4 = 0 then mTurns (mR5 V t) t else mR5 V t
theorem tst_b {t r : Nat} (ht : t < 2) : ∀ (n k : Nat) (V : zS), k + n ≤ 4 → (∀ j, j < 8 → V 7 j ≤ 50 ∧ V 11 j < 4) → ∀ b, (V 13 b ≤ (tst t r n k V).1 13 b ∧ (tst t r n k V).1 13 b ≤ V 13 b + n ∧ V 14 b ≤ (tst t r n k V).1 14 b ∧ (tst t r n k V).1 14 b ≤ V 14 b + n) ∧ ((b < 4 * t ∨ 4 * t + 4 ≤ b) → (tst t r n k V).1 13 b = V 13 b ∧ (tst t r n k V).1 14 b = V 14 b) ∧ (b ≠ t → (tst t r n k V).1 15 b = V 15 b) ∧ V 15 t ≤ (tst t r n k V).1 15 t ∧ (tst t r n k V).1 15 t ≤ V 15 t + 50 * n
  | 0, k, V, _, _, b => by simp [tst]
  | n + 1, k, V, hn, h8, b => by
    have hx := (h8 (4 * t + k) (by omega)).2
    have hp := (h8 (4 * t + V 11 (4 * t + k)) (by omega)).1
    have e13 : ∀ b, mT1 V t k 13 b = if b = 4 * t + V 11 (4 * t + k) then V 13 (4 * t + V 11 (4 * t + k)) + 1 else V 13 b := fun b => by simp [mT1, vs]
    have e15 : ∀ b, mT1 V t k 15 b = if b = t then V 15 t + V 7 (4 * t + V 11 (4 * t + k)) else V 15 b := fun b => by simp [mT1, vs]
    have e14 : ∀ b, mT1 V t k 14 b = V 14 b := fun b => mT1_o (by decide)
    have k13 : V 13 b ≤ mT1 V t k 13 b ∧ mT1 V t k 13 b ≤ V 13 b + 1 ∧ ((b < 4 * t ∨ 4 * t + 4 ≤ b) → mT1 V t k 13 b = V 13 b) := by
      rw [e13]
      split
      · rename_i q; subst q; omega
      · omega
    have k15 : mT1 V t k 15 t = V 15 t + V 7 (4 * t + V 11 (4 * t + k)) := by rw [e15, if_pos rfl]
    by_cases c : passB V t r (V 11 (4 * t + k)) = true
    · rw [tst_t c]
      have ih := tst_b (r := r) ht n (k + 1) (mT1 V t k) (by omega) (fun j hj => by rw [mT1_o (by decide), mT1_o (by decide)]; exact h8 j hj) b
      rw [e14] at ih
      obtain ⟨⟨i1, i2, i3, i4⟩, i5, i6, i7, i8⟩ := ih
      refine ⟨⟨by omega, by omega, by omega, by omega⟩, fun z => ⟨by rw [(i5 z).1]; exact k13.2.2 z, (i5 z).2⟩, fun z => ?_, by omega, by omega⟩
      rw [i6 z, e15, if_neg z]
    · rw [tst_f c]
      have f14 : ∀ b, mTf (mT1 V t k) t k 14 b = if b = 4 * t + V 11 (4 * t + k) then V 14 (4 * t + V 11 (4 * t + k)) + 1 else V 14 b := by
        intro b
        unfold mTf
        rw [vs_at, mT1_o (a := 11) (by decide), mT1_o (a := 14) (by decide), mT1_o (a := 14) (by decide)]
      have f13 : mTf (mT1 V t k) t k 13 b = mT1 V t k 13 b := mTf_o (by decide)
      have f15 : ∀ b, mTf (mT1 V t k) t k 15 b = mT1 V t k 15 b := fun b => mTf_o (by decide)
      have k14 : V 14 b ≤ mTf (mT1 V t k) t k 14 b ∧ mTf (mT1 V t k) t k 14 b ≤ V 14 b + 1 ∧ ((b < 4 * t ∨ 4 * t + 4 ≤ b) → mTf (mT1 V t k) t k 14 b = V 14 b) := by
        rw [f14]
        split
        · rename_i q; subst q; omega
        · omega
      show (_ ≤ mTf (mT1 V t k) t k 13 b ∧ _) ∧ _
      refine ⟨⟨by rw [f13]; omega, by show mTf (mT1 V t k) t k 13 b ≤ _; rw [f13]; omega, by show _ ≤ mTf (mT1 V t k) t k 14 b; omega, by show mTf (mT1 V t k) t k 14 b ≤ _; omega⟩, fun z => ⟨by show mTf (mT1 V t k) t k 13 b = _; rw [f13]; exact k13.2.2 z, k14.2.2 z⟩, fun z => ?_, ?_, ?_⟩
      · show mTf (mT1 V t k) t k 15 b = _
        rw [f15, e15, if_neg z]
      · show _ ≤ mTf (mT1 V t k) t k 15 t
        rw [f15]; omega
      · show mTf (mT1 V t k) t k 15 t ≤ _
        rw [f15]; omega
end
section
theorem tst_BV {t r : Nat} (ht : t < 2) : ∀ (n k : Nat) (V : zS), BV V → tB V t n → k + n ≤ 4 → BV (tst t r n k V).1
  | 0, _, _, h, _, _ => h
  | n + 1, k, V, hV, hB, hk => by
    have hx4 := (hB.2.2 (4 * t + k) (by omega)).2.2
    have hx8 : 4 * t + V 11 (4 * t + k) < 8 := by omega
    have hB1 := tB_1 hB (show 4 * t + k < 8 by omega)
    have hV1 := BV_T1 hV hB (by omega) hx8
    by_cases c : passB V t r (V 11 (4 * t + k)) = true
    · rw [tst_t c]; exact tst_BV ht n (k + 1) _ hV1 hB1 (by omega)
    · rw [tst_f c]
      exact hV1.up (by
        have := (hB1.1 (4 * t + V 11 (4 * t + k)) hx8).2
        rw [mT1_o (a := 11) (by decide)]; omega)
theorem BV_Rd1 {V : zS} (hV : BV V) {t : Nat} (ht : t < 2) (h1 : V 10 t < 2 ^ 20 - 1) (h2 : V 0 30 < 2 ^ 20 - 1) : BV (mRd1 V t) := by
  unfold mRd1
  refine BV.up ?_ (by omega)
  split
  · exact (hV.up (by omega)).up (by omega)
  · exact hV.up (by omega)
theorem JV_s {V : zS} (h : JV V) : V 10 0 ≤ 50 ∧ V 10 1 ≤ 50 ∧ V 0 26 ≤ 2500 ∧ V 0 30 ≤ 100 ∧ V 0 31 ≤ 100 ∧ V 15 0 ≤ 10000 ∧ V 15 1 ≤ 10000 ∧ V 17 0 ≤ 2500 ∧ V 17 1 ≤ 2500 ∧ V 0 27 ≤ 40000 := by
  obtain ⟨hV, jt, j8, jk, jo, hq, hg, jp, jgp, js, jc⟩ := h
  have a0 := jt 0 (by decide)
  have a1 := jt 1 (by decide)
  have g := GI_le hg
  obtain ⟨s1, s2, s3, s4, s5, s6, s7, s8, s9, s10⟩ := js
  omega
theorem JV_t {V : zS} (h : JV V) {t : Nat} (ht : t < 2) : V 10 t ≤ 50 ∧ V 15 t ≤ 10000 ∧ V 17 t ≤ 2500 := by
  have := JV_s h
  rcases (show t = 0 ∨ t = 1 by omega) with rfl | rfl <;> omega
theorem Rd1_tB {V : zS} (h : JV V) {t : Nat} (ht : t < 2) : tB (mRd1 V t) t (V 9 t) := by
  have hs := JV_t h ht
  obtain ⟨hV, jt, j8, jk, jo, hq, hg, jp, jgp, js, jc⟩ := h
  have a := jt t ht
  refine ⟨fun j hj => ?_, ?_, fun j hj => ?_⟩
  · rw [mRd1_o (by omega), mRd1_o (by omega)]
    have k := jk (j / 4) (j % 4) (by omega) (by omega)
    have a2 := jt (j / 4) (by omega)
    rw [show 4 * (j / 4) + j % 4 = j by omega] at k
    omega
  · rw [mRd1_o (by omega)]; omega
  · rw [mRd1_o (by omega), mRd1_o (by omega), mRd1_o (by omega)]
    have := j8 j hj; omega
theorem R2_o {V : zS} {t k j : Nat} (h : k ≠ 10 ∧ k ≠ 13 ∧ k ≠ 14 ∧ k ≠ 15 ∧ (k = 0 → j ≠ 29 ∧ j ≠ 30)) : (mR2 V t).1 k j = V k j := by
  unfold mR2
  rw [tst_o ⟨h.2.1, h.2.2.1, h.2.2.2.1⟩, mRd1_o ⟨h.1, h.2.2.2.2⟩]
theorem R3_o {V : zS} {t k j : Nat} (h : k ≠ 18 ∧ k ≠ 10 ∧ k ≠ 13 ∧ k ≠ 14 ∧ k ≠ 15 ∧ (k = 0 → j ≠ 29 ∧ j ≠ 30)) : mR3 V t k j = V k j := by
  unfold mR3
  rw [vs_k _ h.1, R2_o h.2]
theorem R3_18 (V : zS) (t e : Nat) : mR3 V t 18 e = if e = 50 * t + V 10 t then 1 else V 18 e := by
  unfold mR3
  rw [vs_at, R2_o (by omega)]
theorem R3_k {V : zS} {t k j : Nat} (h : k ≠ 18) : mR3 V t k j = (mR2 V t).1 k j := by
  unfold mR3
  rw [vs_k _ h]
theorem R2_10 (V : zS) (t j : Nat) : (mR2 V t).1 10 j = if j = t then V 10 t + 1 else V 10 j := by
  unfold mR2
  rw [tst_o (by decide), mRd1_10]
theorem R3_pre {V : zS} (h : JV V) {t : Nat} (ht : t < 2) (hr : V 10 t < V 1 t) : BV (mR3 V t) ∧ QI (mR3 V t) ∧ GI (mR3 V t) ∧ FI (mR3 V t) t (V 10 t) (mR3 V t 0 28) ∧ PI (mR3 V t) ∧ mR3 V t 18 (50 * t + V 10 t) < 2 ∧ mR3 V t 0 23 < 100 ∧ mR3 V t 17 t ≤ 2500 := by
  have hs := JV_t h ht
  have hss := JV_s h
  have hB := Rd1_tB h ht
  obtain ⟨hV, jt, j8, jk, jo, hq, hg, jp, jgp, js, jc⟩ := h
  have a := jt t ht
  have p0 := (jp t (V 10 t) ht (by omega)).1
  have hz : V 18 (50 * t + V 10 t) = 0 := by
    rcases Nat.eq_zero_or_pos (V 18 (50 * t + V 10 t)) with q | q
    · exact q
    · have := p0.mp (by omega); omega
  have e22 : ∀ j, mR3 V t 22 j = V 22 j := fun j => R3_o (by omega)
  have e20 : ∀ j, mR3 V t 20 j = V 20 j := fun j => R3_o (by omega)
  have e21 : ∀ j, mR3 V t 21 j = V 21 j := fun j => R3_o (by omega)
  have e26 : mR3 V t 0 26 = V 0 26 := R3_o (by omega)
  have e23 : mR3 V t 0 23 = V 0 23 := R3_o (by omega)
  have e28 : mR3 V t 0 28 = V 0 28 := R3_o (by omega)
  have q2 : QI (mR2 V t).1 := by
    unfold QI
    have f22 : ∀ j, (mR2 V t).1 22 j = V 22 j := fun j => R2_o (by omega)
    have f18 : ∀ j, (mR2 V t).1 18 j = V 18 j := fun j => R2_o (by omega)
    have f19 : ∀ j, (mR2 V t).1 19 j = V 19 j := fun j => R2_o (by omega)
    have f23 : (mR2 V t).1 0 23 = V 0 23 := R2_o (by omega)
    have f28 : (mR2 V t).1 0 28 = V 0 28 := R2_o (by omega)
    simp only [f22, f18, f19, f23, f28]
    exact hq
  have q3 : QI (mR3 V t) := QI_18 q2 (by rw [R2_o (by omega), hz]; decide) (by decide)
  have js5 := js.2.2.2.2.1
  refine ⟨(tst_BV ht _ _ _ (BV_Rd1 hV ht (by omega) (by omega)) hB (by omega)).up (by decide), q3, GI_o hg e26 e21 e20, fun j h1 h2 h3 => ?_, fun t' r' ht' hr' hne => ?_, by rw [R3_18, if_pos rfl]; decide, ?_, by rw [R3_o (by omega)]; omega⟩
  · rw [e22] at h3 ⊢
    rw [e20]
    have hj : j < V 0 23 := by omega
    have hjq := (hq.2.2.1 j hj).1
    have hab := fab_lt (t := t) (r := V 10 t) (x := V 22 j % 50) (by omega) (by omega)
    rcases Nat.eq_zero_or_pos (V 20 (50 * fa t (V 10 t) (V 22 j % 50) + fb t (V 10 t) (V 22 j % 50))) with q | q
    · exact q
    · exfalso
      have k := (jgp _ hab.1).2 (by omega)
      rw [show (50 * fa t (V 10 t) (V 22 j % 50) + fb t (V 10 t) (V 22 j % 50)) / 50 = fa t (V 10 t) (V 22 j % 50) by omega, show (50 * fa t (V 10 t) (V 22 j % 50) + fb t (V 10 t) (V 22 j % 50)) % 50 = fb t (V 10 t) (V 22 j % 50) by omega] at k
      rcases (show t = 0 ∨ t = 1 by omega) with rfl | rfl
      · have e : fa 0 (V 10 0) (V 22 j % 50) = V 10 0 := rfl
        rw [e] at k
        rw [show 50 * 0 + V 10 0 = V 10 0 by omega] at hz
        omega
      · have e : fb 1 (V 10 1) (V 22 j % 50) = V 10 1 := rfl
        rw [e] at k
        rw [show 50 * 1 + V 10 1 = 50 + V 10 1 by omega] at hz
        omega
  · rw [R3_18] at hne
    rw [R3_o (by omega)]
    by_cases q : 50 * t' + r' = 50 * t + V 10 t
    · have e1 : t' = t := by omega
      have e2 : r' = V 10 t := by omega
      rw [e1, e2]; exact hr
    · rw [if_neg q] at hne
      have := (jp t' r' ht' hr').1.mp hne
      have := (jt t' ht').2.2.2.1
      omega
  · have : V 10 0 + V 10 1 < 100 := by
      have b0 := jt 0 (by decide)
      have b1 := jt 1 (by decide)
      rcases (show t = 0 ∨ t = 1 by omega) with rfl | rfl <;> omega
    omega
/-- a row that was read, in all: R4 -/
theorem R4_all {V : zS} (h : JV V) {t : Nat} (ht : t < 2) (hr : V 10 t < V 1 t) :
    BV (mR4 V t) ∧ QI (mR4 V t) ∧ GI (mR4 V t) ∧ (∃ n, mPaid V t = 1 + ((mR2 V t).1 15 t - V 15 t) + n ∧ mR4 V t 0 26 = V 0 26 + n ∧ (∀ x, mR4 V t 17 x = if x = t then V 17 t + n else V 17 x)) ∧ mR4 V t 0 23 ≤ V 0 23 + 1 ∧
    (∀ e, (e ≠ 50 * t + V 10 t → mR4 V t 18 e = V 18 e ∨ (mR4 V t 18 e = 3 ∧ V 18 e = 2)) ∧ (e = 50 * t + V 10 t → 1 ≤ mR4 V t 18 e ∧ mR4 V t 18 e ≤ 3)) ∧
    (∀ p, p < 2500 → mR4 V t 20 p = V 20 p ∨ (mR4 V t 20 p = 1 ∧ 2 ≤ mR4 V t 18 (p / 50) ∧ 2 ≤ mR4 V t 18 (50 + p % 50))) ∧
    (∀ k j, k ≠ 17 ∧ k ≠ 18 ∧ k ≠ 19 ∧ k ≠ 22 ∧ k ≠ 20 ∧ k ≠ 21 ∧ (k = 0 → j ≠ 23 ∧ j ≠ 26 ∧ j ≠ 28) → mR4 V t k j = mR3 V t k j) := by
  obtain ⟨p1, p2, p3, p4, p5, p6, p7, p8⟩ := R3_pre h ht hr
  have hs := JV_t h ht
  obtain ⟨hV, jt, j8, jk, jo, hq, hg, jp, jgp, js, jc⟩ := h
  have a := jt t ht
  have e20 : ∀ j, mR3 V t 20 j = V 20 j := fun j => R3_o (by omega)
  have e17 : ∀ j, mR3 V t 17 j = V 17 j := fun j => R3_o (by omega)
  have e26 : mR3 V t 0 26 = V 0 26 := R3_o (by omega)
  have e23 : mR3 V t 0 23 = V 0 23 := R3_o (by omega)
  cases hok : (mR2 V t).2 with
  | false =>
    have e4 : mR4 V t = mR3 V t := by unfold mR4; rw [hok]; rfl
    rw [e4]
    refine ⟨p1, p2, p3, ⟨0, by unfold mPaid; rw [hok]; rfl, by omega, fun x => ?_⟩, by omega, fun e => ⟨fun q => ?_, fun q => ?_⟩, fun p hp => Or.inl (e20 p), fun k j _ => rfl⟩
    · rw [e17]
      split
      · rename_i q; rw [q]; rfl
      · rfl
    · rw [R3_18, if_neg q]; exact Or.inl rfl
    · rw [R3_18, if_pos q]; omega
  | true =>
    have e4 : mR4 V t = mFinds (mR3 V t) t (V 10 t) := by unfold mR4; rw [hok]; rfl
    obtain ⟨b1, b2, b3, b4, b5, b6, b7, b8, b9⟩ := mFinds_all ht (show V 10 t < 50 by omega) p2 p3 p4 p6 p7
    rw [e4]
    refine ⟨b3 p1 p8, b1, b2, ⟨mFinds0 (mR3 V t) t (V 10 t) 0 26 - mR3 V t 0 26, by unfold mPaid; rw [hok]; rfl, by omega, fun x => ?_⟩, by omega, fun e => ⟨fun q => ?_, fun q => ?_⟩, fun p hp => ?_, fun k j z => mFinds_o z⟩
    · rw [b7, e17, e17]
    · have := b8 e
      rw [if_neg q, R3_18, if_neg q] at this
      exact this
    · have := b8 e
      rw [if_pos q] at this
      omega
    · rcases b9 p with z | ⟨z, x, hx, h2, rfl⟩
      · exact Or.inl (by rw [z, e20])
      · right
        have hab := fab_lt (t := t) (r := V 10 t) (x := x) (by omega) hx
        refine ⟨z, ?_⟩
        have k1 : 2 ≤ mFinds (mR3 V t) t (V 10 t) 18 (50 * t + V 10 t) := by
          have := b8 (50 * t + V 10 t)
          rw [if_pos rfl] at this
          omega
        have k2 : 2 ≤ mFinds (mR3 V t) t (V 10 t) 18 (50 * (1 - t) + x) := by
          have := b8 (50 * (1 - t) + x)
          rw [if_neg (by omega), h2] at this
          omega
        rw [show (50 * fa t (V 10 t) x + fb t (V 10 t) x) / 50 = fa t (V 10 t) x by omega, show (50 * fa t (V 10 t) x + fb t (V 10 t) x) % 50 = fb t (V 10 t) x by omega]
        rcases (show t = 0 ∨ t = 1 by omega) with rfl | rfl
        · have e1 : fa 0 (V 10 0) x = V 10 0 := rfl
          have e2 : fb 0 (V 10 0) x = x := rfl
          rw [e1, e2]
          rw [show 50 * 0 + V 10 0 = V 10 0 by omega] at k1
          rw [show 50 * (1 - 0) + x = 50 + x by omega] at k2
          exact ⟨k1, k2⟩
        · have e1 : fa 1 (V 10 1) x = x := rfl
          have e2 : fb 1 (V 10 1) x = V 10 1 := rfl
          rw [e1, e2]
          rw [show 50 * 1 + V 10 1 = 50 + V 10 1 by omega] at k1
          rw [show 50 * (1 - 1) + x = x by omega] at k2
          exact ⟨k2, k1⟩
theorem R5_o {V : zS} {t k j : Nat} (h : k ≠ 16 ∧ (k = 0 → j ≠ 27)) : mR5 V t k j = mR4 V t k j := by
  unfold mR5
  by_cases hk : k = 0
  · subst hk; rw [vs_k _ (by decide), vs_i _ (h.2 rfl)]
  · rw [vs_k _ h.1, vs_k _ hk]
theorem JV_R5 {V : zS} (h : JV V) {t : Nat} (ht : t < 2) (hr : V 10 t < V 1 t) : JV (mR5 V t) := by
  obtain ⟨p1, p2, p3, ⟨n, pn, p4, p5⟩, p6, p7, p8, p9⟩ := R4_all h ht hr
  have hs := JV_t h ht
  have hss := JV_s h
  have hB := Rd1_tB h ht
  obtain ⟨hV, jt, j8, jk, jo, hq, hg, jp, jgp, js, jc⟩ := h
  have a := jt t ht
  have gle := GI_le p3
  -- numbers that stay
  have u : ∀ k j, k ≠ 16 ∧ k ≠ 17 ∧ k ≠ 18 ∧ k ≠ 19 ∧ k ≠ 22 ∧ k ≠ 20 ∧ k ≠ 21 ∧ k ≠ 10 ∧ k ≠ 13 ∧ k ≠ 14 ∧ k ≠ 15 ∧ (k = 0 → j ≠ 23 ∧ j ≠ 26 ∧ j ≠ 28 ∧ j ≠ 29 ∧ j ≠ 30 ∧ j ≠ 27) → mR5 V t k j = V k j := by
    intro k j z
    rw [R5_o (by omega), p9 k j (by omega), R3_o (by omega)]
  have u2 : ∀ k j, k = 10 ∨ k = 13 ∨ k = 14 ∨ k = 15 → mR5 V t k j = (mR2 V t).1 k j := by
    intro k j z
    rw [R5_o (by omega), p9 k j (by omega), R3_k (by omega)]
  have v10 : ∀ j, mR5 V t 10 j = if j = t then V 10 t + 1 else V 10 j := fun j => by rw [u2 10 j (by omega), R2_10]
  have hb := fun b => tst_b (r := V 10 t) ht (V 9 t) 0 (mRd1 V t) (by omega) (fun j hj => by rw [mRd1_o (by omega), mRd1_o (by omega)]; exact ⟨(j8 j hj).2.1, (j8 j hj).2.2⟩) b
  have m13 : ∀ j, mRd1 V t 13 j = V 13 j := fun j => mRd1_o (by omega)
  have m14 : ∀ j, mRd1 V t 14 j = V 14 j := fun j => mRd1_o (by omega)
  have m15 : ∀ j, mRd1 V t 15 j = V 15 j := fun j => mRd1_o (by omega)
  simp only [m13, m14, m15] at hb
  have v15t : V 15 t ≤ mR5 V t 15 t ∧ mR5 V t 15 t ≤ V 15 t + 200 := by
    rw [u2 15 t (by omega)]
    have := (hb t).2.2.2
    have e : (mR2 V t).1 15 t = (tst t (V 10 t) (V 9 t) 0 (mRd1 V t)).1 15 t := rfl
    omega
  have v15o : ∀ x, x ≠ t → mR5 V t 15 x = V 15 x := fun x hx => by
    rw [u2 15 x (by omega)]
    exact (hb x).2.2.1 hx
  have r416 : ∀ x, mR4 V t 16 x = V 16 x := fun x => by rw [p9 16 x (by omega), R3_o (by omega)]
  have v16 : ∀ x, mR5 V t 16 x = if x = t then V 16 t + mPaid V t else V 16 x := fun x => by
    unfold mR5
    rw [vs_at, r416, vs_k _ (by decide), r416]
  have v17 : ∀ x, mR5 V t 17 x = if x = t then V 17 t + n else V 17 x := fun x => by rw [R5_o (by omega), p5]
  have v26 : mR5 V t 0 26 = V 0 26 + n := by rw [R5_o (by omega), p4]
  have r427 : mR4 V t 0 27 = V 0 27 := by rw [p9 0 27 (by omega), R3_o (by omega)]
  have v27 : mR5 V t 0 27 = V 0 27 + mPaid V t := by
    unfold mR5
    rw [vs_k _ (by decide), vs_same, r427]
  have v18 : ∀ e, mR5 V t 18 e = mR4 V t 18 e := fun e => R5_o (by omega)
  have v20 : ∀ e, mR5 V t 20 e = mR4 V t 20 e := fun e => R5_o (by omega)
  have hpd : mPaid V t = 1 + (mR5 V t 15 t - V 15 t) + n := by rw [pn, u2 15 t (by omega)]
  have v9 : ∀ x, mR5 V t 9 x = V 9 x := fun x => u 9 x (by omega)
  have v11 : ∀ x, mR5 V t 11 x = V 11 x := fun x => u 11 x (by omega)
  have q5 : QI (mR5 V t) := by
    unfold mR5
    exact QI_o (QI_o p2 (Or.inl (by omega))) (Or.inr (by omega))
  obtain ⟨s1, s2, s3, s4, s5, s6, s7, s8, s9, s10⟩ := js
  have v29 : mR5 V t 0 29 = t + 1 := by
    rw [R5_o (by omega), p9 0 29 (by omega), R3_k (by omega)]
    unfold mR2
    rw [tst_o (by decide)]
    unfold mRd1
    rw [vs_same]
  have v30 : mR5 V t 0 30 ≤ V 0 30 + 1 := by
    rw [R5_o (by omega), p9 0 30 (by omega), R3_k (by omega)]
    unfold mR2
    rw [tst_o (by decide)]
    unfold mRd1
    rw [vs_i _ (by decide)]
    split
    · rw [vs_same]; exact Nat.le_refl _
    · rw [vs_k _ (by decide)]; omega
  have h10 : mR5 V t 10 0 + mR5 V t 10 1 = V 10 0 + V 10 1 + 1 := by
    rw [v10, v10]
    rcases (show t = 0 ∨ t = 1 by omega) with rfl | rfl
    · rw [if_pos rfl, if_neg (by decide)]; omega
    · rw [if_neg (by decide), if_pos rfl]; omega
  have h17 : mR5 V t 17 0 + mR5 V t 17 1 = V 17 0 + V 17 1 + n := by
    rw [v17, v17]
    rcases (show t = 0 ∨ t = 1 by omega) with rfl | rfl
    · rw [if_pos rfl, if_neg (by decide)]; omega
    · rw [if_neg (by decide), if_pos rfl]; omega
  have h16 : mR5 V t 16 0 + mR5 V t 16 1 = V 16 0 + V 16 1 + mPaid V t := by
    rw [v16, v16]
    rcases (show t = 0 ∨ t = 1 by omega) with rfl | rfl
    · rw [if_pos rfl, if_neg (by decide)]; omega
    · rw [if_neg (by decide), if_pos rfl]; omega
  have hpl : mPaid V t ≤ 1 + 200 + 2500 := by omega
  refine ⟨?_, fun x hx => ?_, fun j hj => ?_, fun x k hx hk => ?_, fun x hx => ?_, q5, ?_, fun x y hx hy => ?_, fun p hp => ?_, ?_, fun j hj => ?_⟩
  · unfold mR5
    refine (p1.up ?_).up ?_
    · rw [r427]; omega
    · rw [r416]; omega
  · have ax := jt x hx
    rw [u 1 x (by omega), u 3 x (by omega), v9, v10, u 8 x (by omega), u 12 x (by omega), v16, v17]
    by_cases q : x = t
    · subst q
      rw [if_pos rfl, if_pos rfl, if_pos rfl]
      omega
    · rw [if_neg q, if_neg q, if_neg q, v15o x q]
      exact ax
  · rw [u 4 j (by omega), u 7 j (by omega), v11]
    exact j8 j hj
  · have k0 := jk x k hx hk
    have hbk := hb (4 * x + k)
    have e13 : mR5 V t 13 (4 * x + k) = (tst t (V 10 t) (V 9 t) 0 (mRd1 V t)).1 13 (4 * x + k) := u2 13 _ (by omega)
    have e14 : mR5 V t 14 (4 * x + k) = (tst t (V 10 t) (V 9 t) 0 (mRd1 V t)).1 14 (4 * x + k) := u2 14 _ (by omega)
    rw [e13, e14, v10]
    by_cases q : x = t
    · rw [if_pos q]
      subst q
      omega
    · rw [if_neg q]
      have := hbk.2.1 (by omega)
      omega
  · rw [v9]
    have := jo x hx
    simp only [v11]
    exact this
  · exact GI_o p3 (R5_o (by omega)) (fun i => R5_o (by omega)) (fun p => R5_o (by omega))
  · rw [v18, v10]
    have k := p7 (50 * x + y)
    have j1 := jp x y hx hy
    by_cases q : 50 * x + y = 50 * t + V 10 t
    · have e1 : x = t := by omega
      have e2 : y = V 10 t := by omega
      have := k.2 q
      rw [if_pos e1]
      refine ⟨⟨fun _ => by omega, fun _ => by omega⟩, by omega⟩
    · have k1 := k.1 q
      have hrw : (if x = t then V 10 t + 1 else V 10 x) = (if x = t then V 10 t + 1 else V 10 x) := rfl
      have hlt : (y < (if x = t then V 10 t + 1 else V 10 x)) ↔ y < V 10 x := by
        by_cases q2 : x = t
        · rw [if_pos q2, q2]
          have : y ≠ V 10 t := fun z => q (by rw [q2, z])
          omega
        · rw [if_neg q2]
      rw [hlt, ← j1.1]
      refine ⟨by omega, by omega⟩
  · rw [v20]
    have j1 := jgp p hp
    rcases p8 p hp with z | ⟨z, z1, z2⟩
    · rw [z]
      refine ⟨j1.1, fun q => ?_⟩
      have j2 := j1.2 q
      rw [v18, v18]
      have k1 := p7 (p / 50)
      have k2 := p7 (50 + p % 50)
      have w : ∀ e, 2 ≤ V 18 e → e ≠ 50 * t + V 10 t := by
        intro e he hz
        have := (jp t (V 10 t) ht (by omega)).1.mp (by rw [← hz]; omega)
        omega
      have k3 := k1.1 (w _ j2.1)
      have k4 := k2.1 (w _ j2.2)
      omega
    · rw [z]
      exact ⟨Nat.le_refl _, fun _ => by rw [v18, v18]; exact ⟨z1, z2⟩⟩
  · have v23 : mR5 V t 0 23 ≤ V 0 23 + 1 := by rw [R5_o (by omega)]; exact p6
    have v31 : mR5 V t 0 31 = V 0 31 := u 0 31 (by omega)
    refine ⟨by rw [u 0 8 (by omega)]; exact s1, by rw [u 0 9 (by omega)]; exact s2, by rw [u 0 10 (by omega)]; exact s3, by omega, by omega, by omega, by omega, by omega, by omega, ?_⟩
    rw [u 0 11 (by omega), v9, v9]; exact s10
  · rw [u 2 j (by omega)]; exact jc j hj
theorem turnR_ex {V : zS} {t : Nat} {V' : zS} (h : turnR V t V') : ∃ o c, V' = vs (ordV V t o) 0 31 c ∧ c ≤ V 0 31 + 1 ∧ srtd V t (V 9 t) o := by
  obtain ⟨o, a1, a2, a3⟩ := h
  by_cases q : ∀ j, j < V 9 t → o j = V 11 (4 * t + j)
  · refine ⟨o, V 0 31, ?_, by omega, a1⟩
    rw [a2 q]
    have e : ordV V t o = V := ordV_self V t (fun j hj => by
      rcases Nat.lt_or_ge j (V 9 t) with z | z
      · exact q j z
      · exact a1.2.2.2 j z)
    rw [e]
    funext a b
    unfold vs
    split
    · split
      · rename_i h1 h2; rw [h1, h2]
      · rfl
    · rfl
  · have q2 : ∃ j, j < V 9 t ∧ o j ≠ V 11 (4 * t + j) := by
      apply Classical.byContradiction
      intro z
      exact q (fun j hj => Classical.byContradiction (fun w => z ⟨j, hj, w⟩))
    exact ⟨o, V 0 31 + 1, a3 q2, Nat.le_refl _, a1⟩
theorem mTurns_ex (V : zS) (t : Nat) : mTurns V t = V ∨ ∃ o c, mTurns V t = vs (ordV V t o) 0 31 c ∧ c ≤ V 0 31 + 1 ∧ srtd V t (V 9 t) o := by
  unfold mTurns
  split
  · unfold mTurn
    by_cases q : ∃ V', turnR V t V'
    · rw [dif_pos q]
      exact Or.inr (turnR_ex (Classical.choose_spec q))
    · rw [dif_neg q]; exact Or.inl rfl
  · exact Or.inl rfl
/-- a new order keeps what holds -/
theorem JV_ord {V : zS} (h : JV V) {t : Nat} (ht : t < 2) {o : Nat → Nat} {c : Nat} (hc : c ≤ V 10 0 + V 10 1) (hs : srtd V t (V 9 t) o) : JV (vs (ordV V t o) 0 31 c) := by
  have hss := JV_s h
  obtain ⟨hV, jt, j8, jk, jo, hq, hg, jp, jgp, js, jc⟩ := h
  have a := jt t ht
  have u : ∀ k j, k ≠ 11 → (k = 0 → j ≠ 31) → vs (ordV V t o) 0 31 c k j = V k j := by
    intro k j h1 h2
    by_cases hk : k = 0
    · subst hk; rw [vs_i _ (h2 rfl), ordV_k _ _ _ (by decide)]
    · rw [vs_k _ hk, ordV_k _ _ _ h1]
  have u11 : ∀ j, vs (ordV V t o) 0 31 c 11 j = ordV V t o 11 j := fun j => vs_k _ (by decide)
  have u31 : vs (ordV V t o) 0 31 c 0 31 = c := vs_same _ _ _ _
  have o4 : ∀ j, j < 4 → o j < 4 := by
    intro j hj
    rcases Nat.lt_or_ge j (V 9 t) with z | z
    · obtain ⟨i, hi, e⟩ := hs.2.1 j z
      rw [e]
      exact (j8 _ (by omega)).2.2
    · rw [hs.2.2.2 j z]
      exact (j8 _ (by omega)).2.2
  have e1 : ∀ k, k ≠ 11 → k ≠ 0 → ∀ j, vs (ordV V t o) 0 31 c k j = V k j := fun k h1 h2 j => u k j h1 (fun z => absurd z h2)
  refine ⟨(BV_ord hV t o4).up (by omega), fun x hx => ?_, fun j hj => ?_, fun x k hx hk => ?_, fun x hx => ?_, ?_, ?_, fun x y hx hy => ?_, fun p hp => ?_, ?_, fun j hj => ?_⟩
  · rw [e1 1 (by decide) (by decide), e1 3 (by decide) (by decide), e1 9 (by decide) (by decide), e1 10 (by decide) (by decide), e1 8 (by decide) (by decide), e1 12 (by decide) (by decide), e1 15 (by decide) (by decide), e1 16 (by decide) (by decide), e1 17 (by decide) (by decide)]
    exact jt x hx
  · rw [e1 4 (by decide) (by decide), e1 7 (by decide) (by decide), u11]
    refine ⟨(j8 j hj).1, (j8 j hj).2.1, ?_⟩
    unfold ordV
    split
    · exact o4 _ (by omega)
    · exact (j8 j hj).2.2
  · rw [e1 13 (by decide) (by decide), e1 14 (by decide) (by decide), e1 10 (by decide) (by decide)]
    exact jk x k hx hk
  · rw [e1 9 (by decide) (by decide)]
    simp only [u11]
    have ax := jt x hx
    by_cases q : x = t
    · subst q
      have e : ∀ j, j < V 9 x → ordV V x o 11 (4 * x + j) = o j := fun j hj => ordV_at V x o (by omega)
      have jx := jo x hx
      refine ⟨fun j hj => ?_, fun i j hi hj hij => ?_, fun y hy => ?_⟩
      · rw [e j hj]
        obtain ⟨i, hi, e2⟩ := hs.2.1 j hj
        rw [e2]; exact jx.1 i hi
      · rw [e i hi, e j hj] at hij
        rcases Nat.lt_trichotomy i j with z | z | z
        · have := hs.1 i j z hj
          rw [hij] at this
          exact absurd this (fun w => less_asym w w)
        · exact z
        · have := hs.1 j i z hi
          rw [hij] at this
          exact absurd this (fun w => less_asym w w)
      · obtain ⟨i, hi, e2⟩ := jx.2.2 y hy
        obtain ⟨j, hj, e3⟩ := hs.2.2.1 i hi
        exact ⟨j, hj, by rw [e j hj, ← e3]; exact e2⟩
    · have e : ∀ j, j < 4 → ordV V t o 11 (4 * x + j) = V 11 (4 * x + j) := by
        intro j hj
        unfold ordV
        rw [if_neg (by omega)]
      have jx := jo x hx
      refine ⟨fun j hj => ?_, fun i j hi hj hij => ?_, fun y hy => ?_⟩
      · rw [e j (by omega)]; exact jx.1 j hj
      · rw [e i (by omega), e j (by omega)] at hij
        exact jx.2.1 i j hi hj hij
      · obtain ⟨j, hj, e2⟩ := jx.2.2 y hy
        exact ⟨j, hj, by rw [e j (by omega)]; exact e2⟩
  · unfold QI
    simp only [u 0 23 (by decide) (by decide), u 0 28 (by decide) (by decide), e1 22 (by decide) (by decide), e1 19 (by decide) (by decide), e1 18 (by decide) (by decide)]
    exact hq
  · exact GI_o hg (u 0 26 (by decide) (by decide)) (e1 21 (by decide) (by decide)) (e1 20 (by decide) (by decide))
  · rw [e1 18 (by decide) (by decide), e1 10 (by decide) (by decide)]
    exact jp x y hx hy
  · rw [e1 20 (by decide) (by decide), e1 18 (by decide) (by decide), e1 18 (by decide) (by decide)]
    exact jgp p hp
  · obtain ⟨s1, s2, s3, s4, s5, s6, s7, s8, s9, s10⟩ := js
    unfold J_s
    rw [u 0 8 (by decide) (by decide), u 0 9 (by decide) (by decide), u 0 10 (by decide) (by decide), u 0 29 (by decide) (by decide), u 0 23 (by decide) (by decide), u 0 26 (by decide) (by decide), u 0 27 (by decide) (by decide), u 0 30 (by decide) (by decide), u 0 11 (by decide) (by decide), u31]
    simp only [e1 10 (by decide) (by decide), e1 17 (by decide) (by decide), e1 16 (by decide) (by decide), e1 9 (by decide) (by decide)]
    exact ⟨s1, s2, s3, s4, s5, s6, s7, s8, hc, s10⟩
  · rw [e1 2 (by decide) (by decide)]; exact jc j hj
theorem JV_reads {V : zS} (h : JV V) {t : Nat} (ht : t < 2) (hr : V 10 t < V 1 t) : JV (mReads V t) := by
  have h5 := JV_R5 h ht hr
  unfold mReads
  split
  · rcases mTurns_ex (mR5 V t) t with e | ⟨o, c, e, hc, hs⟩
    · rw [e]; exact h5
    · rw [e]
      refine JV_ord h5 ht ?_ hs
      have e31 : mR5 V t 0 31 = V 0 31 := by
        obtain ⟨-, -, -, -, -, -, -, p9⟩ := R4_all h ht hr
        rw [R5_o (by omega), p9 0 31 (by omega), R3_o (by omega)]
      have e10 : ∀ j, mR5 V t 10 j = if j = t then V 10 t + 1 else V 10 j := by
        obtain ⟨-, -, -, -, -, -, -, p9⟩ := R4_all h ht hr
        intro j
        rw [R5_o (by omega), p9 10 j (by omega), R3_k (by omega), R2_10]
      have s9 := h.2.2.2.2.2.2.2.2.2.1.2.2.2.2.2.2.2.2.1
      rw [e10, e10]
      rcases (show t = 0 ∨ t = 1 by omega) with rfl | rfl
      · rw [if_pos rfl, if_neg (by decide)]; omega
      · rw [if_neg (by decide), if_pos rfl]; omega
  · exact h5
end
section
theorem zo_eq {n t : Nat} (hn : n < 2 ^ 30) (ht : t < 2 ^ 30) : zo n = nI t ↔ n = t + 1 := by
  rw [← Int32.toInt_inj, zo_toInt hn, nI_toInt (by omega)]; omega

set_option maxRecDepth 100000 in
set_option maxHeartbeats 4000000 in
theorem m_reads (V : zS) (t : Nat) (h : JV V) (ht : t < 2) (hr : V 10 t < V 1 t) : PM mX5_reads [.ref 0, .int (nI t)] (hM V) (fun zr zq => zr = none ∧ zq = hM (mReads V t)) := by
  refine PM.of (by decide +kernel) (by simp [Value.category]) (Nat.le_of_ble_eq_true rfl) ?_
  have hs := JV_t h ht
  have hss := JV_s h
  have hB := Rd1_tB h ht
  have h3 := R3_pre h ht hr
  have hJ5 := JV_R5 h ht hr
  have jt := h.2.1 t ht
  have jt1 := h.2.1 (1 - t) (by omega)
  have j8 := h.2.2.1
  have s4 : V 0 29 ≤ 2 := h.2.2.2.2.2.2.2.2.2.1.2.2.2.1
  have K193 : ∀ pd, pd = mPaid V t → Wp mX5_reads (fun zr zq => zr = none ∧ zq = hM (mReads V t)) 193 [.ref 0, .int (nI t), .int (nI (V 10 t)), .int (nI pd), .null, .null, .null] [] (hM (mR4 V t)) := by
    intro pd hpd
    subst hpd
    refine Wp.aload_n (pc2 := 194) dX5_reads_193 rfl rfl ?_
    refine Wp.dup (pc2 := 195) dX5_reads_194 rfl rfl ?_
    refine Wp.getf (pc2 := 198) fX5_106 dX5_reads_195 rfl rfl rfl ?_
    refine Wp.iload_n (pc2 := 199) dX5_reads_198 rfl rfl ?_
    refine Wp.iaddN (pc2 := 200) dX5_reads_199 rfl  ?_
    change Wp _ _ _ _ (.int (nI (mR4 V t 0 27 + mPaid V t)) :: _) _
    refine Wp.putf (pc2 := 203) gX5_106 dX5_reads_200 rfl rfl (Nat.le_of_ble_eq_true rfl) rfl rfl ?_
    refine Wp.heq (hM_o0_27 _ _) ?_
    refine Wp.aload_n (pc2 := 204) dX5_reads_203 rfl rfl ?_
    refine Wp.getf (pc2 := 207) fX5_63 dX5_reads_204 rfl rfl rfl ?_
    refine Wp.iload_n (pc2 := 208) dX5_reads_207 rfl rfl ?_
    refine Wp.dup2 (pc2 := 209) dX5_reads_208 rfl rfl rfl ?_
    refine Wp.ialdN (pc2 := 210) dX5_reads_209 rfl rfl (by omega) (by decide) ?_
    refine Wp.iload_n (pc2 := 211) dX5_reads_210 rfl rfl ?_
    refine Wp.iaddN (pc2 := 212) dX5_reads_211 rfl  ?_
    change Wp _ _ _ _ (.int (nI (mR4 V t 16 t + mPaid V t)) :: _) _
    refine Wp.iastN (pc2 := 213) dX5_reads_212 rfl rfl (by omega) (by decide) ?_
    refine Wp.heq (hM_a16 _ _ _) ?_
    change Wp _ _ _ _ _ (hM (mR5 V t))
    refine Wp.aload_n (pc2 := 214) dX5_reads_213 rfl rfl ?_
    refine Wp.getf (pc2 := 217) fX5_44 dX5_reads_214 rfl rfl rfl ?_
    refine Wp.iload_n (pc2 := 218) dX5_reads_217 rfl rfl ?_
    refine Wp.ialdN (pc2 := 219) dX5_reads_218 rfl rfl (by omega) (by decide) ?_
    refine Wp.iconN (pc2 := 220) 4 dX5_reads_219 rfl ?_
    refine Wp.iremN (pc2 := 221) dX5_reads_220 rfl (hJ5.1.l _ _) (by decide) (by decide) ?_
    refine Wp.ifN_ne (pc2 := 224) 229 dX5_reads_221 rfl (by decide) (by have := hJ5.1 10 t; omega) (fun c221 => ?_) (fun c221 => ?_)
    · refine Wp.retv dX5_reads_229 rfl ?_
      unfold mReads
      rw [if_neg c221]
      exact ⟨rfl, rfl⟩
    · refine Wp.aload_n (pc2 := 225) dX5_reads_224 rfl rfl ?_
      refine Wp.iload_n (pc2 := 226) dX5_reads_225 rfl rfl ?_
      refine Wp.callV (pc2 := 229) kX5_reads_142 vX5_turns (m_turns (mR5 V t) t hJ5.1 ht (by have := hJ5.2.1 t ht; omega) (by have := (JV_s hJ5).2.2.2.2.1; omega) (fun j hj => (hJ5.2.2.1 (4 * t + j) (by omega)).2.2) (fun i j hi hj e => (hJ5.2.2.2.2.1 t ht).2.1 i j hi hj e)) dX5_reads_226 rfl rfl rfl rfl rfl (Nat.le_of_ble_eq_true rfl) ?_
      rintro _ _ ⟨rfl, rfl⟩
      refine Wp.retv dX5_reads_229 rfl ?_
      unfold mReads
      rw [if_pos c221]
      exact ⟨rfl, rfl⟩
  have K167 : ∀ W is, (W, is) = mR2 V t → Wp mX5_reads (fun zr zq => zr = none ∧ zq = hM (mReads V t)) 167 [.ref 0, .int (nI t), .int (nI (V 10 t)), .int (nI (1 + (W 15 t - V 15 t))), .int (nI (zb is)), .null, .null] [] (hM W) := by
    intro W is hW
    have eW : W = (mR2 V t).1 := congrArg Prod.fst hW
    have ei : is = (mR2 V t).2 := congrArg Prod.snd hW
    subst eW
    refine Wp.aload_n (pc2 := 168) dX5_reads_167 rfl rfl ?_
    refine Wp.getf (pc2 := 171) fX5_69 dX5_reads_168 rfl rfl rfl ?_
    refine Wp.bipN (pc2 := 173) 50 dX5_reads_171 rfl (by decide +kernel) ?_
    refine Wp.iload_n (pc2 := 174) dX5_reads_173 rfl rfl ?_
    refine Wp.imulN (pc2 := 175) dX5_reads_174 rfl  ?_
    refine Wp.iload_n (pc2 := 176) dX5_reads_175 rfl rfl ?_
    refine Wp.iaddN (pc2 := 177) dX5_reads_176 rfl  ?_
    refine Wp.iconN (pc2 := 178) 1 dX5_reads_177 rfl ?_
    refine Wp.iastN (pc2 := 179) dX5_reads_178 rfl rfl (by omega) (by decide) ?_
    refine Wp.heq (hM_a18 _ _ _) ?_
    change Wp _ _ _ _ _ (hM (mR3 V t))
    refine Wp.iload (pc2 := 181) dX5_reads_179 rfl rfl ?_
    refine Wp.ifN_eq (pc2 := 184) 193 dX5_reads_181 rfl (by decide) (zb_lt _) (fun c181 => ?_) (fun c181 => ?_)
    · have e2 : (mR2 V t).2 = false := by rw [← ei]; exact zb_0 c181
      refine Wp.fg [.ref 0, .int (nI t), .int (nI (V 10 t)), .int (nI (1 + ((mR2 V t).1 15 t - V 15 t))), .null, .null, .null] (And.intro (Or.inr rfl) (And.intro (Or.inr rfl) (And.intro (Or.inr rfl) (And.intro (Or.inr rfl) (And.intro (Or.inl rfl) (And.intro (Or.inl rfl) (And.intro (Or.inl rfl) trivial))))))) ?_
      refine Wp.heq (h' := hM (mR4 V t)) (by unfold mR4; rw [e2]; rfl) ?_
      exact K193 _ (by unfold mPaid; rw [e2]; rfl)
    · refine Wp.iload_n (pc2 := 185) dX5_reads_184 rfl rfl ?_
      refine Wp.aload_n (pc2 := 186) dX5_reads_185 rfl rfl ?_
      refine Wp.iload_n (pc2 := 187) dX5_reads_186 rfl rfl ?_
      refine Wp.iload_n (pc2 := 188) dX5_reads_187 rfl rfl ?_
      refine Wp.callV (pc2 := 191) kX5_reads_138 vX5_finds (m_finds (mR3 V t) t (V 10 t) ht (by omega) h3.2.1 h3.1 h3.2.2.1 h3.2.2.2.1 (by rw [R3_o (by omega)]; exact (h.2.1 0 (by decide)).2.2.2.2.1) (by rw [R3_o (by omega)]; exact (h.2.1 1 (by decide)).2.2.2.2.1) (by rw [R3_o (by omega)]; omega) h3.2.2.2.2.1 h3.2.2.2.2.2.1 h3.2.2.2.2.2.2.1 h3.2.2.2.2.2.2.2) dX5_reads_188 rfl rfl rfl rfl rfl (Nat.le_of_ble_eq_true rfl) ?_
      rintro _ _ ⟨rfl, rfl⟩
      refine Wp.iaddN (pc2 := 192) dX5_reads_191 rfl  ?_
      refine Wp.istore_n (pc2 := 193) dX5_reads_192 rfl (by decide) rfl ?_
      have e2 : (mR2 V t).2 = true := by rw [← ei]; exact zb_1 c181
      refine Wp.fg [.ref 0, .int (nI t), .int (nI (V 10 t)), .int (nI (1 + ((mR2 V t).1 15 t - V 15 t) + (mFinds0 (mR3 V t) t (V 10 t) 0 26 - mR3 V t 0 26))), .null, .null, .null] (And.intro (Or.inr rfl) (And.intro (Or.inr rfl) (And.intro (Or.inr rfl) (And.intro (Or.inr rfl) (And.intro (Or.inl rfl) (And.intro (Or.inl rfl) (And.intro (Or.inl rfl) trivial))))))) ?_
      refine Wp.heq (h' := hM (mR4 V t)) (by unfold mR4; rw [e2]; rfl) ?_
      exact K193 _ (by unfold mPaid; rw [e2]; rfl)
  have K43 : ∀ W, W = (if V 0 29 ≠ 0 ∧ V 0 29 ≠ t + 1 then vs (vs V 10 t (V 10 t + 1)) 0 30 (V 0 30 + 1) else vs V 10 t (V 10 t + 1)) → Wp mX5_reads (fun zr zq => zr = none ∧ zq = hM (mReads V t)) 43 [.ref 0, .int (nI t), .int (nI (V 10 t)), .null, .null, .null, .null] [] (hM W) := by
    intro W hW
    have hVR := BV_Rd1 h.1 ht (by omega) (by omega)
    have eR : vs W 0 29 (t + 1) = mRd1 V t := by rw [hW]; rfl
    refine Wp.aload_n (pc2 := 44) dX5_reads_43 rfl rfl ?_
    refine Wp.iload_n (pc2 := 45) dX5_reads_44 rfl rfl ?_
    refine Wp.top (zo (t + 1)) (zo_s t).symm ?_
    refine Wp.putf (pc2 := 48) gX5_112 dX5_reads_45 rfl rfl (Nat.le_of_ble_eq_true rfl) rfl rfl ?_
    refine Wp.heq (hM_o0_29 _ _) ?_
    rw [eR]
    refine Wp.iconN (pc2 := 49) 1 dX5_reads_48 rfl ?_
    refine Wp.istore_n (pc2 := 50) dX5_reads_49 rfl (by decide) rfl ?_
    refine Wp.iconN (pc2 := 51) 1 dX5_reads_50 rfl ?_
    refine Wp.istore (pc2 := 53) dX5_reads_51 rfl (by decide) rfl ?_
    refine Wp.iconN (pc2 := 54) 0 dX5_reads_53 rfl ?_
    refine Wp.istore (pc2 := 56) dX5_reads_54 rfl (by decide) rfl ?_
    refine m_reads_t t (V 10 t) _ ht (by omega) (V 9 t) 0 1 (mRd1 V t) hVR hB (by rw [mRd1_o (by omega)]; omega) (by rw [mRd1_o (by omega)]; omega) (by omega) (fun W' is hW' _ _ _ => ?_)
    have := K167 W' is hW'
    rw [mRd1_o (V := V) (t := t) (k := 15) (j := t) (by omega)]
    exact this
  refine Wp.aload_n (pc2 := 1) dX5_reads_0 rfl rfl ?_
  refine Wp.getf (pc2 := 4) fX5_44 dX5_reads_1 rfl rfl rfl ?_
  refine Wp.iload_n (pc2 := 5) dX5_reads_4 rfl rfl ?_
  refine Wp.ialdN (pc2 := 6) dX5_reads_5 rfl rfl (by omega) (by decide) ?_
  refine Wp.istore_n (pc2 := 7) dX5_reads_6 rfl (by decide) rfl ?_
  refine Wp.aload_n (pc2 := 8) dX5_reads_7 rfl rfl ?_
  refine Wp.getf (pc2 := 11) fX5_44 dX5_reads_8 rfl rfl rfl ?_
  refine Wp.iload_n (pc2 := 12) dX5_reads_11 rfl rfl ?_
  refine Wp.dup2 (pc2 := 13) dX5_reads_12 rfl rfl rfl ?_
  refine Wp.ialdN (pc2 := 14) dX5_reads_13 rfl rfl (by omega) (by decide) ?_
  refine Wp.iconN (pc2 := 15) 1 dX5_reads_14 rfl ?_
  refine Wp.iaddN (pc2 := 16) dX5_reads_15 rfl  ?_
  change Wp _ _ _ _ (.int (nI (V 10 t + 1)) :: _) _
  refine Wp.iastN (pc2 := 17) dX5_reads_16 rfl rfl (by omega) (by decide) ?_
  refine Wp.heq (hM_a10 _ _ _) ?_
  refine Wp.aload_n (pc2 := 18) dX5_reads_17 rfl rfl ?_
  refine Wp.getf (pc2 := 21) fX5_112 dX5_reads_18 rfl rfl rfl ?_
  refine Wp.icon (pc2 := 22) dX5_reads_21 rfl (-1) (by decide +kernel) ?_
  refine Wp.icmp_eq (pc2 := 25) 43 dX5_reads_22 rfl (by decide)  (fun c22 => ?_) (fun c22 => ?_)
  · refine Wp.fg [.ref 0, .int (nI t), .int (nI (V 10 t)), .null, .null, .null, .null] (And.intro (Or.inr rfl) (And.intro (Or.inr rfl) (And.intro (Or.inr rfl) (And.intro (Or.inl rfl) (And.intro (Or.inl rfl) (And.intro (Or.inl rfl) (And.intro (Or.inl rfl) trivial))))))) ?_
    exact K43 _ (by rw [if_neg (fun z => z.1 ((zo_m1 (by omega)).mp c22))])
  · refine Wp.aload_n (pc2 := 26) dX5_reads_25 rfl rfl ?_
    refine Wp.getf (pc2 := 29) fX5_112 dX5_reads_26 rfl rfl rfl ?_
    refine Wp.iload_n (pc2 := 30) dX5_reads_29 rfl rfl ?_
    refine Wp.icmp_eq (pc2 := 33) 43 dX5_reads_30 rfl (by decide)  (fun c30 => ?_) (fun c30 => ?_)
    · refine Wp.fg [.ref 0, .int (nI t), .int (nI (V 10 t)), .null, .null, .null, .null] (And.intro (Or.inr rfl) (And.intro (Or.inr rfl) (And.intro (Or.inr rfl) (And.intro (Or.inl rfl) (And.intro (Or.inl rfl) (And.intro (Or.inl rfl) (And.intro (Or.inl rfl) trivial))))))) ?_
      exact K43 _ (by rw [if_neg (fun z => z.2 ((zo_eq (by omega) (by omega)).mp c30))])
    · refine Wp.aload_n (pc2 := 34) dX5_reads_33 rfl rfl ?_
      refine Wp.dup (pc2 := 35) dX5_reads_34 rfl rfl ?_
      refine Wp.getf (pc2 := 38) fX5_115 dX5_reads_35 rfl rfl rfl ?_
      refine Wp.iconN (pc2 := 39) 1 dX5_reads_38 rfl ?_
      refine Wp.iaddN (pc2 := 40) dX5_reads_39 rfl  ?_
      change Wp _ _ _ _ (.int (nI (V 0 30 + 1)) :: _) _
      refine Wp.putf (pc2 := 43) gX5_115 dX5_reads_40 rfl rfl (Nat.le_of_ble_eq_true rfl) rfl rfl ?_
      refine Wp.heq (hM_o0_30 _ _) ?_
      refine Wp.fg [.ref 0, .int (nI t), .int (nI (V 10 t)), .null, .null, .null, .null] (And.intro (Or.inr rfl) (And.intro (Or.inr rfl) (And.intro (Or.inr rfl) (And.intro (Or.inl rfl) (And.intro (Or.inl rfl) (And.intro (Or.inl rfl) (And.intro (Or.inl rfl) trivial))))))) ?_
      have c22 : ¬ zo (V 0 29) = -1 := c22
      have c30 : ¬ zo (V 0 29) = nI t := c30
      exact K43 _ (by rw [if_pos ⟨zo_ne (by omega) c22, fun z => c30 ((zo_eq (by omega) (by omega)).mpr z)⟩])

noncomputable def lackP (V : zS) : Nat := @dite _ (∃ p, p < 2500 ∧ cand V p ∧ ∀ q, q < p → ¬ cand V q) (Classical.propDecidable _) (fun h => Classical.choose h) (fun _ => 0)
theorem lackP_eq {V : zS} {p : Nat} (h1 : p < 2500) (h2 : cand V p) (h3 : ∀ q, q < p → ¬ cand V q) : lackP V = p := by
  unfold lackP
  have hx : ∃ p, p < 2500 ∧ cand V p ∧ ∀ q, q < p → ¬ cand V q := ⟨p, h1, h2, h3⟩
  rw [dif_pos hx]
  have k := Classical.choose_spec hx
  rcases Nat.lt_trichotomy (Classical.choose hx) p with z | z | z
  · exact absurd k.2.1 (h3 _ z)
  · exact z
  · exact absurd h2 (k.2.2 _ z)
/-- a pair at the end -/
noncomputable def mLate (V : zS) : zS := vs (mGive V (lackP V / 50) (lackP V % 50)) 0 27 (V 0 27 + 2)
noncomputable def mStep0 (V : zS) : zS := if V 10 0 = V 1 0 ∧ V 10 1 = V 1 1 then mLate V else mReads V (mChoose V)
noncomputable def mStep (V : zS) : zS := mEnds (mStep0 V)
noncomputable def goF : Nat → zS → zS
  | 0, V => V
  | n + 1, V => if V 0 10 = 1 then goF n (mStep V) else V
noncomputable def goC : Nat → zS → Nat
  | 0, _ => 0
  | n + 1, V => if V 0 10 = 1 then 1 + goC n (mStep V) else 0
theorem goC_le : ∀ (n : Nat) (V : zS), goC n V ≤ n
  | 0, _ => Nat.le_refl 0
  | n + 1, V => by
    unfold goC
    split
    · have := goC_le n (mStep V); omega
    · omega
def JE (V : zS) : Prop := JV V ∧ J_e V
theorem lack_ex {V : zS} (h : ∃ q, q < 2500 ∧ cand V q) : ∃ p, p < 2500 ∧ cand V p ∧ ∀ q, q < p → ¬ cand V q := by
  obtain ⟨q, h1, h2⟩ := h
  obtain ⟨p, hp, hm⟩ := pk_least (fun q => cand V q) ⟨q, h2⟩
  refine ⟨p, ?_, hp, hm⟩
  rcases Nat.lt_or_ge q p with z | z
  · exact absurd h2 (hm q z)
  · omega
theorem end_ex {V : zS} (h : ¬ endP V) (h0 : V 10 0 = V 1 0) (h1 : V 10 1 = V 1 1) : ∃ q, q < 2500 ∧ cand V q := by
  apply Classical.byContradiction
  intro z
  exact h ⟨h0, h1, fun q hq hc => z ⟨q, hq, hc⟩⟩
/-- fields that giving, ends and late pairs leave -/
theorem JV_give {V : zS} (h : JV V) {p x : Nat} (hp : p < 2500) (hc : cand V p) (hx : x = V 0 27 + 2) : JV (vs (mGive V (p / 50) (p % 50)) 0 27 x) := by
  have hss := JV_s h
  obtain ⟨hV, jt, j8, jk, jo, hq, hg, jp, jgp, js, jc⟩ := h
  have hpp : 50 * (p / 50) + p % 50 = p := by omega
  have hlt := GI_lt hg hp hc.1
  have u : ∀ k j, k ≠ 20 → k ≠ 21 → (k = 0 → j ≠ 26 ∧ j ≠ 27) → vs (mGive V (p / 50) (p % 50)) 0 27 x k j = V k j := by
    intro k j h1 h2 h3
    by_cases hk : k = 0
    · subst hk; rw [vs_i _ (h3 rfl).2, mGive_o ⟨h1, h2, fun _ => (h3 rfl).1⟩]
    · rw [vs_k _ hk, mGive_o ⟨h1, h2, fun z => absurd z hk⟩]
  have e1 : ∀ k, k ≠ 20 → k ≠ 21 → k ≠ 0 → ∀ j, vs (mGive V (p / 50) (p % 50)) 0 27 x k j = V k j := fun k h1 h2 h3 j => u k j h1 h2 (fun z => absurd z h3)
  have u26 : vs (mGive V (p / 50) (p % 50)) 0 27 x 0 26 = V 0 26 + 1 := by simp [mGive, vs]
  have u27 : vs (mGive V (p / 50) (p % 50)) 0 27 x 0 27 = x := vs_same _ _ _ _
  have u20 : ∀ q, vs (mGive V (p / 50) (p % 50)) 0 27 x 20 q = if q = p then 1 else V 20 q := by
    intro q
    rw [vs_k _ (by decide)]
    unfold mGive
    rw [vs_k _ (by decide), vs_k _ (by decide), vs_at, hpp]
  have hgg : GI (mGive V (p / 50) (p % 50)) := GI_give hg (by omega) (by rw [hpp]; exact hc.1)
  refine ⟨(BV_give hV (by omega) hlt).up (by omega), fun y hy => ?_, fun j hj => ?_, fun y k hy hk => ?_, fun y hy => ?_, QI_o (QI_give hq) (Or.inl (by omega)), ?_, fun y z hy hz => ?_, fun q hq => ?_, ?_, fun j hj => ?_⟩
  · rw [e1 1 (by decide) (by decide) (by decide), e1 3 (by decide) (by decide) (by decide), e1 9 (by decide) (by decide) (by decide), e1 10 (by decide) (by decide) (by decide), e1 8 (by decide) (by decide) (by decide), e1 12 (by decide) (by decide) (by decide), e1 15 (by decide) (by decide) (by decide), e1 16 (by decide) (by decide) (by decide), e1 17 (by decide) (by decide) (by decide)]
    exact jt y hy
  · rw [e1 4 (by decide) (by decide) (by decide), e1 7 (by decide) (by decide) (by decide), e1 11 (by decide) (by decide) (by decide)]
    exact j8 j hj
  · rw [e1 13 (by decide) (by decide) (by decide), e1 14 (by decide) (by decide) (by decide), e1 10 (by decide) (by decide) (by decide)]
    exact jk y k hy hk
  · simp only [e1 9 (by decide) (by decide) (by decide), e1 11 (by decide) (by decide) (by decide)]
    exact jo y hy
  · exact GI_o hgg (vs_i _ (by decide)) (fun i => vs_k _ (by decide)) (fun i => vs_k _ (by decide))
  · rw [e1 18 (by decide) (by decide) (by decide), e1 10 (by decide) (by decide) (by decide)]
    exact jp y z hy hz
  · rw [u20, e1 18 (by decide) (by decide) (by decide), e1 18 (by decide) (by decide) (by decide)]
    by_cases w : q = p
    · rw [if_pos w, w]
      exact ⟨Nat.le_refl _, fun _ => ⟨hc.2.2.2.1, hc.2.2.2.2.1⟩⟩
    · rw [if_neg w]
      exact jgp q hq
  · obtain ⟨s1, s2, s3, s4, s5, s6, s7, s8, s9, s10⟩ := js
    unfold J_s
    rw [u 0 8 (by decide) (by decide) (by decide), u 0 9 (by decide) (by decide) (by decide), u 0 10 (by decide) (by decide) (by decide), u 0 29 (by decide) (by decide) (by decide), u 0 23 (by decide) (by decide) (by decide), u26, u27, u 0 30 (by decide) (by decide) (by decide), u 0 31 (by decide) (by decide) (by decide), u 0 11 (by decide) (by decide) (by decide)]
    simp only [e1 10 (by decide) (by decide) (by decide), e1 17 (by decide) (by decide) (by decide), e1 16 (by decide) (by decide) (by decide), e1 9 (by decide) (by decide) (by decide)]
    exact ⟨s1, s2, s3, s4, s5, by omega, by omega, s8, s9, s10⟩
  · rw [e1 2 (by decide) (by decide) (by decide)]; exact jc j hj
/-- a change of the state alone -/
theorem JV_state {V : zS} (h : JV V) {x : Nat} (hx : x ≤ 2) : JV (vs V 0 10 x) := by
  obtain ⟨hV, jt, j8, jk, jo, hq, hg, jp, jgp, js, jc⟩ := h
  have e1 : ∀ k, k ≠ 0 → ∀ j, vs V 0 10 x k j = V k j := fun k hk j => vs_k _ hk
  have e0 : ∀ j, j ≠ 10 → vs V 0 10 x 0 j = V 0 j := fun j hj => vs_i _ hj
  refine ⟨hV.up (by omega), fun y hy => ?_, fun j hj => ?_, fun y k hy hk => ?_, fun y hy => ?_, QI_o hq (Or.inl (by omega)), ?_, fun y z hy hz => ?_, fun q hq => ?_, ?_, fun j hj => ?_⟩
  · simp only [e1 _ (show (1 : Nat) ≠ 0 by decide), e1 _ (show (3 : Nat) ≠ 0 by decide), e1 _ (show (9 : Nat) ≠ 0 by decide), e1 _ (show (10 : Nat) ≠ 0 by decide), e1 _ (show (8 : Nat) ≠ 0 by decide), e1 _ (show (12 : Nat) ≠ 0 by decide), e1 _ (show (15 : Nat) ≠ 0 by decide), e1 _ (show (16 : Nat) ≠ 0 by decide), e1 _ (show (17 : Nat) ≠ 0 by decide)]
    exact jt y hy
  · simp only [e1 _ (show (4 : Nat) ≠ 0 by decide), e1 _ (show (7 : Nat) ≠ 0 by decide), e1 _ (show (11 : Nat) ≠ 0 by decide)]
    exact j8 j hj
  · simp only [e1 _ (show (13 : Nat) ≠ 0 by decide), e1 _ (show (14 : Nat) ≠ 0 by decide), e1 _ (show (10 : Nat) ≠ 0 by decide)]
    exact jk y k hy hk
  · simp only [e1 _ (show (9 : Nat) ≠ 0 by decide), e1 _ (show (11 : Nat) ≠ 0 by decide)]
    exact jo y hy
  · exact GI_o hg (e0 26 (by decide)) (e1 21 (by decide)) (e1 20 (by decide))
  · simp only [e1 _ (show (18 : Nat) ≠ 0 by decide), e1 _ (show (10 : Nat) ≠ 0 by decide)]
    exact jp y z hy hz
  · simp only [e1 _ (show (18 : Nat) ≠ 0 by decide), e1 _ (show (20 : Nat) ≠ 0 by decide)]
    exact jgp q hq
  · obtain ⟨s1, s2, s3, s4, s5, s6, s7, s8, s9, s10⟩ := js
    unfold J_s
    rw [e0 8 (by decide), e0 9 (by decide), e0 29 (by decide), e0 23 (by decide), e0 26 (by decide), e0 27 (by decide), e0 30 (by decide), e0 31 (by decide), e0 11 (by decide), vs_same]
    simp only [e1 _ (show (10 : Nat) ≠ 0 by decide), e1 _ (show (17 : Nat) ≠ 0 by decide), e1 _ (show (16 : Nat) ≠ 0 by decide), e1 _ (show (9 : Nat) ≠ 0 by decide)]
    exact ⟨s1, s2, hx, s4, s5, s6, s7, s8, s9, s10⟩
  · rw [e1 2 (by decide)]; exact jc j hj
theorem JE_ends {V : zS} (h : JV V) : JE (mEnds V) := by
  by_cases q : endP V
  · rw [mEnds_t q]
    refine ⟨JV_state h (by decide), fun z => ?_⟩
    rw [vs_same] at z; omega
  · rw [mEnds_f q]
    exact ⟨h, fun _ => q⟩
theorem choose_ok {V : zS} (h : JV V) (hn : ¬ (V 10 0 = V 1 0 ∧ V 10 1 = V 1 1)) : mChoose V < 2 ∧ V 10 (mChoose V) < V 1 (mChoose V) := by
  have a0 := h.2.1 0 (by decide)
  have a1 := h.2.1 1 (by decide)
  have s2 : V 0 9 ≤ 2 := h.2.2.2.2.2.2.2.2.2.1.2.1
  unfold mChoose
  split
  · refine ⟨by decide, ?_⟩; omega
  · split
    · refine ⟨by decide, ?_⟩; omega
    · split
      · rcases (show V 0 9 = 1 ∨ V 0 9 = 2 by omega) with e | e
        · rw [e]; refine ⟨by decide, ?_⟩; show V 10 0 < V 1 0; omega
        · rw [e]; refine ⟨by decide, ?_⟩; show V 10 1 < V 1 1; omega
      · split
        · refine ⟨by decide, ?_⟩; omega
        · refine ⟨by decide, ?_⟩; omega
theorem JV_step0 {V : zS} (h : JE V) (hs : V 0 10 = 1) : JV (mStep0 V) := by
  unfold mStep0
  split
  · rename_i q
    obtain ⟨p, h1, h2, h3⟩ := lack_ex (end_ex (h.2 hs) q.1 q.2)
    unfold mLate
    rw [lackP_eq h1 h2 h3]
    exact JV_give h.1 h1 h2 rfl
  · rename_i q
    have k := choose_ok h.1 q
    exact JV_reads h.1 k.1 k.2
theorem JE_step {V : zS} (h : JE V) (hs : V 0 10 = 1) : JE (mStep V) := JE_ends (JV_step0 h hs)
theorem JE_go : ∀ (n : Nat) (V : zS), JE V → JE (goF n V)
  | 0, _, h => h
  | n + 1, V, h => by
    unfold goF
    split
    · rename_i q; exact JE_go n _ (JE_step h q)
    · exact h

set_option maxRecDepth 100000 in
set_option maxHeartbeats 4000000 in
theorem m_go_l (n : Nat) (hn : n ≤ 200) : ∀ (m d : Nat) (V : zS), JE V → d + m = n → Wp mX5_go (fun zr zq => zr = some (.int (nI (d + goC m V))) ∧ zq = hM (goF m V)) 23 [.ref 0, .int (nI n), .int (nI d), .null] [] (hM V) := by
  intro m
  induction m with
  | zero =>
    intro d V h hd
    have hV := h.1.1
    refine Wp.iload_n (pc2 := 24) dX5_go_23 rfl rfl ?_
    refine Wp.iload_n (pc2 := 25) dX5_go_24 rfl rfl ?_
    refine Wp.icmpN_ge (pc2 := 28) 100 dX5_go_25 rfl (by decide) (by omega) (by omega) (fun c25 => ?_) (fun c25 => ?_)
    · refine Wp.iload_n (pc2 := 101) dX5_go_100 rfl rfl ?_
      refine Wp.ret dX5_go_101 rfl rfl ?_
      exact ⟨rfl, rfl⟩
    · exfalso; omega
  | succ m ih =>
    intro d V h hd
    have hV := h.1.1
    have a0 := h.1.2.1 0 (by decide)
    have a1 := h.1.2.1 1 (by decide)
    have K90 : V 0 10 = 1 → Wp mX5_go (fun zr zq => zr = some (.int (nI (d + goC (m + 1) V))) ∧ zq = hM (goF (m + 1) V)) 90 [.ref 0, .int (nI n), .int (nI d), .null] [] (hM (mStep0 V)) := by
      intro hs
      have hJ := JV_step0 h hs
      have b0 := hJ.2.1 0 (by decide)
      have b1 := hJ.2.1 1 (by decide)
      have eC : goC (m + 1) V = 1 + goC m (mStep V) := by rw [goC, if_pos hs]
      have eF : goF (m + 1) V = goF m (mStep V) := by rw [goF, if_pos hs]
      rw [eC, eF]
      refine Wp.iincN (pc2 := 93) dX5_go_90 rfl rfl (by decide) rfl ?_
      refine Wp.aload_n (pc2 := 94) dX5_go_93 rfl rfl ?_
      refine Wp.callV (pc2 := 97) kX5_go_121 vX5_ends (m_ends (mStep0 V) hJ.1 b0.2.2.2.2.1 b1.2.2.2.2.1) dX5_go_94 rfl rfl rfl rfl rfl (Nat.le_of_ble_eq_true rfl) ?_
      rintro _ _ ⟨rfl, rfl⟩
      refine Wp.goto (pc2 := 23) dX5_go_97 (by decide) ?_
      refine Wp.mono (ih (d + 1) (mStep V) (JE_step h hs) (by omega)) ?_
      rintro _ _ ⟨rfl, rfl⟩
      exact ⟨by rw [show d + 1 + goC m (mStep V) = d + (1 + goC m (mStep V)) by omega], rfl⟩
    refine Wp.iload_n (pc2 := 24) dX5_go_23 rfl rfl ?_
    refine Wp.iload_n (pc2 := 25) dX5_go_24 rfl rfl ?_
    refine Wp.icmpN_ge (pc2 := 28) 100 dX5_go_25 rfl (by decide) (by omega) (by omega) (fun c25 => ?_) (fun c25 => ?_)
    · refine Wp.iload_n (pc2 := 101) dX5_go_100 rfl rfl ?_
      refine Wp.ret dX5_go_101 rfl rfl ?_
      exfalso; omega
    · refine Wp.aload_n (pc2 := 29) dX5_go_28 rfl rfl ?_
      refine Wp.getf (pc2 := 32) fX5_89 dX5_go_29 rfl rfl rfl ?_
      refine Wp.iconN (pc2 := 33) 1 dX5_go_32 rfl ?_
      refine Wp.icmpN_ne (pc2 := 36) 100 dX5_go_33 rfl (by decide) (hV.l _ _) (by decide) (fun c33 => ?_) (fun c33 => ?_)
      · refine Wp.iload_n (pc2 := 101) dX5_go_100 rfl rfl ?_
        refine Wp.ret dX5_go_101 rfl rfl ?_
        have eC : goC (m + 1) V = 0 := by rw [goC, if_neg c33]
        have eF : goF (m + 1) V = V := by rw [goF, if_neg c33]
        rw [eC, eF]
        exact ⟨rfl, rfl⟩
      · refine Wp.aload_n (pc2 := 37) dX5_go_36 rfl rfl ?_
        refine Wp.iconN (pc2 := 38) 0 dX5_go_37 rfl ?_
        refine Wp.callV (pc2 := 41) kX5_go_128 vX5_isReadOut (m_isReadOut V 0 hV (by omega)) dX5_go_38 rfl rfl rfl rfl rfl (Nat.le_of_ble_eq_true rfl) ?_
        rintro _ _ ⟨⟨b1, rfl, hb1⟩, rfl⟩
        refine Wp.ifN_eq (pc2 := 44) 82 dX5_go_41 rfl (by decide) (zb_lt _) (fun c41 => ?_) (fun c41 => ?_)
        · have hnb : ¬ (V 10 0 = V 1 0 ∧ V 10 1 = V 1 1) := fun z => zbn hb1 c41 z.1
          refine Wp.aload_n (pc2 := 83) dX5_go_82 rfl rfl ?_
          refine Wp.aload_n (pc2 := 84) dX5_go_83 rfl rfl ?_
          refine Wp.callV (pc2 := 87) kX5_go_161 vX5_choose (m_choose V hV (by have := h.1.2.2.2.2.2.2.2.2.2.1.2.1; omega)) dX5_go_84 rfl rfl rfl rfl rfl (Nat.le_of_ble_eq_true rfl) ?_
          rintro _ _ ⟨rfl, rfl⟩
          refine Wp.callV (pc2 := 90) kX5_go_164 vX5_reads (m_reads V (mChoose V) h.1 (choose_ok h.1 hnb).1 (choose_ok h.1 hnb).2) dX5_go_87 rfl rfl rfl rfl rfl (Nat.le_of_ble_eq_true rfl) ?_
          rintro _ _ ⟨rfl, rfl⟩
          refine Wp.heq (h' := hM (mStep0 V)) (by unfold mStep0; rw [if_neg hnb]) ?_
          exact K90 c33
        · refine Wp.aload_n (pc2 := 45) dX5_go_44 rfl rfl ?_
          refine Wp.iconN (pc2 := 46) 1 dX5_go_45 rfl ?_
          refine Wp.callV (pc2 := 49) kX5_go_128 vX5_isReadOut (m_isReadOut V 1 hV (by omega)) dX5_go_46 rfl rfl rfl rfl rfl (Nat.le_of_ble_eq_true rfl) ?_
          rintro _ _ ⟨⟨b2, rfl, hb2⟩, rfl⟩
          refine Wp.ifN_eq (pc2 := 52) 82 dX5_go_49 rfl (by decide) (zb_lt _) (fun c49 => ?_) (fun c49 => ?_)
          · have hnb : ¬ (V 10 0 = V 1 0 ∧ V 10 1 = V 1 1) := fun z => zbn hb2 c49 z.2
            refine Wp.aload_n (pc2 := 83) dX5_go_82 rfl rfl ?_
            refine Wp.aload_n (pc2 := 84) dX5_go_83 rfl rfl ?_
            refine Wp.callV (pc2 := 87) kX5_go_161 vX5_choose (m_choose V hV (by have := h.1.2.2.2.2.2.2.2.2.2.1.2.1; omega)) dX5_go_84 rfl rfl rfl rfl rfl (Nat.le_of_ble_eq_true rfl) ?_
            rintro _ _ ⟨rfl, rfl⟩
            refine Wp.callV (pc2 := 90) kX5_go_164 vX5_reads (m_reads V (mChoose V) h.1 (choose_ok h.1 hnb).1 (choose_ok h.1 hnb).2) dX5_go_87 rfl rfl rfl rfl rfl (Nat.le_of_ble_eq_true rfl) ?_
            rintro _ _ ⟨rfl, rfl⟩
            refine Wp.heq (h' := hM (mStep0 V)) (by unfold mStep0; rw [if_neg hnb]) ?_
            exact K90 c33
          · refine Wp.aload_n (pc2 := 53) dX5_go_52 rfl rfl ?_
            refine Wp.callV (pc2 := 56) kX5_go_131 vX5_lacking (m_lacking V hV a0.2.2.2.2.1 a1.2.2.2.2.1) dX5_go_53 rfl rfl rfl rfl rfl (Nat.le_of_ble_eq_true rfl) ?_
            rintro _ _ ⟨rfl, hz⟩
            have hx := end_ex (h.2 c33) (zby hb1 c41) (zby hb2 c49)
            rcases hz with ⟨p, hp, rfl, hz, hz2⟩ | ⟨-, hz⟩
            rotate_left
            · obtain ⟨q, q1, q2⟩ := hx
              exact absurd q2 (hz q q1)
            have hlt := GI_lt h.1.2.2.2.2.2.2.1 hp hz.1
            refine Wp.istore_n (pc2 := 57) dX5_go_56 rfl (by decide) rfl ?_
            refine Wp.aload_n (pc2 := 58) dX5_go_57 rfl rfl ?_
            refine Wp.iload_n (pc2 := 59) dX5_go_58 rfl rfl ?_
            refine Wp.bipN (pc2 := 61) 50 dX5_go_59 rfl (by decide +kernel) ?_
            refine Wp.idivN (pc2 := 62) dX5_go_61 rfl (by omega) (by decide) (by decide) ?_
            refine Wp.iload_n (pc2 := 63) dX5_go_62 rfl rfl ?_
            refine Wp.bipN (pc2 := 65) 50 dX5_go_63 rfl (by decide +kernel) ?_
            refine Wp.iremN (pc2 := 66) dX5_go_65 rfl (by omega) (by decide) (by decide) ?_
            refine Wp.callV (pc2 := 69) kX5_go_148 vX5_gives (m_gives V (p / 50) (p % 50) (by omega) hlt) dX5_go_66 rfl rfl rfl rfl rfl (Nat.le_of_ble_eq_true rfl) ?_
            rintro _ _ ⟨rfl, rfl⟩
            refine Wp.aload_n (pc2 := 70) dX5_go_69 rfl rfl ?_
            refine Wp.dup (pc2 := 71) dX5_go_70 rfl rfl ?_
            refine Wp.getf (pc2 := 74) fX5_106 dX5_go_71 rfl rfl rfl ?_
            refine Wp.iconN (pc2 := 75) 2 dX5_go_74 rfl ?_
            refine Wp.iaddN (pc2 := 76) dX5_go_75 rfl  ?_
            change Wp _ _ _ _ (.int (nI (V 0 27 + 2)) :: _) _
            refine Wp.putf (pc2 := 79) gX5_106 dX5_go_76 rfl rfl (Nat.le_of_ble_eq_true rfl) rfl rfl ?_
            refine Wp.heq (hM_o0_27 _ _) ?_
            refine Wp.goto (pc2 := 90) dX5_go_79 (by decide) ?_
            refine Wp.heq (h' := hM (mStep0 V)) ?_ ?_
            · unfold mStep0
              rw [if_pos ⟨zby hb1 c41, zby hb2 c49⟩]
              unfold mLate
              rw [lackP_eq hp hz hz2]
            refine Wp.fg [.ref 0, .int (nI n), .int (nI d), .null] (And.intro (Or.inr rfl) (And.intro (Or.inr rfl) (And.intro (Or.inr rfl) (And.intro (Or.inl rfl) trivial)))) ?_
            exact K90 c33

set_option maxRecDepth 100000 in
set_option maxHeartbeats 4000000 in
theorem m_go_ok (V : zS) (n : Nat) (h : JE V) (hn : n < 201) (hs : V 0 10 = 1) : PM mX5_go [.ref 0, .int (nI n)] (hM V) (fun zr zq => zr = some (.int (nI (goC n V))) ∧ zq = hM (goF n V)) := by
  refine PM.of (by decide +kernel) (by simp [Value.category]) (Nat.le_of_ble_eq_true rfl) ?_
  refine Wp.aload_n (pc2 := 1) dX5_go_0 rfl rfl ?_
  refine Wp.getf (pc2 := 4) fX5_89 dX5_go_1 rfl rfl rfl ?_
  refine Wp.iconN (pc2 := 5) 1 dX5_go_4 rfl ?_
  refine Wp.icmpN_ne (pc2 := 8) 19 dX5_go_5 rfl (by decide) (h.1.1.l _ _) (by decide) (fun c5 => ?_) (fun c5 => ?_)
  · exfalso; omega
  · refine Wp.iload_n (pc2 := 9) dX5_go_8 rfl rfl ?_
    refine Wp.iconN (pc2 := 10) 0 dX5_go_9 rfl ?_
    refine Wp.sipN (pc2 := 13) 200 dX5_go_10 rfl (by decide +kernel) ?_
    refine Wp.callS (pc2 := 16) kX5_go_81 sX5_in (m_in_t _ _ _ _ ((rg_in (by decide)).mpr ⟨n, hn, rfl⟩)) dX5_go_13 rfl rfl rfl (Nat.le_of_ble_eq_true rfl) ?_
    rintro _ _ ⟨rfl, rfl⟩
    refine Wp.ifN_ne (pc2 := 19) 21 dX5_go_16 rfl (by decide) (by omega) (fun c16 => ?_) (fun c16 => ?_)
    · refine Wp.iconN (pc2 := 22) 0 dX5_go_21 rfl ?_
      refine Wp.istore_n (pc2 := 23) dX5_go_22 rfl (by decide) rfl ?_
      refine Wp.mono (m_go_l n (by omega) n 0 V h (by omega)) ?_
      rintro _ _ ⟨rfl, rfl⟩
      exact ⟨by rw [Nat.zero_add], rfl⟩
    · exfalso; omega

set_option maxRecDepth 100000 in
set_option maxHeartbeats 4000000 in
theorem m_go_no (V : zS) (x : Int32) (hV : BV V) (hno : ¬ (rg x 201 ∧ V 0 10 = 1)) : PM mX5_go [.ref 0, .int x] (hM V) (fun zr zq => zr = some (.int (-1)) ∧ zq = hM V) := by
  refine PM.of (by decide +kernel) (by simp [Value.category]) (Nat.le_of_ble_eq_true rfl) ?_
  refine Wp.aload_n (pc2 := 1) dX5_go_0 rfl rfl ?_
  refine Wp.getf (pc2 := 4) fX5_89 dX5_go_1 rfl rfl rfl ?_
  refine Wp.iconN (pc2 := 5) 1 dX5_go_4 rfl ?_
  refine Wp.icmpN_ne (pc2 := 8) 19 dX5_go_5 rfl (by decide) (hV.l _ _) (by decide) (fun c5 => ?_) (fun c5 => ?_)
  · refine Wp.icon (pc2 := 20) dX5_go_19 rfl (-1) (by decide +kernel) ?_
    refine Wp.ret dX5_go_20 rfl rfl ?_
    exact ⟨rfl, rfl⟩
  · refine Wp.iload_n (pc2 := 9) dX5_go_8 rfl rfl ?_
    refine Wp.iconN (pc2 := 10) 0 dX5_go_9 rfl ?_
    refine Wp.sipN (pc2 := 13) 200 dX5_go_10 rfl (by decide +kernel) ?_
    refine Wp.callS (pc2 := 16) kX5_go_81 sX5_in (m_in _ x _ _) dX5_go_13 rfl rfl rfl (Nat.le_of_ble_eq_true rfl) ?_
    rintro _ _ ⟨⟨b, rfl, hb⟩, rfl⟩
    refine Wp.ifN_ne (pc2 := 19) 21 dX5_go_16 rfl (by decide) (zb_lt _) (fun c16 => ?_) (fun c16 => ?_)
    · exact absurd ⟨(rg_in (by decide)).mp (zby hb c16), c5⟩ hno
    · refine Wp.icon (pc2 := 20) dX5_go_19 rfl (-1) (by decide +kernel) ?_
      refine Wp.ret dX5_go_20 rfl rfl ?_
      exact ⟨rfl, rfl⟩
end
section
def itr (f : zS → Nat → zS) : Nat → zS → zS
  | 0, V => V
  | n + 1, V => f (itr f n V) n
theorem itr_BV {f : zS → Nat → zS} {m : Nat} (hf : ∀ V k, k < m → BV V → BV (f V k)) : ∀ (n : Nat) (V : zS), n ≤ m → BV V → BV (itr f n V)
  | 0, _, _, h => h
  | n + 1, V, hn, h => hf _ n (by omega) (itr_BV hf n V (by omega) h)
theorem itr_1 (c : Nat) (g : Nat → Nat) (a b : Nat) : ∀ (n : Nat) (V : zS), itr (fun V k => vs V c k (g k)) n V a b = if a = c ∧ b < n then g b else V a b
  | 0, V => by rw [if_neg (by omega)]; rfl
  | n + 1, V => by
    show vs (itr _ n V) c n (g n) a b = _
    by_cases hc : a = c
    · subst hc
      rw [vs_at]
      by_cases hb : b = n
      · rw [if_pos hb, if_pos ⟨rfl, by omega⟩, hb]
      · rw [if_neg hb, itr_1 a g a b n V]
        by_cases hl : b < n
        · rw [if_pos ⟨rfl, hl⟩, if_pos ⟨rfl, by omega⟩]
        · rw [if_neg (fun z => hl z.2), if_neg (by omega)]
    · rw [vs_k _ hc, itr_1 c g a b n V, if_neg (fun z => hc z.1), if_neg (fun z => hc z.1)]
def askT (V : zS) (t : Nat) : zS := vs (vs (vs (vs (vs (vs V 9 t (V 3 t)) 10 t 0) 12 t 0) 15 t 0) 16 t 0) 17 t 0
def askK (V : zS) (k : Nat) : zS := vs (vs (vs V 11 k (k % 4)) 13 k 0) 14 k 0
def askP (V : zS) (k : Nat) : zS := vs V 18 k 0
def askG (V : zS) (k : Nat) : zS := vs V 20 k 0
def askA (V : zS) : zS := itr askG 2500 (itr askP 100 (itr askK 8 (itr askT 2 (vs V 0 11 1))))
def mAsk0 (V : zS) : zS := vs (vs (vs (vs (vs (vs (vs (vs (askA V) 0 23 0) 0 26 0) 0 27 0) 0 28 0) 0 29 0) 0 30 0) 0 31 0) 0 10 1
noncomputable def mAsk (V : zS) : zS := mEnds (mAsk0 V)
theorem askK_at (a b : Nat) : ∀ (n : Nat) (V : zS), itr askK n V a b = if b < n ∧ (a = 11 ∨ a = 13 ∨ a = 14) then (if a = 11 then b % 4 else 0) else V a b
  | 0, V => by rw [if_neg (by omega)]; rfl
  | n + 1, V => by
    show vs (vs (vs (itr askK n V) 11 n (n % 4)) 13 n 0) 14 n 0 a b = _
    have ih := askK_at a b n V
    by_cases h14 : a = 14
    · subst h14
      rw [vs_at]
      by_cases hb : b = n
      · rw [if_pos hb, if_pos ⟨by omega, by omega⟩, if_neg (by omega)]
      · rw [if_neg hb, vs_k _ (by decide), vs_k _ (by decide), ih]
        by_cases hl : b < n
        · simp [hl, Nat.lt_succ_of_lt hl]
        · rw [if_neg (by omega), if_neg (by omega)]
    · rw [vs_k _ h14]
      by_cases h13 : a = 13
      · subst h13
        rw [vs_at]
        by_cases hb : b = n
        · rw [if_pos hb, if_pos ⟨by omega, by omega⟩, if_neg (by omega)]
        · rw [if_neg hb, vs_k _ (by decide), ih]
          by_cases hl : b < n
          · simp [hl, Nat.lt_succ_of_lt hl]
          · rw [if_neg (by omega), if_neg (by omega)]
      · rw [vs_k _ h13]
        by_cases h11 : a = 11
        · subst h11
          rw [vs_at]
          by_cases hb : b = n
          · rw [if_pos hb, if_pos ⟨by omega, by omega⟩, if_pos rfl, hb]
          · rw [if_neg hb, ih]
            by_cases hl : b < n
            · simp [hl, Nat.lt_succ_of_lt hl]
            · rw [if_neg (by omega), if_neg (by omega)]
        · rw [vs_k _ h11, ih, if_neg (by omega), if_neg (by omega)]
/-- an ask's numbers, one by one -/
theorem askA_o {V : zS} {a b : Nat} (h : a ≠ 20 ∧ a ≠ 18 ∧ a ≠ 11 ∧ a ≠ 13 ∧ a ≠ 14) : askA V a b = itr askT 2 (vs V 0 11 1) a b := by
  unfold askA
  rw [show itr askG 2500 (itr askP 100 (itr askK 8 (itr askT 2 (vs V 0 11 1)))) a b = _ from itr_1 20 (fun _ => 0) a b 2500 _, if_neg (by omega), show itr askP 100 (itr askK 8 (itr askT 2 (vs V 0 11 1))) a b = _ from itr_1 18 (fun _ => 0) a b 100 _, if_neg (by omega), askK_at, if_neg (by omega)]
theorem askA_k {V : zS} {a b : Nat} (h : a = 11 ∨ a = 13 ∨ a = 14) (hb : b < 8) : askA V a b = if a = 11 then b % 4 else 0 := by
  unfold askA
  rw [show itr askG 2500 (itr askP 100 (itr askK 8 (itr askT 2 (vs V 0 11 1)))) a b = _ from itr_1 20 (fun _ => 0) a b 2500 _, if_neg (by omega), show itr askP 100 (itr askK 8 (itr askT 2 (vs V 0 11 1))) a b = _ from itr_1 18 (fun _ => 0) a b 100 _, if_neg (by omega), askK_at, if_pos ⟨hb, h⟩]
theorem askA_18 {V : zS} {b : Nat} (hb : b < 100) : askA V 18 b = 0 := by
  unfold askA
  rw [show itr askG 2500 (itr askP 100 (itr askK 8 (itr askT 2 (vs V 0 11 1)))) 18 b = _ from itr_1 20 (fun _ => 0) 18 b 2500 _, if_neg (by omega), show itr askP 100 (itr askK 8 (itr askT 2 (vs V 0 11 1))) 18 b = _ from itr_1 18 (fun _ => 0) 18 b 100 _, if_pos ⟨rfl, hb⟩]
theorem askA_20 {V : zS} {b : Nat} (hb : b < 2500) : askA V 20 b = 0 := by
  unfold askA
  rw [show itr askG 2500 (itr askP 100 (itr askK 8 (itr askT 2 (vs V 0 11 1)))) 20 b = _ from itr_1 20 (fun _ => 0) 20 b 2500 _, if_pos ⟨rfl, hb⟩]
theorem askT2_o {V : zS} {a b : Nat} (h : a ≠ 9 ∧ a ≠ 10 ∧ a ≠ 12 ∧ a ≠ 15 ∧ a ≠ 16 ∧ a ≠ 17 ∧ (a = 0 → b ≠ 11)) : itr askT 2 (vs V 0 11 1) a b = V a b := by
  show askT (askT (vs V 0 11 1) 0) 1 a b = V a b
  unfold askT
  simp only [vs]
  simp [h]
  intro h1 h2
  exact absurd h2 (h.2.2.2.2.2.2 h1)
theorem askT2_0 {V : zS} {a b : Nat} (h : a = 10 ∨ a = 12 ∨ a = 15 ∨ a = 16 ∨ a = 17) (hb : b < 2) : itr askT 2 (vs V 0 11 1) a b = 0 := by
  show askT (askT (vs V 0 11 1) 0) 1 a b = 0
  unfold askT
  rcases (show b = 0 ∨ b = 1 by omega) with rfl | rfl <;> rcases h with rfl | rfl | rfl | rfl | rfl <;> simp [vs]
theorem askT2_9 {V : zS} {b : Nat} (hb : b < 2) : itr askT 2 (vs V 0 11 1) 9 b = V 3 b := by
  show askT (askT (vs V 0 11 1) 0) 1 9 b = V 3 b
  unfold askT
  rcases (show b = 0 ∨ b = 1 by omega) with rfl | rfl <;> simp [vs]
theorem ask0_k {V : zS} {a b : Nat} (h : a ≠ 0) : mAsk0 V a b = askA V a b := by
  unfold mAsk0
  rw [vs_k _ h, vs_k _ h, vs_k _ h, vs_k _ h, vs_k _ h, vs_k _ h, vs_k _ h, vs_k _ h]
theorem ask0_0 {V : zS} {b : Nat} (h : b ≠ 10 ∧ b ≠ 11 ∧ b ≠ 23 ∧ b ≠ 26 ∧ b ≠ 27 ∧ b ≠ 28 ∧ b ≠ 29 ∧ b ≠ 30 ∧ b ≠ 31) : mAsk0 V 0 b = V 0 b := by
  unfold mAsk0
  rw [vs_i _ (by omega), vs_i _ (by omega), vs_i _ (by omega), vs_i _ (by omega), vs_i _ (by omega), vs_i _ (by omega), vs_i _ (by omega), vs_i _ (by omega), askA_o (by omega), askT2_o (by omega)]
theorem ask0_z {V : zS} {b : Nat} (h : b = 23 ∨ b = 26 ∨ b = 27 ∨ b = 28 ∨ b = 29 ∨ b = 30 ∨ b = 31) : mAsk0 V 0 b = 0 := by
  unfold mAsk0
  rcases h with rfl | rfl | rfl | rfl | rfl | rfl | rfl <;> simp [vs]
theorem ask0_10 (V : zS) : mAsk0 V 0 10 = 1 := by unfold mAsk0; rw [vs_same]
theorem ask0_11 (V : zS) : mAsk0 V 0 11 = 1 := by
  unfold mAsk0
  rw [vs_i _ (by decide), vs_i _ (by decide), vs_i _ (by decide), vs_i _ (by decide), vs_i _ (by decide), vs_i _ (by decide), vs_i _ (by decide), vs_i _ (by decide), askA_o (by decide)]
  show askT (askT (vs V 0 11 1) 0) 1 0 11 = 1
  unfold askT
  simp [vs]
theorem JV_ask0 {V : zS} (h : JV V) : JV (mAsk0 V) := by
  obtain ⟨hV, jt, j8, jk, jo, hq, hg, jp, jgp, js, jc⟩ := h
  have s : ∀ a b, a ≠ 0 → a ≠ 20 → a ≠ 18 → a ≠ 11 → a ≠ 13 → a ≠ 14 → a ≠ 9 → a ≠ 10 → a ≠ 12 → a ≠ 15 → a ≠ 16 → a ≠ 17 → mAsk0 V a b = V a b := by
    intro a b h1 h2 h3 h4 h5 h6 h7 h8 h9 h10 h11 h12
    rw [ask0_k h1, askA_o (by omega), askT2_o (by omega)]
  have z : ∀ a b, (a = 10 ∨ a = 12 ∨ a = 15 ∨ a = 16 ∨ a = 17) → b < 2 → mAsk0 V a b = 0 := by
    intro a b h1 h2
    rw [ask0_k (by omega), askA_o (by omega), askT2_0 h1 h2]
  have z9 : ∀ b, b < 2 → mAsk0 V 9 b = V 3 b := by
    intro b hb
    rw [ask0_k (by omega), askA_o (by omega), askT2_9 hb]
  have z11 : ∀ b, b < 8 → mAsk0 V 11 b = b % 4 := by
    intro b hb
    rw [ask0_k (by omega), askA_k (by omega) hb, if_pos rfl]
  have z13 : ∀ b, b < 8 → mAsk0 V 13 b = 0 := by
    intro b hb
    rw [ask0_k (by omega), askA_k (by omega) hb, if_neg (by omega)]
  have z14 : ∀ b, b < 8 → mAsk0 V 14 b = 0 := by
    intro b hb
    rw [ask0_k (by omega), askA_k (by omega) hb, if_neg (by omega)]
  have z18 : ∀ b, b < 100 → mAsk0 V 18 b = 0 := by
    intro b hb
    rw [ask0_k (by omega), askA_18 hb]
  have z20 : ∀ b, b < 2500 → mAsk0 V 20 b = 0 := by
    intro b hb
    rw [ask0_k (by omega), askA_20 hb]
  have hA : BV (askA V) := by
    unfold askA
    refine itr_BV (m := 2500) (fun W k _ hW => hW.up (by decide)) 2500 _ (Nat.le_refl _) ?_
    refine itr_BV (m := 100) (fun W k _ hW => hW.up (by decide)) 100 _ (Nat.le_refl _) ?_
    refine itr_BV (m := 8) (fun W k hk hW => ((hW.up (by omega)).up (by decide)).up (by decide)) 8 _ (Nat.le_refl _) ?_
    refine itr_BV (m := 2) (fun W k hk hW => (((((hW.up (hW _ _)).up (by decide)).up (by decide)).up (by decide)).up (by decide)).up (by decide)) 2 _ (Nat.le_refl _) ?_
    exact hV.up (by decide)
  refine ⟨?_, fun t ht => ?_, fun j hj => ?_, fun t k ht hk => ?_, fun t ht => ?_, ?_, ?_, fun t r ht hr => ?_, fun p hp => ?_, ?_, fun j hj => ?_⟩
  · exact (((((((hA.up (by decide)).up (by decide)).up (by decide)).up (by decide)).up (by decide)).up (by decide)).up (by decide)).up (by decide)
  · rw [s 1 t (by decide) (by decide) (by decide) (by decide) (by decide) (by decide) (by decide) (by decide) (by decide) (by decide) (by decide) (by decide), s 3 t (by decide) (by decide) (by decide) (by decide) (by decide) (by decide) (by decide) (by decide) (by decide) (by decide) (by decide) (by decide), s 8 t (by decide) (by decide) (by decide) (by decide) (by decide) (by decide) (by decide) (by decide) (by decide) (by decide) (by decide) (by decide), z9 t ht, z 10 t (by omega) ht, z 12 t (by omega) ht, z 15 t (by omega) ht, z 16 t (by omega) ht, z 17 t (by omega) ht]
    have := jt t ht
    omega
  · rw [s 4 j (by decide) (by decide) (by decide) (by decide) (by decide) (by decide) (by decide) (by decide) (by decide) (by decide) (by decide) (by decide), s 7 j (by decide) (by decide) (by decide) (by decide) (by decide) (by decide) (by decide) (by decide) (by decide) (by decide) (by decide) (by decide), z11 j hj]
    have := j8 j hj
    omega
  · rw [z13 _ (by omega), z14 _ (by omega)]; omega
  · rw [z9 t ht]
    have h4 := jt t ht
    refine ⟨fun j hj => ?_, fun i j hi hj e => ?_, fun x hx => ⟨x, hx, ?_⟩⟩
    · rw [z11 _ (by omega)]; omega
    · rw [z11 _ (by omega), z11 _ (by omega)] at e; omega
    · rw [z11 _ (by omega)]; omega
  · refine ⟨by rw [ask0_z (by omega), ask0_z (by omega)]; exact Nat.le_refl _, by rw [ask0_z (by omega)]; decide, fun i hi => ?_, fun e he hp => ?_⟩
    · rw [ask0_z (by omega)] at hi; omega
    · rw [z18 e he] at hp; omega
  · refine ⟨fun i hi => ?_, fun i j hi => ?_, fun p hp hne => ?_⟩
    · rw [ask0_z (by omega)] at hi; omega
    · rw [ask0_z (by omega)] at hi; omega
    · exact absurd (z20 p hp) hne
  · rw [z18 _ (by omega), z 10 t (by omega) ht]; omega
  · rw [z20 p hp]
    exact ⟨by omega, fun w => absurd rfl w⟩
  · unfold J_s
    rw [ask0_0 (b := 8) (by omega), ask0_0 (b := 9) (by omega), ask0_10, ask0_z (b := 29) (by omega), ask0_z (b := 23) (by omega), z 10 0 (by omega) (by omega), z 10 1 (by omega) (by omega), z 17 0 (by omega) (by omega), z 17 1 (by omega) (by omega), ask0_z (b := 26) (by omega), ask0_z (b := 27) (by omega), z 16 0 (by omega) (by omega), z 16 1 (by omega) (by omega), ask0_z (b := 30) (by omega), ask0_z (b := 31) (by omega), ask0_11]
    refine ⟨js.1, js.2.1, by omega, by omega, by omega, by omega, by omega, by omega, by omega, by omega⟩
  · rw [s 2 j (by decide) (by decide) (by decide) (by decide) (by decide) (by decide) (by decide) (by decide) (by decide) (by decide) (by decide) (by decide)]
    exact jc j hj

set_option maxRecDepth 100000 in
set_option maxHeartbeats 4000000 in
theorem m_ask_t (V : zS) (Q : Option Value → zh → Prop) (K : Wp mX5_ask Q 75 [.ref 0, .null] [] (hM (itr askT 2 V))) : ∀ (n k : Nat), k + n = 2 → Wp mX5_ask Q 17 [.ref 0, .int (nI k)] [] (hM (itr askT k V)) := by
  intro n
  induction n with
  | zero =>
    intro k hk
    have e : k = 2 := by omega
    subst e
    refine Wp.iload_n (pc2 := 18) dX5_ask_17 rfl rfl ?_
    refine Wp.iconN (pc2 := 19) 2 dX5_ask_18 rfl ?_
    refine Wp.icmpN_ge (pc2 := 22) 75 dX5_ask_19 rfl (by decide) (by omega) (by omega) (fun c19 => ?_) (fun c19 => ?_)
    · refine Wp.fg [.ref 0, .null] (And.intro (Or.inr rfl) (And.intro (Or.inl rfl) trivial)) ?_
      exact K
    · exfalso; omega
  | succ n ih =>
    intro k hk
    refine Wp.iload_n (pc2 := 18) dX5_ask_17 rfl rfl ?_
    refine Wp.iconN (pc2 := 19) 2 dX5_ask_18 rfl ?_
    refine Wp.icmpN_ge (pc2 := 22) 75 dX5_ask_19 rfl (by decide) (by omega) (by omega) (fun c19 => ?_) (fun c19 => ?_)
    · exfalso; omega
    · refine Wp.aload_n (pc2 := 23) dX5_ask_22 rfl rfl ?_
      refine Wp.getf (pc2 := 26) fX5_41 dX5_ask_23 rfl rfl rfl ?_
      refine Wp.iload_n (pc2 := 27) dX5_ask_26 rfl rfl ?_
      refine Wp.aload_n (pc2 := 28) dX5_ask_27 rfl rfl ?_
      refine Wp.getf (pc2 := 31) fX5_16 dX5_ask_28 rfl rfl rfl ?_
      refine Wp.iload_n (pc2 := 32) dX5_ask_31 rfl rfl ?_
      refine Wp.ialdN (pc2 := 33) dX5_ask_32 rfl rfl (by omega) (by decide) ?_
      change Wp _ _ _ _ (.int (nI (itr askT k V 3 k)) :: _) _
      refine Wp.iastN (pc2 := 34) dX5_ask_33 rfl rfl (by omega) (by decide) ?_
      refine Wp.heq (hM_a9 _ _ _) ?_
      refine Wp.aload_n (pc2 := 35) dX5_ask_34 rfl rfl ?_
      refine Wp.getf (pc2 := 38) fX5_44 dX5_ask_35 rfl rfl rfl ?_
      refine Wp.iload_n (pc2 := 39) dX5_ask_38 rfl rfl ?_
      refine Wp.iconN (pc2 := 40) 0 dX5_ask_39 rfl ?_
      refine Wp.iastN (pc2 := 41) dX5_ask_40 rfl rfl (by omega) (by decide) ?_
      refine Wp.heq (hM_a10 _ _ _) ?_
      refine Wp.aload_n (pc2 := 42) dX5_ask_41 rfl rfl ?_
      refine Wp.getf (pc2 := 45) fX5_50 dX5_ask_42 rfl rfl rfl ?_
      refine Wp.iload_n (pc2 := 46) dX5_ask_45 rfl rfl ?_
      refine Wp.iconN (pc2 := 47) 0 dX5_ask_46 rfl ?_
      refine Wp.zastN (pc2 := 48) dX5_ask_47 rfl rfl (by omega) (by decide) (by decide +kernel) ?_
      refine Wp.heq (hM_a12 _ _ _) ?_
      refine Wp.aload_n (pc2 := 49) dX5_ask_48 rfl rfl ?_
      refine Wp.getf (pc2 := 52) fX5_60 dX5_ask_49 rfl rfl rfl ?_
      refine Wp.iload_n (pc2 := 53) dX5_ask_52 rfl rfl ?_
      refine Wp.iconN (pc2 := 54) 0 dX5_ask_53 rfl ?_
      refine Wp.iastN (pc2 := 55) dX5_ask_54 rfl rfl (by omega) (by decide) ?_
      refine Wp.heq (hM_a15 _ _ _) ?_
      refine Wp.aload_n (pc2 := 56) dX5_ask_55 rfl rfl ?_
      refine Wp.getf (pc2 := 59) fX5_63 dX5_ask_56 rfl rfl rfl ?_
      refine Wp.iload_n (pc2 := 60) dX5_ask_59 rfl rfl ?_
      refine Wp.iconN (pc2 := 61) 0 dX5_ask_60 rfl ?_
      refine Wp.iastN (pc2 := 62) dX5_ask_61 rfl rfl (by omega) (by decide) ?_
      refine Wp.heq (hM_a16 _ _ _) ?_
      refine Wp.aload_n (pc2 := 63) dX5_ask_62 rfl rfl ?_
      refine Wp.getf (pc2 := 66) fX5_66 dX5_ask_63 rfl rfl rfl ?_
      refine Wp.iload_n (pc2 := 67) dX5_ask_66 rfl rfl ?_
      refine Wp.iconN (pc2 := 68) 0 dX5_ask_67 rfl ?_
      refine Wp.iastN (pc2 := 69) dX5_ask_68 rfl rfl (by omega) (by decide) ?_
      refine Wp.heq (hM_a17 _ _ _) ?_
      refine Wp.iincN (pc2 := 72) dX5_ask_69 rfl rfl (by decide) rfl ?_
      refine Wp.goto (pc2 := 17) dX5_ask_72 (by decide) ?_
      exact ih (k + 1) (by omega)

set_option maxRecDepth 100000 in
set_option maxHeartbeats 4000000 in
theorem m_ask_k (V : zS) (Q : Option Value → zh → Prop) (K : Wp mX5_ask Q 112 [.ref 0, .null] [] (hM (itr askK 8 V))) : ∀ (n k : Nat), k + n = 8 → Wp mX5_ask Q 77 [.ref 0, .int (nI k)] [] (hM (itr askK k V)) := by
  intro n
  induction n with
  | zero =>
    intro k hk
    have e : k = 8 := by omega
    subst e
    refine Wp.iload_n (pc2 := 78) dX5_ask_77 rfl rfl ?_
    refine Wp.bipN (pc2 := 80) 8 dX5_ask_78 rfl (by decide +kernel) ?_
    refine Wp.icmpN_ge (pc2 := 83) 112 dX5_ask_80 rfl (by decide) (by omega) (by omega) (fun c80 => ?_) (fun c80 => ?_)
    · refine Wp.fg [.ref 0, .null] (And.intro (Or.inr rfl) (And.intro (Or.inl rfl) trivial)) ?_
      exact K
    · exfalso; omega
  | succ n ih =>
    intro k hk
    refine Wp.iload_n (pc2 := 78) dX5_ask_77 rfl rfl ?_
    refine Wp.bipN (pc2 := 80) 8 dX5_ask_78 rfl (by decide +kernel) ?_
    refine Wp.icmpN_ge (pc2 := 83) 112 dX5_ask_80 rfl (by decide) (by omega) (by omega) (fun c80 => ?_) (fun c80 => ?_)
    · exfalso; omega
    · refine Wp.aload_n (pc2 := 84) dX5_ask_83 rfl rfl ?_
      refine Wp.getf (pc2 := 87) fX5_47 dX5_ask_84 rfl rfl rfl ?_
      refine Wp.iload_n (pc2 := 88) dX5_ask_87 rfl rfl ?_
      refine Wp.iload_n (pc2 := 89) dX5_ask_88 rfl rfl ?_
      refine Wp.iconN (pc2 := 90) 4 dX5_ask_89 rfl ?_
      refine Wp.iremN (pc2 := 91) dX5_ask_90 rfl (by omega) (by decide) (by decide) ?_
      refine Wp.iastN (pc2 := 92) dX5_ask_91 rfl rfl (by omega) (by decide) ?_
      refine Wp.heq (hM_a11 _ _ _) ?_
      refine Wp.aload_n (pc2 := 93) dX5_ask_92 rfl rfl ?_
      refine Wp.getf (pc2 := 96) fX5_54 dX5_ask_93 rfl rfl rfl ?_
      refine Wp.iload_n (pc2 := 97) dX5_ask_96 rfl rfl ?_
      refine Wp.iconN (pc2 := 98) 0 dX5_ask_97 rfl ?_
      refine Wp.iastN (pc2 := 99) dX5_ask_98 rfl rfl (by omega) (by decide) ?_
      refine Wp.heq (hM_a13 _ _ _) ?_
      refine Wp.aload_n (pc2 := 100) dX5_ask_99 rfl rfl ?_
      refine Wp.getf (pc2 := 103) fX5_57 dX5_ask_100 rfl rfl rfl ?_
      refine Wp.iload_n (pc2 := 104) dX5_ask_103 rfl rfl ?_
      refine Wp.iconN (pc2 := 105) 0 dX5_ask_104 rfl ?_
      refine Wp.iastN (pc2 := 106) dX5_ask_105 rfl rfl (by omega) (by decide) ?_
      refine Wp.heq (hM_a14 _ _ _) ?_
      refine Wp.iincN (pc2 := 109) dX5_ask_106 rfl rfl (by decide) rfl ?_
      refine Wp.goto (pc2 := 77) dX5_ask_109 (by decide) ?_
      exact ih (k + 1) (by omega)

set_option maxRecDepth 100000 in
set_option maxHeartbeats 4000000 in
theorem m_ask_p (V : zS) (Q : Option Value → zh → Prop) (K : Wp mX5_ask Q 133 [.ref 0, .null] [] (hM (itr askP 100 V))) : ∀ (n k : Nat), k + n = 100 → Wp mX5_ask Q 114 [.ref 0, .int (nI k)] [] (hM (itr askP k V)) := by
  intro n
  induction n with
  | zero =>
    intro k hk
    have e : k = 100 := by omega
    subst e
    refine Wp.iload_n (pc2 := 115) dX5_ask_114 rfl rfl ?_
    refine Wp.bipN (pc2 := 117) 100 dX5_ask_115 rfl (by decide +kernel) ?_
    refine Wp.icmpN_ge (pc2 := 120) 133 dX5_ask_117 rfl (by decide) (by omega) (by omega) (fun c117 => ?_) (fun c117 => ?_)
    · refine Wp.fg [.ref 0, .null] (And.intro (Or.inr rfl) (And.intro (Or.inl rfl) trivial)) ?_
      exact K
    · exfalso; omega
  | succ n ih =>
    intro k hk
    refine Wp.iload_n (pc2 := 115) dX5_ask_114 rfl rfl ?_
    refine Wp.bipN (pc2 := 117) 100 dX5_ask_115 rfl (by decide +kernel) ?_
    refine Wp.icmpN_ge (pc2 := 120) 133 dX5_ask_117 rfl (by decide) (by omega) (by omega) (fun c117 => ?_) (fun c117 => ?_)
    · exfalso; omega
    · refine Wp.aload_n (pc2 := 121) dX5_ask_120 rfl rfl ?_
      refine Wp.getf (pc2 := 124) fX5_69 dX5_ask_121 rfl rfl rfl ?_
      refine Wp.iload_n (pc2 := 125) dX5_ask_124 rfl rfl ?_
      refine Wp.iconN (pc2 := 126) 0 dX5_ask_125 rfl ?_
      refine Wp.iastN (pc2 := 127) dX5_ask_126 rfl rfl (by omega) (by decide) ?_
      refine Wp.heq (hM_a18 _ _ _) ?_
      refine Wp.iincN (pc2 := 130) dX5_ask_127 rfl rfl (by decide) rfl ?_
      refine Wp.goto (pc2 := 114) dX5_ask_130 (by decide) ?_
      exact ih (k + 1) (by omega)

set_option maxRecDepth 100000 in
set_option maxHeartbeats 4000000 in
theorem m_ask_g (V : zS) (Q : Option Value → zh → Prop) (K : Wp mX5_ask Q 155 [.ref 0, .null] [] (hM (itr askG 2500 V))) : ∀ (n k : Nat), k + n = 2500 → Wp mX5_ask Q 135 [.ref 0, .int (nI k)] [] (hM (itr askG k V)) := by
  intro n
  induction n with
  | zero =>
    intro k hk
    have e : k = 2500 := by omega
    subst e
    refine Wp.iload_n (pc2 := 136) dX5_ask_135 rfl rfl ?_
    refine Wp.sipN (pc2 := 139) 2500 dX5_ask_136 rfl (by decide +kernel) ?_
    refine Wp.icmpN_ge (pc2 := 142) 155 dX5_ask_139 rfl (by decide) (by omega) (by omega) (fun c139 => ?_) (fun c139 => ?_)
    · refine Wp.fg [.ref 0, .null] (And.intro (Or.inr rfl) (And.intro (Or.inl rfl) trivial)) ?_
      exact K
    · exfalso; omega
  | succ n ih =>
    intro k hk
    refine Wp.iload_n (pc2 := 136) dX5_ask_135 rfl rfl ?_
    refine Wp.sipN (pc2 := 139) 2500 dX5_ask_136 rfl (by decide +kernel) ?_
    refine Wp.icmpN_ge (pc2 := 142) 155 dX5_ask_139 rfl (by decide) (by omega) (by omega) (fun c139 => ?_) (fun c139 => ?_)
    · exfalso; omega
    · refine Wp.aload_n (pc2 := 143) dX5_ask_142 rfl rfl ?_
      refine Wp.getf (pc2 := 146) fX5_75 dX5_ask_143 rfl rfl rfl ?_
      refine Wp.iload_n (pc2 := 147) dX5_ask_146 rfl rfl ?_
      refine Wp.iconN (pc2 := 148) 0 dX5_ask_147 rfl ?_
      refine Wp.zastN (pc2 := 149) dX5_ask_148 rfl rfl (by omega) (by decide) (by decide +kernel) ?_
      refine Wp.heq (hM_a20 _ _ _) ?_
      refine Wp.iincN (pc2 := 152) dX5_ask_149 rfl rfl (by decide) rfl ?_
      refine Wp.goto (pc2 := 135) dX5_ask_152 (by decide) ?_
      exact ih (k + 1) (by omega)

set_option maxRecDepth 100000 in
set_option maxHeartbeats 4000000 in
theorem m_ask_ok (V : zS) (h : JV V) (hs : V 0 10 ≠ 1) : PM mX5_ask [.ref 0] (hM V) (fun zr zq => zr = some (.int (nI 1)) ∧ zq = hM (mAsk V)) := by
  refine PM.of (by decide +kernel) (by simp [Value.category]) (Nat.le_of_ble_eq_true rfl) ?_
  refine Wp.aload_n (pc2 := 1) dX5_ask_0 rfl rfl ?_
  refine Wp.getf (pc2 := 4) fX5_89 dX5_ask_1 rfl rfl rfl ?_
  refine Wp.iconN (pc2 := 5) 1 dX5_ask_4 rfl ?_
  refine Wp.icmpN_ne (pc2 := 8) 10 dX5_ask_5 rfl (by decide) (h.1.l _ _) (by decide) (fun c5 => ?_) (fun c5 => ?_)
  · refine Wp.aload_n (pc2 := 11) dX5_ask_10 rfl rfl ?_
    refine Wp.iconN (pc2 := 12) 1 dX5_ask_11 rfl ?_
    refine Wp.putf (pc2 := 15) gX5_96 dX5_ask_12 rfl rfl (Nat.le_of_ble_eq_true rfl) (zb_nar true) (zb_fits true) ?_
    refine Wp.heq (hM_o0_11 _ _) ?_
    refine Wp.iconN (pc2 := 16) 0 dX5_ask_15 rfl ?_
    refine Wp.istore_n (pc2 := 17) dX5_ask_16 rfl (by decide) rfl ?_
    refine m_ask_t (vs V 0 11 1) _ ?_ 2 0 (by omega)
    refine Wp.iconN (pc2 := 76) 0 dX5_ask_75 rfl ?_
    refine Wp.istore_n (pc2 := 77) dX5_ask_76 rfl (by decide) rfl ?_
    refine m_ask_k (itr askT 2 (vs V 0 11 1)) _ ?_ 8 0 (by omega)
    refine Wp.iconN (pc2 := 113) 0 dX5_ask_112 rfl ?_
    refine Wp.istore_n (pc2 := 114) dX5_ask_113 rfl (by decide) rfl ?_
    refine m_ask_p (itr askK 8 (itr askT 2 (vs V 0 11 1))) _ ?_ 100 0 (by omega)
    refine Wp.iconN (pc2 := 134) 0 dX5_ask_133 rfl ?_
    refine Wp.istore_n (pc2 := 135) dX5_ask_134 rfl (by decide) rfl ?_
    refine m_ask_g (itr askP 100 (itr askK 8 (itr askT 2 (vs V 0 11 1)))) _ ?_ 2500 0 (by omega)
    have h0 := JV_ask0 h
    change Wp _ _ _ _ _ (hM (askA V))
    refine Wp.aload_n (pc2 := 156) dX5_ask_155 rfl rfl ?_
    refine Wp.iconN (pc2 := 157) 0 dX5_ask_156 rfl ?_
    refine Wp.putf (pc2 := 160) gX5_100 dX5_ask_157 rfl rfl (Nat.le_of_ble_eq_true rfl) rfl rfl ?_
    refine Wp.heq (hM_o0_23 _ _) ?_
    refine Wp.aload_n (pc2 := 161) dX5_ask_160 rfl rfl ?_
    refine Wp.iconN (pc2 := 162) 0 dX5_ask_161 rfl ?_
    refine Wp.putf (pc2 := 165) gX5_103 dX5_ask_162 rfl rfl (Nat.le_of_ble_eq_true rfl) rfl rfl ?_
    refine Wp.heq (hM_o0_26 _ _) ?_
    refine Wp.aload_n (pc2 := 166) dX5_ask_165 rfl rfl ?_
    refine Wp.iconN (pc2 := 167) 0 dX5_ask_166 rfl ?_
    refine Wp.putf (pc2 := 170) gX5_106 dX5_ask_167 rfl rfl (Nat.le_of_ble_eq_true rfl) rfl rfl ?_
    refine Wp.heq (hM_o0_27 _ _) ?_
    refine Wp.aload_n (pc2 := 171) dX5_ask_170 rfl rfl ?_
    refine Wp.iconN (pc2 := 172) 0 dX5_ask_171 rfl ?_
    refine Wp.putf (pc2 := 175) gX5_109 dX5_ask_172 rfl rfl (Nat.le_of_ble_eq_true rfl) rfl rfl ?_
    refine Wp.heq (hM_o0_28 _ _) ?_
    refine Wp.aload_n (pc2 := 176) dX5_ask_175 rfl rfl ?_
    refine Wp.icon (pc2 := 177) dX5_ask_176 rfl (-1) (by decide +kernel) ?_
    refine Wp.top (zo 0) (by decide +kernel) ?_
    refine Wp.putf (pc2 := 180) gX5_112 dX5_ask_177 rfl rfl (Nat.le_of_ble_eq_true rfl) rfl rfl ?_
    refine Wp.heq (hM_o0_29 _ _) ?_
    refine Wp.aload_n (pc2 := 181) dX5_ask_180 rfl rfl ?_
    refine Wp.iconN (pc2 := 182) 0 dX5_ask_181 rfl ?_
    refine Wp.putf (pc2 := 185) gX5_115 dX5_ask_182 rfl rfl (Nat.le_of_ble_eq_true rfl) rfl rfl ?_
    refine Wp.heq (hM_o0_30 _ _) ?_
    refine Wp.aload_n (pc2 := 186) dX5_ask_185 rfl rfl ?_
    refine Wp.iconN (pc2 := 187) 0 dX5_ask_186 rfl ?_
    refine Wp.putf (pc2 := 190) gX5_118 dX5_ask_187 rfl rfl (Nat.le_of_ble_eq_true rfl) rfl rfl ?_
    refine Wp.heq (hM_o0_31 _ _) ?_
    refine Wp.aload_n (pc2 := 191) dX5_ask_190 rfl rfl ?_
    refine Wp.iconN (pc2 := 192) 1 dX5_ask_191 rfl ?_
    refine Wp.putf (pc2 := 195) gX5_89 dX5_ask_192 rfl rfl (Nat.le_of_ble_eq_true rfl) rfl rfl ?_
    refine Wp.heq (hM_o0_10 _ _) ?_
    refine Wp.aload_n (pc2 := 196) dX5_ask_195 rfl rfl ?_
    refine Wp.callV (pc2 := 199) kX5_ask_121 vX5_ends (m_ends (mAsk0 V) h0.1 (h0.2.1 0 (by decide)).2.2.2.2.1 (h0.2.1 1 (by decide)).2.2.2.2.1) dX5_ask_196 rfl rfl rfl rfl rfl (Nat.le_of_ble_eq_true rfl) ?_
    rintro _ _ ⟨rfl, rfl⟩
    refine Wp.iconN (pc2 := 200) 1 dX5_ask_199 rfl ?_
    refine Wp.ret dX5_ask_200 rfl (zb_nar true) ?_
    exact ⟨rfl, rfl⟩
  · exfalso; omega

set_option maxRecDepth 100000 in
set_option maxHeartbeats 4000000 in
theorem m_ask_no (V : zS) (hV : BV V) (hs : V 0 10 = 1) : PM mX5_ask [.ref 0] (hM V) (fun zr zq => zr = some (.int (nI 0)) ∧ zq = hM V) := by
  refine PM.of (by decide +kernel) (by simp [Value.category]) (Nat.le_of_ble_eq_true rfl) ?_
  refine Wp.aload_n (pc2 := 1) dX5_ask_0 rfl rfl ?_
  refine Wp.getf (pc2 := 4) fX5_89 dX5_ask_1 rfl rfl rfl ?_
  refine Wp.iconN (pc2 := 5) 1 dX5_ask_4 rfl ?_
  refine Wp.icmpN_ne (pc2 := 8) 10 dX5_ask_5 rfl (by decide) (hV.l _ _) (by decide) (fun c5 => ?_) (fun c5 => ?_)
  · exfalso; omega
  · refine Wp.iconN (pc2 := 9) 0 dX5_ask_8 rfl ?_
    refine Wp.ret dX5_ask_9 rfl (zb_nar false) ?_
    exact ⟨rfl, rfl⟩
end
section
/-- the k-th digit -/
def dg (d k : Nat) : Nat := d / 10 ^ k % 10
def msk (d : Nat) : Nat → Nat
  | 0 => 0
  | k + 1 => msk d k ||| 2 ^ dg d k
/-- digits that are all tests, each once -/
def dOK (n d : Nat) : Prop := (∀ k, k < n → dg d k < n) ∧ (∀ x, x < n → ∃ k, k < n ∧ dg d k = x) ∧ d / 10 ^ n = 0
theorem shl1 {x : Nat} (h : x < 5) : nI 1 <<< (nI x &&& 31) = nI (2 ^ x) := by
  have : ∀ x, x < 5 → nI 1 <<< (nI x &&& 31) = nI (2 ^ x) := by decide +kernel
  exact this x h
theorem or16 {m x : Nat} (hm : m < 16) (hx : x < 4) : nI m ||| nI (2 ^ x) = nI (m ||| 2 ^ x) := by
  have : ∀ m, m < 16 → ∀ x, x < 4 → nI m ||| nI (2 ^ x) = nI (m ||| 2 ^ x) := by decide +kernel
  exact this m hm x hx
theorem msk_lt {d : Nat} : ∀ (k : Nat), (∀ j, j < k → dg d j < 4) → msk d k < 16
  | 0, _ => by show 0 < 16; decide
  | k + 1, h => by
    have h1 := msk_lt (d := d) k (fun j hj => h j (by omega))
    have h2 := h k (by omega)
    have h3 : 2 ^ dg d k < 2 ^ 4 := Nat.pow_lt_pow_right (by decide) h2
    exact Nat.or_lt_two_pow (n := 4) h1 h3
theorem msk_bit {d x : Nat} : ∀ (k : Nat), (msk d k).testBit x = true ↔ ∃ j, j < k ∧ dg d j = x
  | 0 => by
    constructor
    · intro h; simp [msk] at h
    · rintro ⟨j, hj, -⟩; omega
  | k + 1 => by
    have ih := msk_bit (d := d) (x := x) k
    show (msk d k ||| 2 ^ dg d k).testBit x = true ↔ _
    rw [Nat.testBit_or, Bool.or_eq_true, ih, Nat.testBit_two_pow, decide_eq_true_iff]
    constructor
    · rintro (⟨j, hj, e⟩ | e)
      · exact ⟨j, by omega, e⟩
      · exact ⟨k, by omega, e⟩
    · rintro ⟨j, hj, e⟩
      rcases Nat.lt_or_ge j k with z | z
      · exact Or.inl ⟨j, z, e⟩
      · have : j = k := by omega
        subst this; exact Or.inr e
theorem msk_full {d n : Nat} (h : ∀ k, k < n → dg d k < n) : msk d n = 2 ^ n - 1 ↔ ∀ x, x < n → ∃ k, k < n ∧ dg d k = x := by
  constructor
  · intro e x hx
    apply (msk_bit n).mp
    rw [e, Nat.testBit_two_pow_sub_one, decide_eq_true_iff]; exact hx
  · intro hs
    apply Nat.eq_of_testBit_eq
    intro x
    rw [Nat.testBit_two_pow_sub_one]
    by_cases hx : x < n
    · rw [(msk_bit n).mpr (hs x hx), decide_eq_true hx]
    · rw [decide_eq_false hx]
      cases hb : (msk d n).testBit x with
      | false => rfl
      | true =>
        obtain ⟨j, hj, e⟩ := (msk_bit n).mp hb
        have := h j hj; omega
theorem dg_s (d k : Nat) : d / 10 ^ k / 10 = d / 10 ^ (k + 1) := by
  rw [Nat.div_div_eq_div_mul, Nat.pow_succ]
theorem div_le' (d k : Nat) : d / 10 ^ k ≤ d := Nat.div_le_self _ _
def ordD (V : zS) (t d n : Nat) : Nat → Nat := fun j => if j < n then dg d j else V 11 (4 * t + j)
def mOrder (V : zS) (t d : Nat) : zS := vs (ordV V t (ordD V t d (V 9 t))) 12 t 1
theorem p2lt {n : Nat} (h : n ≤ 4) : 2 ^ n - 1 < 2 ^ 31 ∧ 1 ≤ 2 ^ n := by
  have : ∀ n, n < 5 → 2 ^ n - 1 < 2 ^ 31 ∧ 1 ≤ 2 ^ n := by decide
  exact this n (by omega)

set_option maxRecDepth 100000 in
set_option maxHeartbeats 4000000 in
theorem m_order_1 (V : zS) (t d : Nat) (Q : Option Value → zh → Prop) (hV : BV V) (ht : t < 2) (hn : V 9 t ≤ 4) (hd : d < 2 ^ 31)
    (K0 : (¬ ∀ k, k < V 9 t → dg d k < V 9 t) → Q (some (.int (nI 0))) (hM V))
    (K : (∀ k, k < V 9 t → dg d k < V 9 t) → Wp mX5_order Q 92 [.ref 0, .int (nI t), .int (nI d), .int (nI (d / 10 ^ V 9 t)), .int (nI (msk d (V 9 t))), .null] [] (hM V)) :
    ∀ (n k : Nat), k + n = V 9 t → (∀ j, j < k → dg d j < V 9 t) → Wp mX5_order Q 44 [.ref 0, .int (nI t), .int (nI d), .int (nI (d / 10 ^ k)), .int (nI (msk d k)), .int (nI k)] [] (hM V) := by
  intro n
  induction n with
  | zero =>
    intro k hk h
    have e : k = V 9 t := by omega
    subst e
    refine Wp.iload (pc2 := 46) dX5_order_44 rfl rfl ?_
    refine Wp.aload_n (pc2 := 47) dX5_order_46 rfl rfl ?_
    refine Wp.getf (pc2 := 50) fX5_41 dX5_order_47 rfl rfl rfl ?_
    refine Wp.iload_n (pc2 := 51) dX5_order_50 rfl rfl ?_
    refine Wp.ialdN (pc2 := 52) dX5_order_51 rfl rfl (by omega) (by decide) ?_
    refine Wp.icmpN_ge (pc2 := 55) 92 dX5_order_52 rfl (by decide) (by omega) (by omega) (fun c52 => ?_) (fun c52 => ?_)
    · refine Wp.fg [.ref 0, .int (nI t), .int (nI d), .int (nI (d / 10 ^ V 9 t)), .int (nI (msk d (V 9 t))), .null] (And.intro (Or.inr rfl) (And.intro (Or.inr rfl) (And.intro (Or.inr rfl) (And.intro (Or.inr rfl) (And.intro (Or.inr rfl) (And.intro (Or.inl rfl) trivial)))))) ?_
      exact K h
    · exfalso; omega
  | succ n ih =>
    intro k hk h
    have hdk := div_le' d k
    have hm := msk_lt (d := d) k (fun j hj => by have := h j hj; omega)
    have ek : d / 10 ^ k % 10 = dg d k := rfl
    refine Wp.iload (pc2 := 46) dX5_order_44 rfl rfl ?_
    refine Wp.aload_n (pc2 := 47) dX5_order_46 rfl rfl ?_
    refine Wp.getf (pc2 := 50) fX5_41 dX5_order_47 rfl rfl rfl ?_
    refine Wp.iload_n (pc2 := 51) dX5_order_50 rfl rfl ?_
    refine Wp.ialdN (pc2 := 52) dX5_order_51 rfl rfl (by omega) (by decide) ?_
    refine Wp.icmpN_ge (pc2 := 55) 92 dX5_order_52 rfl (by decide) (by omega) (by omega) (fun c52 => ?_) (fun c52 => ?_)
    · exfalso; omega
    · refine Wp.iload_n (pc2 := 56) dX5_order_55 rfl rfl ?_
      refine Wp.bipN (pc2 := 58) 10 dX5_order_56 rfl (by decide +kernel) ?_
      refine Wp.iremN (pc2 := 59) dX5_order_58 rfl (by omega) (by decide) (by decide) ?_
      refine Wp.aload_n (pc2 := 60) dX5_order_59 rfl rfl ?_
      refine Wp.getf (pc2 := 63) fX5_41 dX5_order_60 rfl rfl rfl ?_
      refine Wp.iload_n (pc2 := 64) dX5_order_63 rfl rfl ?_
      refine Wp.ialdN (pc2 := 65) dX5_order_64 rfl rfl (by omega) (by decide) ?_
      refine Wp.icmpN_lt (pc2 := 68) 70 dX5_order_65 rfl (by decide) (by omega) (by omega) (fun c65 => ?_) (fun c65 => ?_)
      · refine Wp.iload (pc2 := 72) dX5_order_70 rfl rfl ?_
        refine Wp.iconN (pc2 := 73) 1 dX5_order_72 rfl ?_
        refine Wp.iload_n (pc2 := 74) dX5_order_73 rfl rfl ?_
        refine Wp.bipN (pc2 := 76) 10 dX5_order_74 rfl (by decide +kernel) ?_
        refine Wp.iremN (pc2 := 77) dX5_order_76 rfl (by omega) (by decide) (by decide) ?_
        refine Wp.ishl (pc2 := 78) dX5_order_77 rfl ?_
        refine Wp.top (nI (2 ^ dg d k)) (shl1 (by omega)) ?_
        refine Wp.ior (pc2 := 79) dX5_order_78 rfl ?_
        refine Wp.top (nI (msk d (k + 1))) (or16 hm (by omega)) ?_
        refine Wp.istore (pc2 := 81) dX5_order_79 rfl (by decide) rfl ?_
        refine Wp.iload_n (pc2 := 82) dX5_order_81 rfl rfl ?_
        refine Wp.bipN (pc2 := 84) 10 dX5_order_82 rfl (by decide +kernel) ?_
        refine Wp.idivN (pc2 := 85) dX5_order_84 rfl (by omega) (by decide) (by decide) ?_
        refine Wp.istore_n (pc2 := 86) dX5_order_85 rfl (by decide) rfl ?_
        refine Wp.iincN (pc2 := 89) dX5_order_86 rfl rfl (by decide) rfl ?_
        refine Wp.goto (pc2 := 44) dX5_order_89 (by decide) ?_
        rw [dg_s]
        exact ih (k + 1) (by omega) (lt_s (p := fun j => dg d j < V 9 t) h (by omega))
      · refine Wp.iconN (pc2 := 69) 0 dX5_order_68 rfl ?_
        refine Wp.ret dX5_order_69 rfl (zb_nar false) ?_
        exact K0 (fun z => by have := z k (by omega); omega)

set_option maxRecDepth 100000 in
set_option maxHeartbeats 4000000 in
theorem m_order_2 (V : zS) (t d : Nat) (Q : Option Value → zh → Prop) (hV : BV V) (ht : t < 2) (hn : V 9 t ≤ 4) (hd : d < 2 ^ 31)
    (K : Wp mX5_order Q 155 [.ref 0, .int (nI t), .null, .null, .null, .null] [] (hM (ordV V t (ordD V t d (V 9 t))))) :
    ∀ (n k : Nat), k + n = V 9 t → Wp mX5_order Q 118 [.ref 0, .int (nI t), .null, .int (nI (d / 10 ^ k)), .null, .int (nI k)] [] (hM (ordV V t (ordD V t d k))) := by
  have e9 : ∀ o, ordV V t o 9 t = V 9 t := fun o => ordV_k V t o (by decide)
  intro n
  induction n with
  | zero =>
    intro k hk
    have e : k = V 9 t := by omega
    subst e
    refine Wp.iload (pc2 := 120) dX5_order_118 rfl rfl ?_
    refine Wp.aload_n (pc2 := 121) dX5_order_120 rfl rfl ?_
    refine Wp.getf (pc2 := 124) fX5_41 dX5_order_121 rfl rfl rfl ?_
    refine Wp.iload_n (pc2 := 125) dX5_order_124 rfl rfl ?_
    refine Wp.ialdN (pc2 := 126) dX5_order_125 rfl rfl (by omega) (by decide) ?_
    refine Wp.icmpN_ge (pc2 := 129) 155 dX5_order_126 rfl (by decide) (by omega) (by rw [e9]; omega) (fun c126 => ?_) (fun c126 => ?_)
    · refine Wp.fg [.ref 0, .int (nI t), .null, .null, .null, .null] (And.intro (Or.inr rfl) (And.intro (Or.inr rfl) (And.intro (Or.inl rfl) (And.intro (Or.inl rfl) (And.intro (Or.inl rfl) (And.intro (Or.inl rfl) trivial)))))) ?_
      exact K
    · rw [e9] at c126
      exfalso; omega
  | succ n ih =>
    intro k hk
    have hdk := div_le' d k
    have eS : (fun i => if i = k then d / 10 ^ k % 10 else ordD V t d k i) = ordD V t d (k + 1) := by
      funext i
      unfold ordD
      by_cases q : i = k
      · rw [if_pos q, if_pos (by omega), q]; rfl
      · rw [if_neg q]
        by_cases q2 : i < k
        · rw [if_pos q2, if_pos (by omega)]
        · rw [if_neg q2, if_neg (by omega)]
    refine Wp.iload (pc2 := 120) dX5_order_118 rfl rfl ?_
    refine Wp.aload_n (pc2 := 121) dX5_order_120 rfl rfl ?_
    refine Wp.getf (pc2 := 124) fX5_41 dX5_order_121 rfl rfl rfl ?_
    refine Wp.iload_n (pc2 := 125) dX5_order_124 rfl rfl ?_
    refine Wp.ialdN (pc2 := 126) dX5_order_125 rfl rfl (by omega) (by decide) ?_
    refine Wp.icmpN_ge (pc2 := 129) 155 dX5_order_126 rfl (by decide) (by omega) (by rw [e9]; omega) (fun c126 => ?_) (fun c126 => ?_)
    · rw [e9] at c126
      exfalso; omega
    · refine Wp.aload_n (pc2 := 130) dX5_order_129 rfl rfl ?_
      refine Wp.getf (pc2 := 133) fX5_47 dX5_order_130 rfl rfl rfl ?_
      refine Wp.iconN (pc2 := 134) 4 dX5_order_133 rfl ?_
      refine Wp.iload_n (pc2 := 135) dX5_order_134 rfl rfl ?_
      refine Wp.imulN (pc2 := 136) dX5_order_135 rfl  ?_
      refine Wp.iload (pc2 := 138) dX5_order_136 rfl rfl ?_
      refine Wp.iaddN (pc2 := 139) dX5_order_138 rfl  ?_
      refine Wp.iload_n (pc2 := 140) dX5_order_139 rfl rfl ?_
      refine Wp.bipN (pc2 := 142) 10 dX5_order_140 rfl (by decide +kernel) ?_
      refine Wp.iremN (pc2 := 143) dX5_order_142 rfl (by omega) (by decide) (by decide) ?_
      refine Wp.iastN (pc2 := 144) dX5_order_143 rfl rfl (by omega) (by decide) ?_
      refine Wp.heq (hM_a11 _ _ _) ?_
      rw [ordV_vs V t _ _ (by omega), eS]
      refine Wp.iload_n (pc2 := 145) dX5_order_144 rfl rfl ?_
      refine Wp.bipN (pc2 := 147) 10 dX5_order_145 rfl (by decide +kernel) ?_
      refine Wp.idivN (pc2 := 148) dX5_order_147 rfl (by omega) (by decide) (by decide) ?_
      refine Wp.istore_n (pc2 := 149) dX5_order_148 rfl (by decide) rfl ?_
      refine Wp.iincN (pc2 := 152) dX5_order_149 rfl rfl (by decide) rfl ?_
      refine Wp.goto (pc2 := 118) dX5_order_152 (by decide) ?_
      rw [dg_s]
      exact ih (k + 1) (by omega)

set_option maxRecDepth 100000 in
set_option maxHeartbeats 4000000 in
theorem m_order_none (V : zS) (t : Nat) (hV : BV V) (ht : t < 2) (hs : V 0 10 = 1) : PM mX5_order [.ref 0, .int (nI t), .int (-1)] (hM V) (fun zr zq => zr = some (.int (nI (1))) ∧ zq = hM (vs V 12 t 0)) := by
  refine PM.of (by decide +kernel) (by simp [Value.category]) (Nat.le_of_ble_eq_true rfl) ?_
  refine Wp.iload_n (pc2 := 1) dX5_order_0 rfl rfl ?_
  refine Wp.callS (pc2 := 4) kX5_order_85 sX5_isTable (m_isTable_t _ t ht) dX5_order_1 rfl rfl rfl (Nat.le_of_ble_eq_true rfl) ?_
  rintro _ _ ⟨rfl, rfl⟩
  refine Wp.ifN_eq (pc2 := 7) 20 dX5_order_4 rfl (by decide) (by omega) (fun c4 => ?_) (fun c4 => ?_)
  · exfalso; omega
  · refine Wp.aload_n (pc2 := 8) dX5_order_7 rfl rfl ?_
    refine Wp.getf (pc2 := 11) fX5_89 dX5_order_8 rfl rfl rfl ?_
    refine Wp.iconN (pc2 := 12) 1 dX5_order_11 rfl ?_
    refine Wp.icmpN_ne (pc2 := 15) 20 dX5_order_12 rfl (by decide) (hV.l _ _) (by decide) (fun c12 => ?_) (fun c12 => ?_)
    · exfalso; omega
    · refine Wp.iload_n (pc2 := 16) dX5_order_15 rfl rfl ?_
      refine Wp.icon (pc2 := 17) dX5_order_16 rfl (-1) (by decide +kernel) ?_
      refine Wp.icmp_ge (pc2 := 20) 22 dX5_order_17 rfl (by decide)  (fun c17 => ?_) (fun c17 => ?_)
      · refine Wp.iload_n (pc2 := 23) dX5_order_22 rfl rfl ?_
        refine Wp.icon (pc2 := 24) dX5_order_23 rfl (-1) (by decide +kernel) ?_
        refine Wp.icmp_ne (pc2 := 27) 36 dX5_order_24 rfl (by decide)  (fun c24 => ?_) (fun c24 => ?_)
        · exact absurd rfl c24
        · refine Wp.aload_n (pc2 := 28) dX5_order_27 rfl rfl ?_
          refine Wp.getf (pc2 := 31) fX5_50 dX5_order_28 rfl rfl rfl ?_
          refine Wp.iload_n (pc2 := 32) dX5_order_31 rfl rfl ?_
          refine Wp.iconN (pc2 := 33) 0 dX5_order_32 rfl ?_
          refine Wp.zastN (pc2 := 34) dX5_order_33 rfl rfl (by omega) (by decide) (by decide +kernel) ?_
          refine Wp.heq (hM_a12 _ _ _) ?_
          refine Wp.iconN (pc2 := 35) 1 dX5_order_34 rfl ?_
          refine Wp.ret dX5_order_35 rfl (zb_nar true) ?_
          exact ⟨rfl, rfl⟩
      · exact absurd (Int32.le_refl (-1)) c17

set_option maxRecDepth 100000 in
set_option maxHeartbeats 4000000 in
theorem m_order_ok (V : zS) (t d : Nat) (hV : BV V) (ht : t < 2) (hn : V 9 t ≤ 4) (hd : d < 2 ^ 31) (hs : V 0 10 = 1) (hok : dOK (V 9 t) d) : PM mX5_order [.ref 0, .int (nI t), .int (nI d)] (hM V) (fun zr zq => zr = some (.int (nI (1))) ∧ zq = hM (mOrder V t d)) := by
  refine PM.of (by decide +kernel) (by simp [Value.category]) (Nat.le_of_ble_eq_true rfl) ?_
  refine Wp.iload_n (pc2 := 1) dX5_order_0 rfl rfl ?_
  refine Wp.callS (pc2 := 4) kX5_order_85 sX5_isTable (m_isTable_t _ t ht) dX5_order_1 rfl rfl rfl (Nat.le_of_ble_eq_true rfl) ?_
  rintro _ _ ⟨rfl, rfl⟩
  refine Wp.ifN_eq (pc2 := 7) 20 dX5_order_4 rfl (by decide) (by omega) (fun c4 => ?_) (fun c4 => ?_)
  · exfalso; omega
  · refine Wp.aload_n (pc2 := 8) dX5_order_7 rfl rfl ?_
    refine Wp.getf (pc2 := 11) fX5_89 dX5_order_8 rfl rfl rfl ?_
    refine Wp.iconN (pc2 := 12) 1 dX5_order_11 rfl ?_
    refine Wp.icmpN_ne (pc2 := 15) 20 dX5_order_12 rfl (by decide) (hV.l _ _) (by decide) (fun c12 => ?_) (fun c12 => ?_)
    · exfalso; omega
    · refine Wp.iload_n (pc2 := 16) dX5_order_15 rfl rfl ?_
      refine Wp.icon (pc2 := 17) dX5_order_16 rfl (-1) (by decide +kernel) ?_
      refine Wp.icmp_ge (pc2 := 20) 22 dX5_order_17 rfl (by decide)  (fun c17 => ?_) (fun c17 => ?_)
      · refine Wp.iload_n (pc2 := 23) dX5_order_22 rfl rfl ?_
        refine Wp.icon (pc2 := 24) dX5_order_23 rfl (-1) (by decide +kernel) ?_
        refine Wp.icmp_ne (pc2 := 27) 36 dX5_order_24 rfl (by decide)  (fun c24 => ?_) (fun c24 => ?_)
        · refine Wp.iload_n (pc2 := 37) dX5_order_36 rfl rfl ?_
          refine Wp.istore_n (pc2 := 38) dX5_order_37 rfl (by decide) rfl ?_
          refine Wp.iconN (pc2 := 39) 0 dX5_order_38 rfl ?_
          refine Wp.istore (pc2 := 41) dX5_order_39 rfl (by decide) rfl ?_
          refine Wp.iconN (pc2 := 42) 0 dX5_order_41 rfl ?_
          refine Wp.istore (pc2 := 44) dX5_order_42 rfl (by decide) rfl ?_
          refine Wp.leq (L' := [.ref 0, .int (nI t), .int (nI d), .int (nI (d / 10 ^ 0)), .int (nI (msk d 0)), .int (nI 0)]) (by rw [Nat.pow_zero, Nat.div_one]; rfl) ?_
          refine m_order_1 V t d _ hV ht hn hd (fun z => absurd hok.1 z) (fun h => ?_) (V 9 t) 0 (by omega) (fun j hj => by omega)
          have hp := p2lt hn
          have hm := msk_lt (d := d) (V 9 t) (fun j hj => by have := h j hj; omega)
          refine Wp.iload_n (pc2 := 93) dX5_order_92 rfl rfl ?_
          refine Wp.ifN_ne (pc2 := 96) 111 dX5_order_93 rfl (by decide) (by have := div_le' d (V 9 t); omega) (fun c93 => ?_) (fun c93 => ?_)
          · exact absurd hok.2.2 c93
          · refine Wp.iload (pc2 := 98) dX5_order_96 rfl rfl ?_
            refine Wp.iconN (pc2 := 99) 1 dX5_order_98 rfl ?_
            refine Wp.aload_n (pc2 := 100) dX5_order_99 rfl rfl ?_
            refine Wp.getf (pc2 := 103) fX5_41 dX5_order_100 rfl rfl rfl ?_
            refine Wp.iload_n (pc2 := 104) dX5_order_103 rfl rfl ?_
            refine Wp.ialdN (pc2 := 105) dX5_order_104 rfl rfl (by omega) (by decide) ?_
            refine Wp.ishl (pc2 := 106) dX5_order_105 rfl ?_
            refine Wp.top (nI (2 ^ V 9 t)) (shl1 (by omega)) ?_
            refine Wp.iconN (pc2 := 107) 1 dX5_order_106 rfl ?_
            refine Wp.isubN (pc2 := 108) dX5_order_107 rfl hp.2 ?_
            refine Wp.icmpN_eq (pc2 := 111) 113 dX5_order_108 rfl (by decide) (by omega) hp.1 (fun c108 => ?_) (fun c108 => ?_)
            · refine Wp.iload_n (pc2 := 114) dX5_order_113 rfl rfl ?_
              refine Wp.istore_n (pc2 := 115) dX5_order_114 rfl (by decide) rfl ?_
              refine Wp.iconN (pc2 := 116) 0 dX5_order_115 rfl ?_
              refine Wp.istore (pc2 := 118) dX5_order_116 rfl (by decide) rfl ?_
              refine Wp.fg [.ref 0, .int (nI t), .null, .int (nI d), .null, .int (nI 0)] (And.intro (Or.inr rfl) (And.intro (Or.inr rfl) (And.intro (Or.inl rfl) (And.intro (Or.inr rfl) (And.intro (Or.inl rfl) (And.intro (Or.inr rfl) trivial)))))) ?_
              have e0 : ordV V t (ordD V t d 0) = V := ordV_self V t (fun j _ => by unfold ordD; rw [if_neg (by omega)])
              refine Wp.heq (h' := hM (ordV V t (ordD V t d 0))) (by rw [e0]) ?_
              refine Wp.leq (L' := [.ref 0, .int (nI t), .null, .int (nI (d / 10 ^ 0)), .null, .int (nI 0)]) (by rw [Nat.pow_zero, Nat.div_one]) ?_
              refine m_order_2 V t d _ hV ht hn hd ?_ (V 9 t) 0 (by omega)
              refine Wp.aload_n (pc2 := 156) dX5_order_155 rfl rfl ?_
              refine Wp.getf (pc2 := 159) fX5_50 dX5_order_156 rfl rfl rfl ?_
              refine Wp.iload_n (pc2 := 160) dX5_order_159 rfl rfl ?_
              refine Wp.iconN (pc2 := 161) 1 dX5_order_160 rfl ?_
              refine Wp.zastN (pc2 := 162) dX5_order_161 rfl rfl (by omega) (by decide) (by decide +kernel) ?_
              refine Wp.heq (hM_a12 _ _ _) ?_
              refine Wp.iconN (pc2 := 163) 1 dX5_order_162 rfl ?_
              refine Wp.ret dX5_order_163 rfl (zb_nar true) ?_
              exact ⟨rfl, rfl⟩
            · exact absurd ((msk_full h).mpr hok.2.1) c108
        · exact absurd c24 (nI_m1 hd)
      · exact absurd (Int32.le_trans (by decide) (nI_pos' hd)) c17

set_option maxRecDepth 100000 in
set_option maxHeartbeats 4000000 in
theorem m_order_no (V : zS) (tt dd : Int32) (hV : BV V) (hn4 : ∀ t, t < 2 → V 9 t ≤ 4) (hno : ¬ ∃ t : Nat, (t < 2 ∧ tt = nI t) ∧ V 0 10 = 1 ∧ (dd = -1 ∨ ∃ d : Nat, d < 2 ^ 31 ∧ dd = nI d ∧ dOK (V 9 t) d)) : PM mX5_order [.ref 0, .int tt, .int dd] (hM V) (fun zr zq => zr = some (.int (nI 0)) ∧ zq = hM V) := by
  refine PM.of (by decide +kernel) (by simp [Value.category]) (Nat.le_of_ble_eq_true rfl) ?_
  refine Wp.iload_n (pc2 := 1) dX5_order_0 rfl rfl ?_
  refine Wp.callS (pc2 := 4) kX5_order_85 sX5_isTable (m_isTable _ tt) dX5_order_1 rfl rfl rfl (Nat.le_of_ble_eq_true rfl) ?_
  rintro _ _ ⟨⟨b, rfl, hb⟩, rfl⟩
  refine Wp.ifN_eq (pc2 := 7) 20 dX5_order_4 rfl (by decide) (zb_lt _) (fun c4 => ?_) (fun c4 => ?_)
  · refine Wp.iconN (pc2 := 21) 0 dX5_order_20 rfl ?_
    refine Wp.ret dX5_order_21 rfl (zb_nar false) ?_
    exact ⟨rfl, rfl⟩
  · obtain ⟨t, ht, rfl⟩ := rg_t.mp (zby hb c4)
    have hn := hn4 t ht
    refine Wp.aload_n (pc2 := 8) dX5_order_7 rfl rfl ?_
    refine Wp.getf (pc2 := 11) fX5_89 dX5_order_8 rfl rfl rfl ?_
    refine Wp.iconN (pc2 := 12) 1 dX5_order_11 rfl ?_
    refine Wp.icmpN_ne (pc2 := 15) 20 dX5_order_12 rfl (by decide) (hV.l _ _) (by decide) (fun c12 => ?_) (fun c12 => ?_)
    · refine Wp.iconN (pc2 := 21) 0 dX5_order_20 rfl ?_
      refine Wp.ret dX5_order_21 rfl (zb_nar false) ?_
      exact ⟨rfl, rfl⟩
    · refine Wp.iload_n (pc2 := 16) dX5_order_15 rfl rfl ?_
      refine Wp.icon (pc2 := 17) dX5_order_16 rfl (-1) (by decide +kernel) ?_
      refine Wp.icmp_ge (pc2 := 20) 22 dX5_order_17 rfl (by decide)  (fun c17 => ?_) (fun c17 => ?_)
      · refine Wp.iload_n (pc2 := 23) dX5_order_22 rfl rfl ?_
        refine Wp.icon (pc2 := 24) dX5_order_23 rfl (-1) (by decide +kernel) ?_
        refine Wp.icmp_ne (pc2 := 27) 36 dX5_order_24 rfl (by decide)  (fun c24 => ?_) (fun c24 => ?_)
        · refine Wp.iload_n (pc2 := 37) dX5_order_36 rfl rfl ?_
          refine Wp.istore_n (pc2 := 38) dX5_order_37 rfl (by decide) rfl ?_
          refine Wp.iconN (pc2 := 39) 0 dX5_order_38 rfl ?_
          refine Wp.istore (pc2 := 41) dX5_order_39 rfl (by decide) rfl ?_
          refine Wp.iconN (pc2 := 42) 0 dX5_order_41 rfl ?_
          refine Wp.istore (pc2 := 44) dX5_order_42 rfl (by decide) rfl ?_
          have hpos : ¬ dd < 0 := by
            intro z
            rw [Int32.lt_iff_toInt_lt] at z
            rw [Int32.le_iff_toInt_le] at c17
            have e1 : (-1 : Int32).toInt = -1 := by decide
            have e0 : (0 : Int32).toInt = 0 := by decide
            exact c24 (Int32.toInt_inj.mp (by omega))
          obtain ⟨d, hd, rfl⟩ := nI_of hpos
          have hnd : ¬ dOK (V 9 t) d := fun z => hno ⟨t, ⟨ht, rfl⟩, c12, Or.inr ⟨d, hd, rfl, z⟩⟩
          refine Wp.leq (L' := [.ref 0, .int (nI t), .int (nI d), .int (nI (d / 10 ^ 0)), .int (nI (msk d 0)), .int (nI 0)]) (by rw [Nat.pow_zero, Nat.div_one]; rfl) ?_
          refine m_order_1 V t d _ hV ht hn hd (fun _ => ⟨rfl, rfl⟩) (fun h => ?_) (V 9 t) 0 (by omega) (fun j hj => by omega)
          have hp := p2lt hn
          have hm := msk_lt (d := d) (V 9 t) (fun j hj => by have := h j hj; omega)
          refine Wp.iload_n (pc2 := 93) dX5_order_92 rfl rfl ?_
          refine Wp.ifN_ne (pc2 := 96) 111 dX5_order_93 rfl (by decide) (by have := div_le' d (V 9 t); omega) (fun c93 => ?_) (fun c93 => ?_)
          · refine Wp.iconN (pc2 := 112) 0 dX5_order_111 rfl ?_
            refine Wp.ret dX5_order_112 rfl (zb_nar false) ?_
            exact ⟨rfl, rfl⟩
          · refine Wp.iload (pc2 := 98) dX5_order_96 rfl rfl ?_
            refine Wp.iconN (pc2 := 99) 1 dX5_order_98 rfl ?_
            refine Wp.aload_n (pc2 := 100) dX5_order_99 rfl rfl ?_
            refine Wp.getf (pc2 := 103) fX5_41 dX5_order_100 rfl rfl rfl ?_
            refine Wp.iload_n (pc2 := 104) dX5_order_103 rfl rfl ?_
            refine Wp.ialdN (pc2 := 105) dX5_order_104 rfl rfl (by omega) (by decide) ?_
            refine Wp.ishl (pc2 := 106) dX5_order_105 rfl ?_
            refine Wp.top (nI (2 ^ V 9 t)) (shl1 (by omega)) ?_
            refine Wp.iconN (pc2 := 107) 1 dX5_order_106 rfl ?_
            refine Wp.isubN (pc2 := 108) dX5_order_107 rfl hp.2 ?_
            refine Wp.icmpN_eq (pc2 := 111) 113 dX5_order_108 rfl (by decide) (by omega) hp.1 (fun c108 => ?_) (fun c108 => ?_)
            · exact absurd ⟨h, (msk_full h).mp c108, c93⟩ hnd
            · refine Wp.iconN (pc2 := 112) 0 dX5_order_111 rfl ?_
              refine Wp.ret dX5_order_112 rfl (zb_nar false) ?_
              exact ⟨rfl, rfl⟩
        · exact absurd ⟨t, ⟨ht, rfl⟩, c12, Or.inl c24⟩ hno
      · refine Wp.iconN (pc2 := 21) 0 dX5_order_20 rfl ?_
        refine Wp.ret dX5_order_21 rfl (zb_nar false) ?_
        exact ⟨rfl, rfl⟩

def mSum (V : zS) (t c : Nat) : Nat → Nat
  | 0 => 0
  | n + 1 => mSum V t c n + V 2 (3 * (50 * t + mGiven V n t) + c)
theorem mGiven_lt {V : zS} {i t : Nat} (h : V 21 i < 2500) : mGiven V i t < 50 := by
  unfold mGiven
  split <;> omega

set_option maxRecDepth 100000 in
set_option maxHeartbeats 4000000 in
theorem m_sum_l (V : zS) (t c : Nat) (hV : BV V) (ht : t < 2) (hc : c < 3) (hg : GI V) : ∀ (n k : Nat), k + n = V 0 26 → Wp mX5_sum (fun zr zq => zr = some (.int (nI (mSum V t c (V 0 26)))) ∧ zq = hM V) 23 [.ref 0, .int (nI t), .int (nI c), .int (nI (mSum V t c k)), .int (nI k)] [] (hM V) := by
  have h26 := GI_le hg
  intro n
  induction n with
  | zero =>
    intro k hk
    have e : k = V 0 26 := by omega
    subst e
    refine Wp.iload (pc2 := 25) dX5_sum_23 rfl rfl ?_
    refine Wp.aload_n (pc2 := 26) dX5_sum_25 rfl rfl ?_
    refine Wp.getf (pc2 := 29) fX5_103 dX5_sum_26 rfl rfl rfl ?_
    refine Wp.icmpN_ge (pc2 := 32) 54 dX5_sum_29 rfl (by decide) (by omega) (by omega) (fun c29 => ?_) (fun c29 => ?_)
    · refine Wp.iload_n (pc2 := 55) dX5_sum_54 rfl rfl ?_
      refine Wp.ret dX5_sum_55 rfl rfl ?_
      exact ⟨rfl, rfl⟩
    · exfalso; omega
  | succ n ih =>
    intro k hk
    have hl := mGiven_lt (t := t) (hg.1 k (by omega)).1
    refine Wp.iload (pc2 := 25) dX5_sum_23 rfl rfl ?_
    refine Wp.aload_n (pc2 := 26) dX5_sum_25 rfl rfl ?_
    refine Wp.getf (pc2 := 29) fX5_103 dX5_sum_26 rfl rfl rfl ?_
    refine Wp.icmpN_ge (pc2 := 32) 54 dX5_sum_29 rfl (by decide) (by omega) (by omega) (fun c29 => ?_) (fun c29 => ?_)
    · exfalso; omega
    · refine Wp.iload_n (pc2 := 33) dX5_sum_32 rfl rfl ?_
      refine Wp.aload_n (pc2 := 34) dX5_sum_33 rfl rfl ?_
      refine Wp.iload_n (pc2 := 35) dX5_sum_34 rfl rfl ?_
      refine Wp.aload_n (pc2 := 36) dX5_sum_35 rfl rfl ?_
      refine Wp.iload (pc2 := 38) dX5_sum_36 rfl rfl ?_
      refine Wp.iload_n (pc2 := 39) dX5_sum_38 rfl rfl ?_
      refine Wp.callV (pc2 := 42) kX5_sum_167 vX5_given (m_given_ok V k t hV ht h26 (by omega)) dX5_sum_39 rfl rfl rfl rfl rfl (Nat.le_of_ble_eq_true rfl) ?_
      rintro _ _ ⟨rfl, rfl⟩
      refine Wp.iload_n (pc2 := 43) dX5_sum_42 rfl rfl ?_
      refine Wp.callV (pc2 := 46) kX5_sum_92 vX5_cell (m_cell V t (mGiven V k t) c (by omega)) dX5_sum_43 rfl rfl rfl rfl rfl (Nat.le_of_ble_eq_true rfl) ?_
      rintro _ _ ⟨rfl, rfl⟩
      refine Wp.iaddN (pc2 := 47) dX5_sum_46 rfl  ?_
      refine Wp.istore_n (pc2 := 48) dX5_sum_47 rfl (by decide) rfl ?_
      refine Wp.iincN (pc2 := 51) dX5_sum_48 rfl rfl (by decide) rfl ?_
      refine Wp.goto (pc2 := 23) dX5_sum_51 (by decide) ?_
      exact ih (k + 1) (by omega)

set_option maxRecDepth 100000 in
set_option maxHeartbeats 4000000 in
theorem m_sum_ok (V : zS) (t c : Nat) (hV : BV V) (ht : t < 2) (hc : c < 3) (hg : GI V) : PM mX5_sum [.ref 0, .int (nI t), .int (nI c)] (hM V) (fun zr zq => zr = some (.int (nI (mSum V t c (V 0 26)))) ∧ zq = hM V) := by
  refine PM.of (by decide +kernel) (by simp [Value.category]) (Nat.le_of_ble_eq_true rfl) ?_
  refine Wp.iload_n (pc2 := 1) dX5_sum_0 rfl rfl ?_
  refine Wp.callS (pc2 := 4) kX5_sum_85 sX5_isTable (m_isTable_t _ t ht) dX5_sum_1 rfl rfl rfl (Nat.le_of_ble_eq_true rfl) ?_
  rintro _ _ ⟨rfl, rfl⟩
  refine Wp.ifN_eq (pc2 := 7) 16 dX5_sum_4 rfl (by decide) (by omega) (fun c4 => ?_) (fun c4 => ?_)
  · exfalso; omega
  · refine Wp.iload_n (pc2 := 8) dX5_sum_7 rfl rfl ?_
    refine Wp.iconN (pc2 := 9) 0 dX5_sum_8 rfl ?_
    refine Wp.iconN (pc2 := 10) 2 dX5_sum_9 rfl ?_
    refine Wp.callS (pc2 := 13) kX5_sum_81 sX5_in (m_in_t _ _ _ _ ((rg_in (by decide)).mpr ⟨c, hc, rfl⟩)) dX5_sum_10 rfl rfl rfl (Nat.le_of_ble_eq_true rfl) ?_
    rintro _ _ ⟨rfl, rfl⟩
    refine Wp.ifN_ne (pc2 := 16) 18 dX5_sum_13 rfl (by decide) (by omega) (fun c13 => ?_) (fun c13 => ?_)
    · refine Wp.iconN (pc2 := 19) 0 dX5_sum_18 rfl ?_
      refine Wp.istore_n (pc2 := 20) dX5_sum_19 rfl (by decide) rfl ?_
      refine Wp.iconN (pc2 := 21) 0 dX5_sum_20 rfl ?_
      refine Wp.istore (pc2 := 23) dX5_sum_21 rfl (by decide) rfl ?_
      exact m_sum_l V t c hV ht hc hg (V 0 26) 0 (by omega)
    · exfalso; omega

set_option maxRecDepth 100000 in
set_option maxHeartbeats 4000000 in
theorem m_sum_no (V : zS) (t c : Int32) (hno : ¬ (rg t 2 ∧ rg c 3)) : PM mX5_sum [.ref 0, .int t, .int c] (hM V) (fun zr zq => zr = some (.int (-1)) ∧ zq = hM V) := by
  refine PM.of (by decide +kernel) (by simp [Value.category]) (Nat.le_of_ble_eq_true rfl) ?_
  refine Wp.iload_n (pc2 := 1) dX5_sum_0 rfl rfl ?_
  refine Wp.callS (pc2 := 4) kX5_sum_85 sX5_isTable (m_isTable _ t) dX5_sum_1 rfl rfl rfl (Nat.le_of_ble_eq_true rfl) ?_
  rintro _ _ ⟨⟨b1, rfl, hb1⟩, rfl⟩
  refine Wp.ifN_eq (pc2 := 7) 16 dX5_sum_4 rfl (by decide) (zb_lt _) (fun c4 => ?_) (fun c4 => ?_)
  · refine Wp.icon (pc2 := 17) dX5_sum_16 rfl (-1) (by decide +kernel) ?_
    refine Wp.ret dX5_sum_17 rfl rfl ?_
    exact ⟨rfl, rfl⟩
  · refine Wp.iload_n (pc2 := 8) dX5_sum_7 rfl rfl ?_
    refine Wp.iconN (pc2 := 9) 0 dX5_sum_8 rfl ?_
    refine Wp.iconN (pc2 := 10) 2 dX5_sum_9 rfl ?_
    refine Wp.callS (pc2 := 13) kX5_sum_81 sX5_in (m_in _ c _ _) dX5_sum_10 rfl rfl rfl (Nat.le_of_ble_eq_true rfl) ?_
    rintro _ _ ⟨⟨b2, rfl, hb2⟩, rfl⟩
    refine Wp.ifN_ne (pc2 := 16) 18 dX5_sum_13 rfl (by decide) (zb_lt _) (fun c13 => ?_) (fun c13 => ?_)
    · exact absurd ⟨rg_t.mp (zby hb1 c4), (rg_in (by decide)).mp (zby hb2 c13)⟩ hno
    · refine Wp.icon (pc2 := 17) dX5_sum_16 rfl (-1) (by decide +kernel) ?_
      refine Wp.ret dX5_sum_17 rfl rfl ?_
      exact ⟨rfl, rfl⟩

def allP (V : zS) (t r : Nat) : Prop := ∀ k, k < V 3 t → passP V t r k

set_option maxRecDepth 100000 in
set_option maxHeartbeats 4000000 in
theorem m_pAll_l (V : zS) (t r : Nat) (hV : BV V) (ht : t < 2) (hr : r < 50) (h3 : V 3 t ≤ 4) (h8 : ∀ j, j < 8 → V 4 j < 3) : ∀ (n k : Nat), k + n = V 3 t → (∀ j, j < k → passP V t r j) → Wp mX5_passesAll (fun zr zq => zbo (allP V t r) zr ∧ zq = hM V) 2 [.ref 0, .int (nI t), .int (nI r), .int (nI k)] [] (hM V) := by
  intro n
  induction n with
  | zero =>
    intro k hk h
    have e : k = V 3 t := by omega
    subst e
    refine Wp.iload_n (pc2 := 3) dX5_passesAll_2 rfl rfl ?_
    refine Wp.aload_n (pc2 := 4) dX5_passesAll_3 rfl rfl ?_
    refine Wp.getf (pc2 := 7) fX5_16 dX5_passesAll_4 rfl rfl rfl ?_
    refine Wp.iload_n (pc2 := 8) dX5_passesAll_7 rfl rfl ?_
    refine Wp.ialdN (pc2 := 9) dX5_passesAll_8 rfl rfl (by omega) (by decide) ?_
    refine Wp.icmpN_ge (pc2 := 12) 30 dX5_passesAll_9 rfl (by decide) (by omega) (by omega) (fun c9 => ?_) (fun c9 => ?_)
    · refine Wp.iconN (pc2 := 31) 1 dX5_passesAll_30 rfl ?_
      refine Wp.ret dX5_passesAll_31 rfl (zb_nar true) ?_
      exact ⟨zbo_t h, rfl⟩
    · exfalso; omega
  | succ n ih =>
    intro k hk h
    refine Wp.iload_n (pc2 := 3) dX5_passesAll_2 rfl rfl ?_
    refine Wp.aload_n (pc2 := 4) dX5_passesAll_3 rfl rfl ?_
    refine Wp.getf (pc2 := 7) fX5_16 dX5_passesAll_4 rfl rfl rfl ?_
    refine Wp.iload_n (pc2 := 8) dX5_passesAll_7 rfl rfl ?_
    refine Wp.ialdN (pc2 := 9) dX5_passesAll_8 rfl rfl (by omega) (by decide) ?_
    refine Wp.icmpN_ge (pc2 := 12) 30 dX5_passesAll_9 rfl (by decide) (by omega) (by omega) (fun c9 => ?_) (fun c9 => ?_)
    · exfalso; omega
    · refine Wp.aload_n (pc2 := 13) dX5_passesAll_12 rfl rfl ?_
      refine Wp.iload_n (pc2 := 14) dX5_passesAll_13 rfl rfl ?_
      refine Wp.iload_n (pc2 := 15) dX5_passesAll_14 rfl rfl ?_
      refine Wp.iload_n (pc2 := 16) dX5_passesAll_15 rfl rfl ?_
      refine Wp.callV (pc2 := 19) kX5_passesAll_135 vX5_passes (m_passes V t r k hV ht hr (by omega) (h8 _ (by omega))) dX5_passesAll_16 rfl rfl rfl rfl rfl (Nat.le_of_ble_eq_true rfl) ?_
      rintro _ _ ⟨⟨b, rfl, hb⟩, rfl⟩
      refine Wp.ifN_ne (pc2 := 22) 24 dX5_passesAll_19 rfl (by decide) (zb_lt _) (fun c19 => ?_) (fun c19 => ?_)
      · refine Wp.iincN (pc2 := 27) dX5_passesAll_24 rfl rfl (by decide) rfl ?_
        refine Wp.goto (pc2 := 2) dX5_passesAll_27 (by decide) ?_
        exact ih (k + 1) (by omega) (lt_s (p := fun j => passP V t r j) h (zby hb c19))
      · refine Wp.iconN (pc2 := 23) 0 dX5_passesAll_22 rfl ?_
        refine Wp.ret dX5_passesAll_23 rfl (zb_nar false) ?_
        exact ⟨zbo_f (fun z => zbn hb c19 (z k (by omega))), rfl⟩

set_option maxRecDepth 100000 in
set_option maxHeartbeats 4000000 in
theorem m_passesAll (V : zS) (t r : Nat) (hV : BV V) (ht : t < 2) (hr : r < 50) (h3 : V 3 t ≤ 4) (h8 : ∀ j, j < 8 → V 4 j < 3) : PM mX5_passesAll [.ref 0, .int (nI t), .int (nI r)] (hM V) (fun zr zq => zbo (allP V t r) zr ∧ zq = hM V) := by
  refine PM.of (by decide +kernel) (by simp [Value.category]) (Nat.le_of_ble_eq_true rfl) ?_
  refine Wp.iconN (pc2 := 1) 0 dX5_passesAll_0 rfl ?_
  refine Wp.istore_n (pc2 := 2) dX5_passesAll_1 rfl (by decide) rfl ?_
  exact m_pAll_l V t r hV ht hr h3 h8 (V 3 t) 0 (by omega) (fun j hj => by omega)

noncomputable def pl1 (V : zS) (a : Nat) : Nat → Nat
  | 0 => 0
  | b + 1 => pl1 V a b + @ite _ (alike V a b ∧ allP V 1 b) (Classical.propDecidable _) 1 0
noncomputable def pl0 (V : zS) : Nat → Nat
  | 0 => 0
  | a + 1 => pl0 V a + @ite _ (allP V 0 a) (Classical.propDecidable _) (pl1 V a (V 1 1)) 0
theorem pl1_t {V : zS} {a b : Nat} (h : alike V a b ∧ allP V 1 b) : pl1 V a (b + 1) = pl1 V a b + 1 := by show _ + _ = _; rw [if_pos h]
theorem pl1_f {V : zS} {a b : Nat} (h : ¬ (alike V a b ∧ allP V 1 b)) : pl1 V a (b + 1) = pl1 V a b + 0 := by show _ + _ = _; rw [if_neg h]
theorem pl0_t {V : zS} {a : Nat} (h : allP V 0 a) : pl0 V (a + 1) = pl0 V a + pl1 V a (V 1 1) := by show _ + _ = _; rw [if_pos h]
theorem pl0_f {V : zS} {a : Nat} (h : ¬ allP V 0 a) : pl0 V (a + 1) = pl0 V a := by show _ + _ = _; rw [if_neg h]; rfl

set_option maxRecDepth 100000 in
set_option maxHeartbeats 4000000 in
theorem m_plain_1 (V : zS) (hV : BV V) (hj0 : V 8 0 < 3) (hj1 : V 8 1 < 3) (h30 : V 3 0 ≤ 4) (h31 : V 3 1 ≤ 4) (hr0 : V 1 0 ≤ 50) (hr1 : V 1 1 ≤ 50) (h8 : ∀ j, j < 8 → V 4 j < 3) (a : Nat) (ha : a < 50) (Q : Option Value → zh → Prop) (x : Nat)
    (K : Wp mX5_plain Q 70 [.ref 0, .int (nI (x + pl1 V a (V 1 1))), .int (nI a), .null] [] (hM V)) : ∀ (n b : Nat), b + n = V 1 1 → Wp mX5_plain Q 28 [.ref 0, .int (nI (x + pl1 V a b)), .int (nI a), .int (nI b)] [] (hM V) := by
  intro n
  induction n with
  | zero =>
    intro b hb
    have e : b = V 1 1 := by omega
    subst e
    refine Wp.iload_n (pc2 := 29) dX5_plain_28 rfl rfl ?_
    refine Wp.aload_n (pc2 := 30) dX5_plain_29 rfl rfl ?_
    refine Wp.getf (pc2 := 33) fX5_7 dX5_plain_30 rfl rfl rfl ?_
    refine Wp.iconN (pc2 := 34) 1 dX5_plain_33 rfl ?_
    refine Wp.ialdN (pc2 := 35) dX5_plain_34 rfl rfl (by omega) (by decide) ?_
    refine Wp.icmpN_ge (pc2 := 38) 70 dX5_plain_35 rfl (by decide) (by omega) (by omega) (fun c35 => ?_) (fun c35 => ?_)
    · refine Wp.fg [.ref 0, .int (nI (x + pl1 V a (V 1 1))), .int (nI a), .null] (And.intro (Or.inr rfl) (And.intro (Or.inr rfl) (And.intro (Or.inr rfl) (And.intro (Or.inl rfl) trivial)))) ?_
      exact K
    · exfalso; omega
  | succ n ih =>
    intro b hb
    refine Wp.iload_n (pc2 := 29) dX5_plain_28 rfl rfl ?_
    refine Wp.aload_n (pc2 := 30) dX5_plain_29 rfl rfl ?_
    refine Wp.getf (pc2 := 33) fX5_7 dX5_plain_30 rfl rfl rfl ?_
    refine Wp.iconN (pc2 := 34) 1 dX5_plain_33 rfl ?_
    refine Wp.ialdN (pc2 := 35) dX5_plain_34 rfl rfl (by omega) (by decide) ?_
    refine Wp.icmpN_ge (pc2 := 38) 70 dX5_plain_35 rfl (by decide) (by omega) (by omega) (fun c35 => ?_) (fun c35 => ?_)
    · exfalso; omega
    · refine Wp.iload_n (pc2 := 39) dX5_plain_38 rfl rfl ?_
      refine Wp.aload_n (pc2 := 40) dX5_plain_39 rfl rfl ?_
      refine Wp.iload_n (pc2 := 41) dX5_plain_40 rfl rfl ?_
      refine Wp.iload_n (pc2 := 42) dX5_plain_41 rfl rfl ?_
      refine Wp.callV (pc2 := 45) kX5_plain_124 vX5_isAlike (m_isAlike V a b hV ha (by omega) hj0 hj1) dX5_plain_42 rfl rfl rfl rfl rfl (Nat.le_of_ble_eq_true rfl) ?_
      rintro _ _ ⟨⟨b1, rfl, hb1⟩, rfl⟩
      refine Wp.ifN_eq (pc2 := 48) 61 dX5_plain_45 rfl (by decide) (zb_lt _) (fun c45 => ?_) (fun c45 => ?_)
      · refine Wp.iconN (pc2 := 62) 0 dX5_plain_61 rfl ?_
        refine Wp.iaddN (pc2 := 63) dX5_plain_62 rfl  ?_
        refine Wp.istore_n (pc2 := 64) dX5_plain_63 rfl (by decide) rfl ?_
        refine Wp.iincN (pc2 := 67) dX5_plain_64 rfl rfl (by decide) rfl ?_
        refine Wp.goto (pc2 := 28) dX5_plain_67 (by decide) ?_
        have e := pl1_f (V := V) (a := a) (b := b) (fun z => zbn hb1 c45 z.1)
        rw [Nat.add_assoc, ← e]
        exact ih (b + 1) (by omega)
      · refine Wp.aload_n (pc2 := 49) dX5_plain_48 rfl rfl ?_
        refine Wp.iconN (pc2 := 50) 1 dX5_plain_49 rfl ?_
        refine Wp.iload_n (pc2 := 51) dX5_plain_50 rfl rfl ?_
        refine Wp.callV (pc2 := 54) kX5_plain_169 vX5_passesAll (m_passesAll V 1 b hV (by omega) (by omega) h31 h8) dX5_plain_51 rfl rfl rfl rfl rfl (Nat.le_of_ble_eq_true rfl) ?_
        rintro _ _ ⟨⟨b2, rfl, hb2⟩, rfl⟩
        refine Wp.ifN_eq (pc2 := 57) 61 dX5_plain_54 rfl (by decide) (zb_lt _) (fun c54 => ?_) (fun c54 => ?_)
        · refine Wp.iconN (pc2 := 62) 0 dX5_plain_61 rfl ?_
          refine Wp.iaddN (pc2 := 63) dX5_plain_62 rfl  ?_
          refine Wp.istore_n (pc2 := 64) dX5_plain_63 rfl (by decide) rfl ?_
          refine Wp.iincN (pc2 := 67) dX5_plain_64 rfl rfl (by decide) rfl ?_
          refine Wp.goto (pc2 := 28) dX5_plain_67 (by decide) ?_
          have e := pl1_f (V := V) (a := a) (b := b) (fun z => zbn hb2 c54 z.2)
          rw [Nat.add_assoc, ← e]
          exact ih (b + 1) (by omega)
        · refine Wp.iconN (pc2 := 58) 1 dX5_plain_57 rfl ?_
          refine Wp.goto (pc2 := 62) dX5_plain_58 (by decide) ?_
          refine Wp.iaddN (pc2 := 63) dX5_plain_62 rfl  ?_
          refine Wp.istore_n (pc2 := 64) dX5_plain_63 rfl (by decide) rfl ?_
          refine Wp.iincN (pc2 := 67) dX5_plain_64 rfl rfl (by decide) rfl ?_
          refine Wp.goto (pc2 := 28) dX5_plain_67 (by decide) ?_
          have e := pl1_t (V := V) (a := a) (b := b) ⟨zby hb1 c45, zby hb2 c54⟩
          rw [Nat.add_assoc, ← e]
          exact ih (b + 1) (by omega)

set_option maxRecDepth 100000 in
set_option maxHeartbeats 4000000 in
theorem m_plain_0 (V : zS) (hV : BV V) (hj0 : V 8 0 < 3) (hj1 : V 8 1 < 3) (h30 : V 3 0 ≤ 4) (h31 : V 3 1 ≤ 4) (hr0 : V 1 0 ≤ 50) (hr1 : V 1 1 ≤ 50) (h8 : ∀ j, j < 8 → V 4 j < 3) : ∀ (n a : Nat), a + n = V 1 0 → Wp mX5_plain (fun zr zq => zr = some (.int (nI (pl0 V (V 1 0)))) ∧ zq = hM V) 4 [.ref 0, .int (nI (pl0 V a)), .int (nI a), .null] [] (hM V) := by
  intro n
  induction n with
  | zero =>
    intro a ha
    have e : a = V 1 0 := by omega
    subst e
    refine Wp.iload_n (pc2 := 5) dX5_plain_4 rfl rfl ?_
    refine Wp.aload_n (pc2 := 6) dX5_plain_5 rfl rfl ?_
    refine Wp.getf (pc2 := 9) fX5_7 dX5_plain_6 rfl rfl rfl ?_
    refine Wp.iconN (pc2 := 10) 0 dX5_plain_9 rfl ?_
    refine Wp.ialdN (pc2 := 11) dX5_plain_10 rfl rfl (by omega) (by decide) ?_
    refine Wp.icmpN_ge (pc2 := 14) 76 dX5_plain_11 rfl (by decide) (by omega) (by omega) (fun c11 => ?_) (fun c11 => ?_)
    · refine Wp.iload_n (pc2 := 77) dX5_plain_76 rfl rfl ?_
      refine Wp.ret dX5_plain_77 rfl rfl ?_
      exact ⟨rfl, rfl⟩
    · exfalso; omega
  | succ n ih =>
    intro a ha
    refine Wp.iload_n (pc2 := 5) dX5_plain_4 rfl rfl ?_
    refine Wp.aload_n (pc2 := 6) dX5_plain_5 rfl rfl ?_
    refine Wp.getf (pc2 := 9) fX5_7 dX5_plain_6 rfl rfl rfl ?_
    refine Wp.iconN (pc2 := 10) 0 dX5_plain_9 rfl ?_
    refine Wp.ialdN (pc2 := 11) dX5_plain_10 rfl rfl (by omega) (by decide) ?_
    refine Wp.icmpN_ge (pc2 := 14) 76 dX5_plain_11 rfl (by decide) (by omega) (by omega) (fun c11 => ?_) (fun c11 => ?_)
    · exfalso; omega
    · refine Wp.aload_n (pc2 := 15) dX5_plain_14 rfl rfl ?_
      refine Wp.iconN (pc2 := 16) 0 dX5_plain_15 rfl ?_
      refine Wp.iload_n (pc2 := 17) dX5_plain_16 rfl rfl ?_
      refine Wp.callV (pc2 := 20) kX5_plain_169 vX5_passesAll (m_passesAll V 0 a hV (by omega) (by omega) h30 h8) dX5_plain_17 rfl rfl rfl rfl rfl (Nat.le_of_ble_eq_true rfl) ?_
      rintro _ _ ⟨⟨b, rfl, hb⟩, rfl⟩
      refine Wp.ifN_ne (pc2 := 23) 26 dX5_plain_20 rfl (by decide) (zb_lt _) (fun c20 => ?_) (fun c20 => ?_)
      · refine Wp.iconN (pc2 := 27) 0 dX5_plain_26 rfl ?_
        refine Wp.istore_n (pc2 := 28) dX5_plain_27 rfl (by decide) rfl ?_
        refine Wp.leq (L' := [.ref 0, .int (nI (pl0 V a + pl1 V a 0)), .int (nI a), .int (nI 0)]) rfl ?_
        refine m_plain_1 V hV hj0 hj1 h30 h31 hr0 hr1 h8 a (by omega) _ (pl0 V a) ?_ (V 1 1) 0 (by omega)
        rw [← pl0_t (zby hb c20)]
        refine Wp.iincN (pc2 := 73) dX5_plain_70 rfl rfl (by decide) rfl ?_
        refine Wp.goto (pc2 := 4) dX5_plain_73 (by decide) ?_
        exact ih (a + 1) (by omega)
      · refine Wp.goto (pc2 := 70) dX5_plain_23 (by decide) ?_
        refine Wp.iincN (pc2 := 73) dX5_plain_70 rfl rfl (by decide) rfl ?_
        refine Wp.goto (pc2 := 4) dX5_plain_73 (by decide) ?_
        have e := pl0_f (V := V) (a := a) (zbn hb c20)
        rw [← e]
        exact ih (a + 1) (by omega)

set_option maxRecDepth 100000 in
set_option maxHeartbeats 4000000 in
theorem m_plain (V : zS) (hV : BV V) (hj0 : V 8 0 < 3) (hj1 : V 8 1 < 3) (h30 : V 3 0 ≤ 4) (h31 : V 3 1 ≤ 4) (hr0 : V 1 0 ≤ 50) (hr1 : V 1 1 ≤ 50) (h8 : ∀ j, j < 8 → V 4 j < 3) : PM mX5_plain [.ref 0] (hM V) (fun zr zq => zr = some (.int (nI (pl0 V (V 1 0)))) ∧ zq = hM V) := by
  refine PM.of (by decide +kernel) (by simp [Value.category]) (Nat.le_of_ble_eq_true rfl) ?_
  refine Wp.iconN (pc2 := 1) 0 dX5_plain_0 rfl ?_
  refine Wp.istore_n (pc2 := 2) dX5_plain_1 rfl (by decide) rfl ?_
  refine Wp.iconN (pc2 := 3) 0 dX5_plain_2 rfl ?_
  refine Wp.istore_n (pc2 := 4) dX5_plain_3 rfl (by decide) rfl ?_
  exact m_plain_0 V hV hj0 hj1 h30 h31 hr0 hr1 h8 (V 1 0) 0 (by omega)
end
