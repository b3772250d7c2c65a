section
-- ===== PART A: goes FIRST, ahead of the names: the tables' words, and 'selects' of the private methods out of them =====
/-- a private method of a class that the tables say can be made, by its rows of tables_1 -/
def lw_okq (q : MethodName × Nat) : Prop := (q.1.cls ≠ "java/lang/invoke/MethodHandle" ∧ q.1.cls ≠ "java/lang/invoke/VarHandle") ∧ Cond.instantiable q.1.cls q.2 ∈ tables_1 ∧ Cond.privateMethod q.1 ∈ tables_1 ∧ Cond.instanceMethod q.1 ∈ tables_1
theorem lw_p0 : lw_okq (⟨"ProtoCheck", "blocksAreRight", "()Z"⟩, 15) := ⟨⟨by decide +kernel, by decide +kernel⟩, List.mem_of_getElem? (i := 15) (by decide +kernel), List.mem_of_getElem? (i := 309) (by decide +kernel), List.mem_of_getElem? (i := 310) (by decide +kernel)⟩
theorem lw_p1 : lw_okq (⟨"ProtoCheck$Rules", "hasExchanged", "(LProtoCheck$WordRow;II)Z"⟩, 3) := ⟨⟨by decide +kernel, by decide +kernel⟩, List.mem_of_getElem? (i := 34) (by decide +kernel), List.mem_of_getElem? (i := 321) (by decide +kernel), List.mem_of_getElem? (i := 322) (by decide +kernel)⟩
theorem lw_p2 : lw_okq (⟨"ProtoCheck$Invariant", "hasExchanged", "(III)Z"⟩, 1) := ⟨⟨by decide +kernel, by decide +kernel⟩, List.mem_of_getElem? (i := 64) (by decide +kernel), List.mem_of_getElem? (i := 340) (by decide +kernel), List.mem_of_getElem? (i := 341) (by decide +kernel)⟩
theorem lw_p3 : lw_okq (⟨"ProtoCheck", "storeForm", "(I)V"⟩, 15) := ⟨⟨by decide +kernel, by decide +kernel⟩, List.mem_of_getElem? (i := 15) (by decide +kernel), List.mem_of_getElem? (i := 364) (by decide +kernel), List.mem_of_getElem? (i := 365) (by decide +kernel)⟩
theorem lw_p4 : lw_okq (⟨"ProtoCheck$Machine", "run", "(LProtoCheck$WordRow;II[I[I)I"⟩, 2) := ⟨⟨by decide +kernel, by decide +kernel⟩, List.mem_of_getElem? (i := 78) (by decide +kernel), List.mem_of_getElem? (i := 387) (by decide +kernel), List.mem_of_getElem? (i := 388) (by decide +kernel)⟩
theorem lw_p5 : lw_okq (⟨"ProtoCheck$Machine", "step", "(I[I[I)V"⟩, 2) := ⟨⟨by decide +kernel, by decide +kernel⟩, List.mem_of_getElem? (i := 78) (by decide +kernel), List.mem_of_getElem? (i := 392) (by decide +kernel), List.mem_of_getElem? (i := 393) (by decide +kernel)⟩
theorem lw_p6 : lw_okq (⟨"ProtoCheck$Machine", "push", "(I)V"⟩, 2) := ⟨⟨by decide +kernel, by decide +kernel⟩, List.mem_of_getElem? (i := 78) (by decide +kernel), List.mem_of_getElem? (i := 398) (by decide +kernel), List.mem_of_getElem? (i := 399) (by decide +kernel)⟩
theorem lw_p7 : lw_okq (⟨"ProtoCheck$Machine", "pop", "()I"⟩, 2) := ⟨⟨by decide +kernel, by decide +kernel⟩, List.mem_of_getElem? (i := 78) (by decide +kernel), List.mem_of_getElem? (i := 403) (by decide +kernel), List.mem_of_getElem? (i := 404) (by decide +kernel)⟩
theorem lw_p8 : lw_okq (⟨"ProtoCheck", "layTrace", "()V"⟩, 15) := ⟨⟨by decide +kernel, by decide +kernel⟩, List.mem_of_getElem? (i := 15) (by decide +kernel), List.mem_of_getElem? (i := 410) (by decide +kernel), List.mem_of_getElem? (i := 411) (by decide +kernel)⟩
theorem lw_p9 : lw_okq (⟨"ProtoCheck$StateStore", "has", "(I)Z"⟩, 5) := ⟨⟨by decide +kernel, by decide +kernel⟩, List.mem_of_getElem? (i := 91) (by decide +kernel), List.mem_of_getElem? (i := 429) (by decide +kernel), List.mem_of_getElem? (i := 430) (by decide +kernel)⟩
theorem lw_p10 : lw_okq (⟨"ProtoCheck", "fires", "(LProtoCheck$WordRow;)Z"⟩, 15) := ⟨⟨by decide +kernel, by decide +kernel⟩, List.mem_of_getElem? (i := 15) (by decide +kernel), List.mem_of_getElem? (i := 446) (by decide +kernel), List.mem_of_getElem? (i := 447) (by decide +kernel)⟩
theorem lw_p11 : lw_okq (⟨"ProtoCheck$StateStore", "isState", "(I[I)Z"⟩, 5) := ⟨⟨by decide +kernel, by decide +kernel⟩, List.mem_of_getElem? (i := 91) (by decide +kernel), List.mem_of_getElem? (i := 464) (by decide +kernel), List.mem_of_getElem? (i := 465) (by decide +kernel)⟩
theorem lw_p12 : lw_okq (⟨"ProtoCheck", "allExpanded", "()Z"⟩, 15) := ⟨⟨by decide +kernel, by decide +kernel⟩, List.mem_of_getElem? (i := 15) (by decide +kernel), List.mem_of_getElem? (i := 483) (by decide +kernel), List.mem_of_getElem? (i := 484) (by decide +kernel)⟩
theorem lw_p13 : lw_okq (⟨"ProtoCheck", "expandNext", "()V"⟩, 15) := ⟨⟨by decide +kernel, by decide +kernel⟩, List.mem_of_getElem? (i := 15) (by decide +kernel), List.mem_of_getElem? (i := 488) (by decide +kernel), List.mem_of_getElem? (i := 489) (by decide +kernel)⟩
theorem lw_p14 : lw_okq (⟨"ProtoCheckModel", "ruleIsRight", "(I)Z"⟩, 19) := ⟨⟨by decide +kernel, by decide +kernel⟩, List.mem_of_getElem? (i := 534) (by decide +kernel), List.mem_of_getElem? (i := 632) (by decide +kernel), List.mem_of_getElem? (i := 633) (by decide +kernel)⟩
theorem lw_p15 : lw_okq (⟨"ProtoCheckModel", "invariantIsRight", "()Z"⟩, 19) := ⟨⟨by decide +kernel, by decide +kernel⟩, List.mem_of_getElem? (i := 534) (by decide +kernel), List.mem_of_getElem? (i := 639) (by decide +kernel), List.mem_of_getElem? (i := 640) (by decide +kernel)⟩
def lw_privs_1 : List (MethodName × Nat) := [(⟨"ProtoCheck", "blocksAreRight", "()Z"⟩, 15), (⟨"ProtoCheck$Rules", "hasExchanged", "(LProtoCheck$WordRow;II)Z"⟩, 3), (⟨"ProtoCheck$Invariant", "hasExchanged", "(III)Z"⟩, 1), (⟨"ProtoCheck", "storeForm", "(I)V"⟩, 15), (⟨"ProtoCheck$Machine", "run", "(LProtoCheck$WordRow;II[I[I)I"⟩, 2), (⟨"ProtoCheck$Machine", "step", "(I[I[I)V"⟩, 2), (⟨"ProtoCheck$Machine", "push", "(I)V"⟩, 2), (⟨"ProtoCheck$Machine", "pop", "()I"⟩, 2), (⟨"ProtoCheck", "layTrace", "()V"⟩, 15), (⟨"ProtoCheck$StateStore", "has", "(I)Z"⟩, 5), (⟨"ProtoCheck", "fires", "(LProtoCheck$WordRow;)Z"⟩, 15), (⟨"ProtoCheck$StateStore", "isState", "(I[I)Z"⟩, 5), (⟨"ProtoCheck", "allExpanded", "()Z"⟩, 15), (⟨"ProtoCheck", "expandNext", "()V"⟩, 15), (⟨"ProtoCheckModel", "ruleIsRight", "(I)Z"⟩, 19), (⟨"ProtoCheckModel", "invariantIsRight", "()Z"⟩, 19)]
theorem lw_r1 : ∀ q ∈ lw_privs_1, lw_okq q := List.forall_mem_cons.mpr ⟨lw_p0, List.forall_mem_cons.mpr ⟨lw_p1, List.forall_mem_cons.mpr ⟨lw_p2, List.forall_mem_cons.mpr ⟨lw_p3, List.forall_mem_cons.mpr ⟨lw_p4, List.forall_mem_cons.mpr ⟨lw_p5, List.forall_mem_cons.mpr ⟨lw_p6, List.forall_mem_cons.mpr ⟨lw_p7, List.forall_mem_cons.mpr ⟨lw_p8, List.forall_mem_cons.mpr ⟨lw_p9, List.forall_mem_cons.mpr ⟨lw_p10, List.forall_mem_cons.mpr ⟨lw_p11, List.forall_mem_cons.mpr ⟨lw_p12, List.forall_mem_cons.mpr ⟨lw_p13, List.forall_mem_cons.mpr ⟨lw_p14, List.forall_mem_cons.mpr ⟨lw_p15, fun _ h => absurd h List.not_mem_nil⟩⟩⟩⟩⟩⟩⟩⟩⟩⟩⟩⟩⟩⟩⟩⟩
theorem lw_p16 : lw_okq (⟨"ProtoCheckModel", "blocksAreRight", "()Z"⟩, 19) := ⟨⟨by decide +kernel, by decide +kernel⟩, List.mem_of_getElem? (i := 534) (by decide +kernel), List.mem_of_getElem? (i := 643) (by decide +kernel), List.mem_of_getElem? (i := 644) (by decide +kernel)⟩
theorem lw_p17 : lw_okq (⟨"ProtoCheckModel", "mayExchange", "(II)Z"⟩, 19) := ⟨⟨by decide +kernel, by decide +kernel⟩, List.mem_of_getElem? (i := 534) (by decide +kernel), List.mem_of_getElem? (i := 647) (by decide +kernel), List.mem_of_getElem? (i := 648) (by decide +kernel)⟩
theorem lw_p18 : lw_okq (⟨"ProtoCheckModel", "isRuleAgain", "(III)Z"⟩, 19) := ⟨⟨by decide +kernel, by decide +kernel⟩, List.mem_of_getElem? (i := 534) (by decide +kernel), List.mem_of_getElem? (i := 651) (by decide +kernel), List.mem_of_getElem? (i := 652) (by decide +kernel)⟩
theorem lw_p19 : lw_okq (⟨"ProtoCheckModel", "becomesRule", "(IIII)Z"⟩, 19) := ⟨⟨by decide +kernel, by decide +kernel⟩, List.mem_of_getElem? (i := 534) (by decide +kernel), List.mem_of_getElem? (i := 655) (by decide +kernel), List.mem_of_getElem? (i := 656) (by decide +kernel)⟩
theorem lw_p20 : lw_okq (⟨"ProtoCheckModel", "begins", "(I)Z"⟩, 19) := ⟨⟨by decide +kernel, by decide +kernel⟩, List.mem_of_getElem? (i := 534) (by decide +kernel), List.mem_of_getElem? (i := 662) (by decide +kernel), List.mem_of_getElem? (i := 663) (by decide +kernel)⟩
theorem lw_p21 : lw_okq (⟨"ProtoCheckModel", "isPartAgain", "(III)Z"⟩, 19) := ⟨⟨by decide +kernel, by decide +kernel⟩, List.mem_of_getElem? (i := 534) (by decide +kernel), List.mem_of_getElem? (i := 666) (by decide +kernel), List.mem_of_getElem? (i := 667) (by decide +kernel)⟩
theorem lw_p22 : lw_okq (⟨"ProtoCheckModel", "becomesPart", "(IIII)Z"⟩, 19) := ⟨⟨by decide +kernel, by decide +kernel⟩, List.mem_of_getElem? (i := 534) (by decide +kernel), List.mem_of_getElem? (i := 670) (by decide +kernel), List.mem_of_getElem? (i := 671) (by decide +kernel)⟩
theorem lw_p23 : lw_okq (⟨"ProtoCheckModel", "end", "(I)I"⟩, 19) := ⟨⟨by decide +kernel, by decide +kernel⟩, List.mem_of_getElem? (i := 534) (by decide +kernel), List.mem_of_getElem? (i := 674) (by decide +kernel), List.mem_of_getElem? (i := 675) (by decide +kernel)⟩
theorem lw_p24 : lw_okq (⟨"ProtoCheckModel", "store", "(I)V"⟩, 19) := ⟨⟨by decide +kernel, by decide +kernel⟩, List.mem_of_getElem? (i := 534) (by decide +kernel), List.mem_of_getElem? (i := 678) (by decide +kernel), List.mem_of_getElem? (i := 679) (by decide +kernel)⟩
theorem lw_p25 : lw_okq (⟨"ProtoCheckModel", "standardise", "()V"⟩, 19) := ⟨⟨by decide +kernel, by decide +kernel⟩, List.mem_of_getElem? (i := 534) (by decide +kernel), List.mem_of_getElem? (i := 682) (by decide +kernel), List.mem_of_getElem? (i := 683) (by decide +kernel)⟩
theorem lw_p26 : lw_okq (⟨"ProtoCheckModel", "inOrder", "(I)I"⟩, 19) := ⟨⟨by decide +kernel, by decide +kernel⟩, List.mem_of_getElem? (i := 534) (by decide +kernel), List.mem_of_getElem? (i := 686) (by decide +kernel), List.mem_of_getElem? (i := 687) (by decide +kernel)⟩
theorem lw_p27 : lw_okq (⟨"ProtoCheckModel", "place", "(I)I"⟩, 19) := ⟨⟨by decide +kernel, by decide +kernel⟩, List.mem_of_getElem? (i := 534) (by decide +kernel), List.mem_of_getElem? (i := 690) (by decide +kernel), List.mem_of_getElem? (i := 691) (by decide +kernel)⟩
theorem lw_p28 : lw_okq (⟨"ProtoCheckModel", "holds", "()Z"⟩, 19) := ⟨⟨by decide +kernel, by decide +kernel⟩, List.mem_of_getElem? (i := 534) (by decide +kernel), List.mem_of_getElem? (i := 694) (by decide +kernel), List.mem_of_getElem? (i := 695) (by decide +kernel)⟩
theorem lw_p29 : lw_okq (⟨"ProtoCheckModel", "done", "(II)I"⟩, 19) := ⟨⟨by decide +kernel, by decide +kernel⟩, List.mem_of_getElem? (i := 534) (by decide +kernel), List.mem_of_getElem? (i := 698) (by decide +kernel), List.mem_of_getElem? (i := 699) (by decide +kernel)⟩
theorem lw_p30 : lw_okq (⟨"ProtoCheckModel", "expand", "()V"⟩, 19) := ⟨⟨by decide +kernel, by decide +kernel⟩, List.mem_of_getElem? (i := 534) (by decide +kernel), List.mem_of_getElem? (i := 709) (by decide +kernel), List.mem_of_getElem? (i := 710) (by decide +kernel)⟩
theorem lw_p31 : lw_okq (⟨"ProtoCheckModel", "fires", "(I)Z"⟩, 19) := ⟨⟨by decide +kernel, by decide +kernel⟩, List.mem_of_getElem? (i := 534) (by decide +kernel), List.mem_of_getElem? (i := 713) (by decide +kernel), List.mem_of_getElem? (i := 714) (by decide +kernel)⟩
def lw_privs_2 : List (MethodName × Nat) := [(⟨"ProtoCheckModel", "blocksAreRight", "()Z"⟩, 19), (⟨"ProtoCheckModel", "mayExchange", "(II)Z"⟩, 19), (⟨"ProtoCheckModel", "isRuleAgain", "(III)Z"⟩, 19), (⟨"ProtoCheckModel", "becomesRule", "(IIII)Z"⟩, 19), (⟨"ProtoCheckModel", "begins", "(I)Z"⟩, 19), (⟨"ProtoCheckModel", "isPartAgain", "(III)Z"⟩, 19), (⟨"ProtoCheckModel", "becomesPart", "(IIII)Z"⟩, 19), (⟨"ProtoCheckModel", "end", "(I)I"⟩, 19), (⟨"ProtoCheckModel", "store", "(I)V"⟩, 19), (⟨"ProtoCheckModel", "standardise", "()V"⟩, 19), (⟨"ProtoCheckModel", "inOrder", "(I)I"⟩, 19), (⟨"ProtoCheckModel", "place", "(I)I"⟩, 19), (⟨"ProtoCheckModel", "holds", "()Z"⟩, 19), (⟨"ProtoCheckModel", "done", "(II)I"⟩, 19), (⟨"ProtoCheckModel", "expand", "()V"⟩, 19), (⟨"ProtoCheckModel", "fires", "(I)Z"⟩, 19)]
theorem lw_r2 : ∀ q ∈ lw_privs_2, lw_okq q := List.forall_mem_cons.mpr ⟨lw_p16, List.forall_mem_cons.mpr ⟨lw_p17, List.forall_mem_cons.mpr ⟨lw_p18, List.forall_mem_cons.mpr ⟨lw_p19, List.forall_mem_cons.mpr ⟨lw_p20, List.forall_mem_cons.mpr ⟨lw_p21, List.forall_mem_cons.mpr ⟨lw_p22, List.forall_mem_cons.mpr ⟨lw_p23, List.forall_mem_cons.mpr ⟨lw_p24, List.forall_mem_cons.mpr ⟨lw_p25, List.forall_mem_cons.mpr ⟨lw_p26, List.forall_mem_cons.mpr ⟨lw_p27, List.forall_mem_cons.mpr ⟨lw_p28, List.forall_mem_cons.mpr ⟨lw_p29, List.forall_mem_cons.mpr ⟨lw_p30, List.forall_mem_cons.mpr ⟨lw_p31, fun _ h => absurd h List.not_mem_nil⟩⟩⟩⟩⟩⟩⟩⟩⟩⟩⟩⟩⟩⟩⟩⟩
theorem lw_p32 : lw_okq (⟨"ProtoCheckModel", "isStored", "()Z"⟩, 19) := ⟨⟨by decide +kernel, by decide +kernel⟩, List.mem_of_getElem? (i := 534) (by decide +kernel), List.mem_of_getElem? (i := 717) (by decide +kernel), List.mem_of_getElem? (i := 718) (by decide +kernel)⟩
theorem lw_p33 : lw_okq (⟨"ProtoCheckModel", "isNormal", "(I)Z"⟩, 19) := ⟨⟨by decide +kernel, by decide +kernel⟩, List.mem_of_getElem? (i := 534) (by decide +kernel), List.mem_of_getElem? (i := 721) (by decide +kernel), List.mem_of_getElem? (i := 722) (by decide +kernel)⟩
theorem lw_p34 : lw_okq (⟨"ProtoCheckModel", "follow", "(I)V"⟩, 19) := ⟨⟨by decide +kernel, by decide +kernel⟩, List.mem_of_getElem? (i := 534) (by decide +kernel), List.mem_of_getElem? (i := 742) (by decide +kernel), List.mem_of_getElem? (i := 743) (by decide +kernel)⟩
theorem lw_p35 : lw_okq (⟨"ProtoCheckModel", "fired", "(I)I"⟩, 19) := ⟨⟨by decide +kernel, by decide +kernel⟩, List.mem_of_getElem? (i := 534) (by decide +kernel), List.mem_of_getElem? (i := 746) (by decide +kernel), List.mem_of_getElem? (i := 747) (by decide +kernel)⟩
theorem lw_p36 : lw_okq (⟨"ProtoCheckModel", "onWay", "(I)I"⟩, 19) := ⟨⟨by decide +kernel, by decide +kernel⟩, List.mem_of_getElem? (i := 534) (by decide +kernel), List.mem_of_getElem? (i := 750) (by decide +kernel), List.mem_of_getElem? (i := 751) (by decide +kernel)⟩
def lw_privs_3 : List (MethodName × Nat) := [(⟨"ProtoCheckModel", "isStored", "()Z"⟩, 19), (⟨"ProtoCheckModel", "isNormal", "(I)Z"⟩, 19), (⟨"ProtoCheckModel", "follow", "(I)V"⟩, 19), (⟨"ProtoCheckModel", "fired", "(I)I"⟩, 19), (⟨"ProtoCheckModel", "onWay", "(I)I"⟩, 19)]
theorem lw_r3 : ∀ q ∈ lw_privs_3, lw_okq q := List.forall_mem_cons.mpr ⟨lw_p32, List.forall_mem_cons.mpr ⟨lw_p33, List.forall_mem_cons.mpr ⟨lw_p34, List.forall_mem_cons.mpr ⟨lw_p35, List.forall_mem_cons.mpr ⟨lw_p36, fun _ h => absurd h List.not_mem_nil⟩⟩⟩⟩⟩
def lw_privs : List (MethodName × Nat) := lw_privs_1 ++ (lw_privs_2 ++ (lw_privs_3))
def lw_tbl : List Cond := k2_sels lw_privs ++ tables_1
theorem lw_privs_ok : ∀ q ∈ lw_privs, lw_okq q := by
  show ∀ q ∈ lw_privs_1 ++ (lw_privs_2 ++ (lw_privs_3)), lw_okq q
  exact List.forall_mem_append.mpr ⟨lw_r1, List.forall_mem_append.mpr ⟨lw_r2, lw_r3⟩⟩
end
section
def RX0 : String := "ProtoCheck$Blocks"
def TX0 : u_T := fun k => match k with
  | _ => ("ProtoCheck$Blocks", "numbers", "[I", true)
def tyX0 : Nat → FieldType := fun k => match k with
  | _ => .array .int
abbrev wsX00 : List Cond := u_ws RX0 TX0 1
theorem nmX0 : ∀ a, a < 1 → ∀ b, b < 1 → a ≠ b → (TX0 a).2.1 ≠ (TX0 b).2.1 := by decide +kernel
theorem tyX0_ok : ∀ k, k < 1 → parseFieldDescriptor (TX0 k).2.2.1 = some (tyX0 k) := by decide +kernel
abbrev cX0_init : ByteArray := prog_2_method_1_code
def yX0_init : MethodName := ⟨RX0, "<init>", "()V"⟩
abbrev cX0_clear : ByteArray := prog_2_method_2_code
def yX0_clear : MethodName := ⟨RX0, "clear", "()V"⟩
abbrev cX0_put : ByteArray := prog_2_method_3_code
def yX0_put : MethodName := ⟨RX0, "put", "(II)V"⟩
abbrev cX0_join : ByteArray := prog_2_method_4_code
def yX0_join : MethodName := ⟨RX0, "join", "(II)Z"⟩
abbrev cX0_toStandardForm : ByteArray := prog_2_method_5_code
def yX0_toStandardForm : MethodName := ⟨RX0, "toStandardForm", "([I)V"⟩
def RX1 : String := "ProtoCheck$Invariant"
def TX1 : u_T := fun k => match k with
  | _ => ("ProtoCheck$Invariant", "row", "LProtoCheck$WordRow;", true)
def tyX1 : Nat → FieldType := fun k => match k with
  | _ => .object "ProtoCheck$WordRow"
abbrev wsX10 : List Cond := u_ws RX1 TX1 1
theorem nmX1 : ∀ a, a < 1 → ∀ b, b < 1 → a ≠ b → (TX1 a).2.1 ≠ (TX1 b).2.1 := by decide +kernel
theorem tyX1_ok : ∀ k, k < 1 → parseFieldDescriptor (TX1 k).2.2.1 = some (tyX1 k) := by decide +kernel
abbrev cX1_init : ByteArray := prog_3_method_1_code
def yX1_init : MethodName := ⟨RX1, "<init>", "()V"⟩
abbrev cX1_isRight : ByteArray := prog_3_method_2_code
def yX1_isRight : MethodName := ⟨RX1, "isRight", "()Z"⟩
abbrev cX1_isPartStart : ByteArray := prog_3_method_3_code
def yX1_isPartStart : MethodName := ⟨RX1, "isPartStart", "(I)Z"⟩
abbrev cX1_partEnd : ByteArray := prog_3_method_4_code
def yX1_partEnd : MethodName := ⟨RX1, "partEnd", "(I)I"⟩
abbrev cX1_bearsExchange : ByteArray := prog_3_method_5_code
def yX1_bearsExchange : MethodName := ⟨RX1, "bearsExchange", "(II)Z"⟩
abbrev cX1_hasExchanged : ByteArray := prog_3_method_6_code
def yX1_hasExchanged : MethodName := ⟨RX1, "hasExchanged", "(III)Z"⟩
def RX2 : String := "ProtoCheck$Machine"
def TX2 : u_T := fun k => match k with
  | 0 => ("ProtoCheck$Machine", "stack", "[I", true)
  | _ => ("ProtoCheck$Machine", "height", "I", false)
def tyX2 : Nat → FieldType := fun k => match k with
  | 0 => .array .int
  | _ => .int
abbrev wsX20 : List Cond := u_ws RX2 TX2 2
theorem nmX2 : ∀ a, a < 2 → ∀ b, b < 2 → a ≠ b → (TX2 a).2.1 ≠ (TX2 b).2.1 := by decide +kernel
theorem tyX2_ok : ∀ k, k < 2 → parseFieldDescriptor (TX2 k).2.2.1 = some (tyX2 k) := by decide +kernel
abbrev cX2_init : ByteArray := prog_4_method_1_code
def yX2_init : MethodName := ⟨RX2, "<init>", "()V"⟩
abbrev cX2_mayFire : ByteArray := prog_4_method_2_code
def yX2_mayFire : MethodName := ⟨RX2, "mayFire", "(LProtoCheck$WordRow;[I)Z"⟩
abbrev cX2_fire : ByteArray := prog_4_method_3_code
def yX2_fire : MethodName := ⟨RX2, "fire", "(LProtoCheck$WordRow;[I[I)V"⟩
abbrev cX2_holds : ByteArray := prog_4_method_4_code
def yX2_holds : MethodName := ⟨RX2, "holds", "(LProtoCheck$Invariant;[I)Z"⟩
abbrev cX2_run : ByteArray := prog_4_method_5_code
def yX2_run : MethodName := ⟨RX2, "run", "(LProtoCheck$WordRow;II[I[I)I"⟩
abbrev cX2_step : ByteArray := prog_4_method_6_code
def yX2_step : MethodName := ⟨RX2, "step", "(I[I[I)V"⟩
abbrev cX2_joined : ByteArray := prog_4_method_7_code
def yX2_joined : MethodName := ⟨RX2, "joined", "(III)I"⟩
abbrev cX2_push : ByteArray := prog_4_method_8_code
def yX2_push : MethodName := ⟨RX2, "push", "(I)V"⟩
abbrev cX2_pop : ByteArray := prog_4_method_9_code
def yX2_pop : MethodName := ⟨RX2, "pop", "()I"⟩
def RX3 : String := "ProtoCheck$Rules"
def TX3 : u_T := fun k => match k with
  | 0 => ("ProtoCheck$Rules", "rows", "[LProtoCheck$WordRow;", true)
  | 1 => ("ProtoCheck$Rules", "nothing", "LProtoCheck$WordRow;", true)
  | _ => ("ProtoCheck$Rules", "count", "I", false)
def tyX3 : Nat → FieldType := fun k => match k with
  | 0 => .array (.object "ProtoCheck$WordRow")
  | 1 => .object "ProtoCheck$WordRow"
  | _ => .int
abbrev wsX30 : List Cond := u_ws RX3 TX3 3
theorem nmX3 : ∀ a, a < 3 → ∀ b, b < 3 → a ≠ b → (TX3 a).2.1 ≠ (TX3 b).2.1 := by decide +kernel
theorem tyX3_ok : ∀ k, k < 3 → parseFieldDescriptor (TX3 k).2.2.1 = some (tyX3 k) := by decide +kernel
abbrev cX3_init : ByteArray := prog_5_method_1_code
def yX3_init : MethodName := ⟨RX3, "<init>", "()V"⟩
abbrev cX3_clear : ByteArray := prog_5_method_2_code
def yX3_clear : MethodName := ⟨RX3, "clear", "()V"⟩
abbrev cX3_count : ByteArray := prog_5_method_3_code
def yX3_count : MethodName := ⟨RX3, "count", "()I"⟩
abbrev cX3_isFull : ByteArray := prog_5_method_4_code
def yX3_isFull : MethodName := ⟨RX3, "isFull", "()Z"⟩
abbrev cX3_begin : ByteArray := prog_5_method_5_code
def yX3_begin : MethodName := ⟨RX3, "begin", "()I"⟩
abbrev cX3_at : ByteArray := prog_5_method_6_code
def yX3_at : MethodName := ⟨RX3, "at", "(I)LProtoCheck$WordRow;"⟩
abbrev cX3_areRight : ByteArray := prog_5_method_7_code
def yX3_areRight : MethodName := ⟨RX3, "areRight", "()Z"⟩
abbrev cX3_isRight : ByteArray := prog_5_method_8_code
def yX3_isRight : MethodName := ⟨RX3, "isRight", "(LProtoCheck$WordRow;)Z"⟩
abbrev cX3_bearExchange : ByteArray := prog_5_method_9_code
def yX3_bearExchange : MethodName := ⟨RX3, "bearExchange", "(II)Z"⟩
abbrev cX3_hasExchanged : ByteArray := prog_5_method_10_code
def yX3_hasExchanged : MethodName := ⟨RX3, "hasExchanged", "(LProtoCheck$WordRow;II)Z"⟩
def RX4 : String := "ProtoCheck$StateStore"
def TX4 : u_T := fun k => match k with
  | 0 => ("ProtoCheck$StateStore", "values", "[I", true)
  | 1 => ("ProtoCheck$StateStore", "parents", "[I", true)
  | 2 => ("ProtoCheck$StateStore", "newest", "[I", true)
  | 3 => ("ProtoCheck$StateStore", "older", "[I", true)
  | _ => ("ProtoCheck$StateStore", "count", "I", false)
def tyX4 : Nat → FieldType := fun k => match k with
  | 0 => .array .int
  | 1 => .array .int
  | 2 => .array .int
  | 3 => .array .int
  | _ => .int
abbrev wsX40 : List Cond := u_ws RX4 TX4 5
theorem nmX4 : ∀ a, a < 5 → ∀ b, b < 5 → a ≠ b → (TX4 a).2.1 ≠ (TX4 b).2.1 := by decide +kernel
theorem tyX4_ok : ∀ k, k < 5 → parseFieldDescriptor (TX4 k).2.2.1 = some (tyX4 k) := by decide +kernel
abbrev cX4_init : ByteArray := prog_6_method_1_code
def yX4_init : MethodName := ⟨RX4, "<init>", "()V"⟩
abbrev cX4_clear : ByteArray := prog_6_method_2_code
def yX4_clear : MethodName := ⟨RX4, "clear", "()V"⟩
abbrev cX4_count : ByteArray := prog_6_method_3_code
def yX4_count : MethodName := ⟨RX4, "count", "()I"⟩
abbrev cX4_isFull : ByteArray := prog_6_method_4_code
def yX4_isFull : MethodName := ⟨RX4, "isFull", "()Z"⟩
abbrev cX4_has : ByteArray := prog_6_method_5_code
def yX4_has : MethodName := ⟨RX4, "has", "(I)Z"⟩
abbrev cX4_parentOf : ByteArray := prog_6_method_6_code
def yX4_parentOf : MethodName := ⟨RX4, "parentOf", "(I)I"⟩
abbrev cX4_copyOut : ByteArray := prog_6_method_7_code
def yX4_copyOut : MethodName := ⟨RX4, "copyOut", "(I[I)V"⟩
abbrev cX4_add : ByteArray := prog_6_method_8_code
def yX4_add : MethodName := ⟨RX4, "add", "([II)V"⟩
abbrev cX4_find : ByteArray := prog_6_method_9_code
def yX4_find : MethodName := ⟨RX4, "find", "([I)I"⟩
abbrev cX4_isState : ByteArray := prog_6_method_10_code
def yX4_isState : MethodName := ⟨RX4, "isState", "(I[I)Z"⟩
abbrev cX4_bucketOf : ByteArray := prog_6_method_11_code
def yX4_bucketOf : MethodName := ⟨RX4, "bucketOf", "([I)I"⟩
def RX5 : String := "ProtoCheck$Trace"
def TX5 : u_T := fun k => match k with
  | 0 => ("ProtoCheck$Trace", "way", "[I", true)
  | 1 => ("ProtoCheck$Trace", "fired", "[I", true)
  | 2 => ("ProtoCheck$Trace", "values", "[I", true)
  | _ => ("ProtoCheck$Trace", "steps", "I", false)
def tyX5 : Nat → FieldType := fun k => match k with
  | 0 => .array .int
  | 1 => .array .int
  | 2 => .array .int
  | _ => .int
abbrev wsX50 : List Cond := u_ws RX5 TX5 4
theorem nmX5 : ∀ a, a < 4 → ∀ b, b < 4 → a ≠ b → (TX5 a).2.1 ≠ (TX5 b).2.1 := by decide +kernel
theorem tyX5_ok : ∀ k, k < 4 → parseFieldDescriptor (TX5 k).2.2.1 = some (tyX5 k) := by decide +kernel
abbrev cX5_init : ByteArray := prog_7_method_1_code
def yX5_init : MethodName := ⟨RX5, "<init>", "()V"⟩
abbrev cX5_clear : ByteArray := prog_7_method_2_code
def yX5_clear : MethodName := ⟨RX5, "clear", "()V"⟩
abbrev cX5_steps : ByteArray := prog_7_method_3_code
def yX5_steps : MethodName := ⟨RX5, "steps", "()I"⟩
abbrev cX5_hasState : ByteArray := prog_7_method_4_code
def yX5_hasState : MethodName := ⟨RX5, "hasState", "(I)Z"⟩
abbrev cX5_begin : ByteArray := prog_7_method_5_code
def yX5_begin : MethodName := ⟨RX5, "begin", "([ILProtoCheck$StateStore;)V"⟩
abbrev cX5_stepsTo : ByteArray := prog_7_method_6_code
def yX5_stepsTo : MethodName := ⟨RX5, "stepsTo", "(ILProtoCheck$StateStore;)I"⟩
abbrev cX5_wayAt : ByteArray := prog_7_method_7_code
def yX5_wayAt : MethodName := ⟨RX5, "wayAt", "(I)I"⟩
abbrev cX5_ruleAt : ByteArray := prog_7_method_8_code
def yX5_ruleAt : MethodName := ⟨RX5, "ruleAt", "(I)I"⟩
abbrev cX5_copyOut : ByteArray := prog_7_method_9_code
def yX5_copyOut : MethodName := ⟨RX5, "copyOut", "(I[I)V"⟩
abbrev cX5_putStep : ByteArray := prog_7_method_10_code
def yX5_putStep : MethodName := ⟨RX5, "putStep", "(II[I)V"⟩
def RX6 : String := "ProtoCheck$Word"
def TX6 : u_T := fun k => match k with
  | _ => ("", "", "", false)
def tyX6 : Nat → FieldType := fun k => match k with
  | _ => .int
abbrev wsX60 : List Cond := u_ws RX6 TX6 0
theorem nmX6 : ∀ a, a < 0 → ∀ b, b < 0 → a ≠ b → (TX6 a).2.1 ≠ (TX6 b).2.1 := by decide +kernel
theorem tyX6_ok : ∀ k, k < 0 → parseFieldDescriptor (TX6 k).2.2.1 = some (tyX6 k) := by decide +kernel
abbrev cX6_op : ByteArray := prog_8_method_2_code
def yX6_op : MethodName := ⟨RX6, "op", "(I)I"⟩
abbrev cX6_operand : ByteArray := prog_8_method_3_code
def yX6_operand : MethodName := ⟨RX6, "operand", "(I)I"⟩
abbrev cX6_isWord : ByteArray := prog_8_method_4_code
def yX6_isWord : MethodName := ⟨RX6, "isWord", "(I)Z"⟩
abbrev cX6_exchanged : ByteArray := prog_8_method_5_code
def yX6_exchanged : MethodName := ⟨RX6, "exchanged", "(III)I"⟩
abbrev cX6_heightAfter : ByteArray := prog_8_method_6_code
def yX6_heightAfter : MethodName := ⟨RX6, "heightAfter", "(IIZ)I"⟩
def RX7 : String := "ProtoCheck$WordRow"
def TX7 : u_T := fun k => match k with
  | 0 => ("ProtoCheck$WordRow", "words", "[I", true)
  | _ => ("ProtoCheck$WordRow", "length", "I", false)
def tyX7 : Nat → FieldType := fun k => match k with
  | 0 => .array .int
  | _ => .int
abbrev wsX70 : List Cond := u_ws RX7 TX7 2
theorem nmX7 : ∀ a, a < 2 → ∀ b, b < 2 → a ≠ b → (TX7 a).2.1 ≠ (TX7 b).2.1 := by decide +kernel
theorem tyX7_ok : ∀ k, k < 2 → parseFieldDescriptor (TX7 k).2.2.1 = some (tyX7 k) := by decide +kernel
abbrev cX7_init : ByteArray := prog_9_method_1_code
def yX7_init : MethodName := ⟨RX7, "<init>", "()V"⟩
abbrev cX7_clear : ByteArray := prog_9_method_2_code
def yX7_clear : MethodName := ⟨RX7, "clear", "()V"⟩
abbrev cX7_length : ByteArray := prog_9_method_3_code
def yX7_length : MethodName := ⟨RX7, "length", "()I"⟩
abbrev cX7_isFull : ByteArray := prog_9_method_4_code
def yX7_isFull : MethodName := ⟨RX7, "isFull", "()Z"⟩
abbrev cX7_add : ByteArray := prog_9_method_5_code
def yX7_add : MethodName := ⟨RX7, "add", "(I)V"⟩
abbrev cX7_at : ByteArray := prog_9_method_6_code
def yX7_at : MethodName := ⟨RX7, "at", "(I)I"⟩
abbrev cX7_opAt : ByteArray := prog_9_method_7_code
def yX7_opAt : MethodName := ⟨RX7, "opAt", "(I)I"⟩
abbrev cX7_next : ByteArray := prog_9_method_8_code
def yX7_next : MethodName := ⟨RX7, "next", "(II)I"⟩
abbrev cX7_turnsInto : ByteArray := prog_9_method_9_code
def yX7_turnsInto : MethodName := ⟨RX7, "turnsInto", "(IILProtoCheck$WordRow;III)Z"⟩
def RX8 : String := "ProtoCheck"
def TX8 : u_T := fun k => match k with
  | 0 => ("ProtoCheck", "first", "[I", true)
  | 1 => ("ProtoCheck", "asked", "[I", true)
  | 2 => ("ProtoCheck", "blocks", "LProtoCheck$Blocks;", true)
  | 3 => ("ProtoCheck", "rules", "LProtoCheck$Rules;", true)
  | 4 => ("ProtoCheck", "invariant", "LProtoCheck$Invariant;", true)
  | 5 => ("ProtoCheck", "machine", "LProtoCheck$Machine;", true)
  | 6 => ("ProtoCheck", "store", "LProtoCheck$StateStore;", true)
  | 7 => ("ProtoCheck", "trace", "LProtoCheck$Trace;", true)
  | 8 => ("ProtoCheck", "before", "[I", true)
  | 9 => ("ProtoCheck", "after", "[I", true)
  | 10 => ("ProtoCheck", "form", "[I", true)
  | 11 => ("ProtoCheck", "sealed", "Z", false)
  | 12 => ("ProtoCheck", "violated", "Z", false)
  | 13 => ("ProtoCheck", "outOfRoom", "Z", false)
  | _ => ("ProtoCheck", "expanded", "I", false)
def tyX8 : Nat → FieldType := fun k => match k with
  | 0 => .array .int
  | 1 => .array .int
  | 2 => .object "ProtoCheck$Blocks"
  | 3 => .object "ProtoCheck$Rules"
  | 4 => .object "ProtoCheck$Invariant"
  | 5 => .object "ProtoCheck$Machine"
  | 6 => .object "ProtoCheck$StateStore"
  | 7 => .object "ProtoCheck$Trace"
  | 8 => .array .int
  | 9 => .array .int
  | 10 => .array .int
  | 11 => .boolean
  | 12 => .boolean
  | 13 => .boolean
  | _ => .int
abbrev wsX80 : List Cond := u_ws RX8 TX8 15
theorem nmX8 : ∀ a, a < 15 → ∀ b, b < 15 → a ≠ b → (TX8 a).2.1 ≠ (TX8 b).2.1 := by decide +kernel
theorem tyX8_ok : ∀ k, k < 15 → parseFieldDescriptor (TX8 k).2.2.1 = some (tyX8 k) := by decide +kernel
abbrev cX8_init : ByteArray := prog_1_method_1_code
def yX8_init : MethodName := ⟨RX8, "<init>", "()V"⟩
abbrev cX8_init_ : ByteArray := prog_1_method_2_code
def yX8_init_ : MethodName := ⟨RX8, "init", "()V"⟩
abbrev cX8_setInit : ByteArray := prog_1_method_3_code
def yX8_setInit : MethodName := ⟨RX8, "setInit", "(II)I"⟩
abbrev cX8_setSymGroup : ByteArray := prog_1_method_4_code
def yX8_setSymGroup : MethodName := ⟨RX8, "setSymGroup", "(II)I"⟩
abbrev cX8_beginRule : ByteArray := prog_1_method_5_code
def yX8_beginRule : MethodName := ⟨RX8, "beginRule", "()I"⟩
abbrev cX8_feedRule : ByteArray := prog_1_method_6_code
def yX8_feedRule : MethodName := ⟨RX8, "feedRule", "(I)I"⟩
abbrev cX8_feedInvariant : ByteArray := prog_1_method_7_code
def yX8_feedInvariant : MethodName := ⟨RX8, "feedInvariant", "(I)I"⟩
abbrev cX8_seal : ByteArray := prog_1_method_8_code
def yX8_seal : MethodName := ⟨RX8, "seal", "()I"⟩
abbrev cX8_explore : ByteArray := prog_1_method_9_code
def yX8_explore : MethodName := ⟨RX8, "explore", "(I)I"⟩
abbrev cX8_verdict : ByteArray := prog_1_method_10_code
def yX8_verdict : MethodName := ⟨RX8, "verdict", "()I"⟩
abbrev cX8_stateCount : ByteArray := prog_1_method_11_code
def yX8_stateCount : MethodName := ⟨RX8, "stateCount", "()I"⟩
abbrev cX8_traceLen : ByteArray := prog_1_method_12_code
def yX8_traceLen : MethodName := ⟨RX8, "traceLen", "()I"⟩
abbrev cX8_traceRule : ByteArray := prog_1_method_13_code
def yX8_traceRule : MethodName := ⟨RX8, "traceRule", "(I)I"⟩
abbrev cX8_traceVar : ByteArray := prog_1_method_14_code
def yX8_traceVar : MethodName := ⟨RX8, "traceVar", "(II)I"⟩
abbrev cX8_replay : ByteArray := prog_1_method_15_code
def yX8_replay : MethodName := ⟨RX8, "replay", "()I"⟩
abbrev cX8_probeVar : ByteArray := prog_1_method_16_code
def yX8_probeVar : MethodName := ⟨RX8, "probeVar", "(II)I"⟩
abbrev cX8_isReachable : ByteArray := prog_1_method_17_code
def yX8_isReachable : MethodName := ⟨RX8, "isReachable", "()I"⟩
abbrev cX8_isVariable : ByteArray := prog_1_method_18_code
def yX8_isVariable : MethodName := ⟨RX8, "isVariable", "(I)Z"⟩
abbrev cX8_copyState : ByteArray := prog_1_method_19_code
def yX8_copyState : MethodName := ⟨RX8, "copyState", "([I[I)V"⟩
abbrev cX8_feed : ByteArray := prog_1_method_20_code
def yX8_feed : MethodName := ⟨RX8, "feed", "(LProtoCheck$WordRow;I)I"⟩
abbrev cX8_blocksAreRight : ByteArray := prog_1_method_21_code
def yX8_blocksAreRight : MethodName := ⟨RX8, "blocksAreRight", "()Z"⟩
abbrev cX8_allExpanded : ByteArray := prog_1_method_22_code
def yX8_allExpanded : MethodName := ⟨RX8, "allExpanded", "()Z"⟩
abbrev cX8_expandNext : ByteArray := prog_1_method_23_code
def yX8_expandNext : MethodName := ⟨RX8, "expandNext", "()V"⟩
abbrev cX8_fires : ByteArray := prog_1_method_24_code
def yX8_fires : MethodName := ⟨RX8, "fires", "(LProtoCheck$WordRow;)Z"⟩
abbrev cX8_storeForm : ByteArray := prog_1_method_25_code
def yX8_storeForm : MethodName := ⟨RX8, "storeForm", "(I)V"⟩
abbrev cX8_layTrace : ByteArray := prog_1_method_26_code
def yX8_layTrace : MethodName := ⟨RX8, "layTrace", "()V"⟩
def RX9 : String := "ProtoCheckModel"
def TX9 : u_T := fun k => match k with
  | 0 => ("ProtoCheckModel", "first", "[I", true)
  | 1 => ("ProtoCheckModel", "block", "[I", true)
  | 2 => ("ProtoCheckModel", "probe", "[I", true)
  | 3 => ("ProtoCheckModel", "rule", "[I", true)
  | 4 => ("ProtoCheckModel", "length", "[I", true)
  | 5 => ("ProtoCheckModel", "invariant", "[I", true)
  | 6 => ("ProtoCheckModel", "stored", "[I", true)
  | 7 => ("ProtoCheckModel", "parent", "[I", true)
  | 8 => ("ProtoCheckModel", "here", "[I", true)
  | 9 => ("ProtoCheckModel", "after", "[I", true)
  | 10 => ("ProtoCheckModel", "normal", "[I", true)
  | 11 => ("ProtoCheckModel", "stack", "[I", true)
  | 12 => ("ProtoCheckModel", "rules", "I", false)
  | 13 => ("ProtoCheckModel", "words", "I", false)
  | 14 => ("ProtoCheckModel", "count", "I", false)
  | 15 => ("ProtoCheckModel", "expanded", "I", false)
  | 16 => ("ProtoCheckModel", "breaking", "I", false)
  | 17 => ("ProtoCheckModel", "sealed", "Z", false)
  | _ => ("ProtoCheckModel", "full", "Z", false)
def tyX9 : Nat → FieldType := fun k => match k with
  | 0 => .array .int
  | 1 => .array .int
  | 2 => .array .int
  | 3 => .array .int
  | 4 => .array .int
  | 5 => .array .int
  | 6 => .array .int
  | 7 => .array .int
  | 8 => .array .int
  | 9 => .array .int
  | 10 => .array .int
  | 11 => .array .int
  | 12 => .int
  | 13 => .int
  | 14 => .int
  | 15 => .int
  | 16 => .int
  | 17 => .boolean
  | _ => .boolean
abbrev wsX90 : List Cond := u_ws RX9 TX9 19
theorem nmX9 : ∀ a, a < 19 → ∀ b, b < 19 → a ≠ b → (TX9 a).2.1 ≠ (TX9 b).2.1 := by decide +kernel
theorem tyX9_ok : ∀ k, k < 19 → parseFieldDescriptor (TX9 k).2.2.1 = some (tyX9 k) := by decide +kernel
abbrev cX9_init : ByteArray := prog_11_method_1_code
def yX9_init : MethodName := ⟨RX9, "<init>", "()V"⟩
abbrev cX9_init_ : ByteArray := prog_11_method_2_code
def yX9_init_ : MethodName := ⟨RX9, "init", "()V"⟩
abbrev cX9_isVariable : ByteArray := prog_11_method_3_code
def yX9_isVariable : MethodName := ⟨RX9, "isVariable", "(I)Z"⟩
abbrev cX9_setInit : ByteArray := prog_11_method_4_code
def yX9_setInit : MethodName := ⟨RX9, "setInit", "(II)I"⟩
abbrev cX9_setSymGroup : ByteArray := prog_11_method_5_code
def yX9_setSymGroup : MethodName := ⟨RX9, "setSymGroup", "(II)I"⟩
abbrev cX9_beginRule : ByteArray := prog_11_method_6_code
def yX9_beginRule : MethodName := ⟨RX9, "beginRule", "()I"⟩
abbrev cX9_isWord : ByteArray := prog_11_method_7_code
def yX9_isWord : MethodName := ⟨RX9, "isWord", "(I)Z"⟩
abbrev cX9_feedRule : ByteArray := prog_11_method_8_code
def yX9_feedRule : MethodName := ⟨RX9, "feedRule", "(I)I"⟩
abbrev cX9_feedInvariant : ByteArray := prog_11_method_9_code
def yX9_feedInvariant : MethodName := ⟨RX9, "feedInvariant", "(I)I"⟩
abbrev cX9_height : ByteArray := prog_11_method_10_code
def yX9_height : MethodName := ⟨RX9, "height", "(II)I"⟩
abbrev cX9_ruleIsRight : ByteArray := prog_11_method_11_code
def yX9_ruleIsRight : MethodName := ⟨RX9, "ruleIsRight", "(I)Z"⟩
abbrev cX9_invariantIsRight : ByteArray := prog_11_method_12_code
def yX9_invariantIsRight : MethodName := ⟨RX9, "invariantIsRight", "()Z"⟩
abbrev cX9_exchanged : ByteArray := prog_11_method_13_code
def yX9_exchanged : MethodName := ⟨RX9, "exchanged", "(III)I"⟩
abbrev cX9_becomesRule : ByteArray := prog_11_method_14_code
def yX9_becomesRule : MethodName := ⟨RX9, "becomesRule", "(IIII)Z"⟩
abbrev cX9_isRuleAgain : ByteArray := prog_11_method_15_code
def yX9_isRuleAgain : MethodName := ⟨RX9, "isRuleAgain", "(III)Z"⟩
abbrev cX9_end : ByteArray := prog_11_method_16_code
def yX9_end : MethodName := ⟨RX9, "end", "(I)I"⟩
abbrev cX9_begins : ByteArray := prog_11_method_17_code
def yX9_begins : MethodName := ⟨RX9, "begins", "(I)Z"⟩
abbrev cX9_becomesPart : ByteArray := prog_11_method_18_code
def yX9_becomesPart : MethodName := ⟨RX9, "becomesPart", "(IIII)Z"⟩
abbrev cX9_isPartAgain : ByteArray := prog_11_method_19_code
def yX9_isPartAgain : MethodName := ⟨RX9, "isPartAgain", "(III)Z"⟩
abbrev cX9_mayExchange : ByteArray := prog_11_method_20_code
def yX9_mayExchange : MethodName := ⟨RX9, "mayExchange", "(II)Z"⟩
abbrev cX9_blocksAreRight : ByteArray := prog_11_method_21_code
def yX9_blocksAreRight : MethodName := ⟨RX9, "blocksAreRight", "()Z"⟩
abbrev cX9_two : ByteArray := prog_11_method_22_code
def yX9_two : MethodName := ⟨RX9, "two", "(III)I"⟩
abbrev cX9_done : ByteArray := prog_11_method_23_code
def yX9_done : MethodName := ⟨RX9, "done", "(II)I"⟩
abbrev cX9_holds : ByteArray := prog_11_method_24_code
def yX9_holds : MethodName := ⟨RX9, "holds", "()Z"⟩
abbrev cX9_fires : ByteArray := prog_11_method_25_code
def yX9_fires : MethodName := ⟨RX9, "fires", "(I)Z"⟩
abbrev cX9_place : ByteArray := prog_11_method_26_code
def yX9_place : MethodName := ⟨RX9, "place", "(I)I"⟩
abbrev cX9_inOrder : ByteArray := prog_11_method_27_code
def yX9_inOrder : MethodName := ⟨RX9, "inOrder", "(I)I"⟩
abbrev cX9_standardise : ByteArray := prog_11_method_28_code
def yX9_standardise : MethodName := ⟨RX9, "standardise", "()V"⟩
abbrev cX9_isNormal : ByteArray := prog_11_method_29_code
def yX9_isNormal : MethodName := ⟨RX9, "isNormal", "(I)Z"⟩
abbrev cX9_isStored : ByteArray := prog_11_method_30_code
def yX9_isStored : MethodName := ⟨RX9, "isStored", "()Z"⟩
abbrev cX9_store : ByteArray := prog_11_method_31_code
def yX9_store : MethodName := ⟨RX9, "store", "(I)V"⟩
abbrev cX9_seal : ByteArray := prog_11_method_32_code
def yX9_seal : MethodName := ⟨RX9, "seal", "()I"⟩
abbrev cX9_expand : ByteArray := prog_11_method_33_code
def yX9_expand : MethodName := ⟨RX9, "expand", "()V"⟩
abbrev cX9_explore : ByteArray := prog_11_method_34_code
def yX9_explore : MethodName := ⟨RX9, "explore", "(I)I"⟩
abbrev cX9_verdict : ByteArray := prog_11_method_35_code
def yX9_verdict : MethodName := ⟨RX9, "verdict", "()I"⟩
abbrev cX9_stateCount : ByteArray := prog_11_method_36_code
def yX9_stateCount : MethodName := ⟨RX9, "stateCount", "()I"⟩
abbrev cX9_traceLen : ByteArray := prog_11_method_37_code
def yX9_traceLen : MethodName := ⟨RX9, "traceLen", "()I"⟩
abbrev cX9_onWay : ByteArray := prog_11_method_38_code
def yX9_onWay : MethodName := ⟨RX9, "onWay", "(I)I"⟩
abbrev cX9_fired : ByteArray := prog_11_method_39_code
def yX9_fired : MethodName := ⟨RX9, "fired", "(I)I"⟩
abbrev cX9_follow : ByteArray := prog_11_method_40_code
def yX9_follow : MethodName := ⟨RX9, "follow", "(I)V"⟩
abbrev cX9_traceRule : ByteArray := prog_11_method_41_code
def yX9_traceRule : MethodName := ⟨RX9, "traceRule", "(I)I"⟩
abbrev cX9_traceVar : ByteArray := prog_11_method_42_code
def yX9_traceVar : MethodName := ⟨RX9, "traceVar", "(II)I"⟩
abbrev cX9_replay : ByteArray := prog_11_method_43_code
def yX9_replay : MethodName := ⟨RX9, "replay", "()I"⟩
abbrev cX9_probeVar : ByteArray := prog_11_method_44_code
def yX9_probeVar : MethodName := ⟨RX9, "probeVar", "(II)I"⟩
abbrev cX9_isReachable : ByteArray := prog_11_method_45_code
def yX9_isReachable : MethodName := ⟨RX9, "isReachable", "()I"⟩
def RJ9 : String := "java/lang/Math"
def TJ9 : u_T := fun k => match k with
  | _ => ("", "", "", false)
def tyJ9 : Nat → FieldType := fun k => match k with
  | _ => .int
abbrev wsJ90 : List Cond := u_ws RJ9 TJ9 0
theorem nmJ9 : ∀ a, a < 0 → ∀ b, b < 0 → a ≠ b → (TJ9 a).2.1 ≠ (TJ9 b).2.1 := by decide +kernel
theorem tyJ9_ok : ∀ k, k < 0 → parseFieldDescriptor (TJ9 k).2.2.1 = some (tyJ9 k) := by decide +kernel
abbrev cJ9_min_7cf53 : ByteArray := prog_12_method_69_code
def yJ9_min_7cf53 : MethodName := ⟨RJ9, "min", "(II)I"⟩
def RJ10 : String := "java/lang/System"
def TJ10 : u_T := fun k => match k with
  | _ => ("", "", "", false)
def tyJ10 : Nat → FieldType := fun k => match k with
  | _ => .int
abbrev wsJ100 : List Cond := u_ws RJ10 TJ10 0
theorem nmJ10 : ∀ a, a < 0 → ∀ b, b < 0 → a ≠ b → (TJ10 a).2.1 ≠ (TJ10 b).2.1 := by decide +kernel
theorem tyJ10_ok : ∀ k, k < 0 → parseFieldDescriptor (TJ10 k).2.2.1 = some (tyJ10 k) := by decide +kernel
def RJ7 : String := "java/util/Arrays"
def TJ7 : u_T := fun k => match k with
  | _ => ("", "", "", false)
def tyJ7 : Nat → FieldType := fun k => match k with
  | _ => .int
abbrev wsJ70 : List Cond := u_ws RJ7 TJ7 0
theorem nmJ7 : ∀ a, a < 0 → ∀ b, b < 0 → a ≠ b → (TJ7 a).2.1 ≠ (TJ7 b).2.1 := by decide +kernel
theorem tyJ7_ok : ∀ k, k < 0 → parseFieldDescriptor (TJ7 k).2.2.1 = some (tyJ7 k) := by decide +kernel
abbrev cJ7_fill_53178 : ByteArray := prog_14_method_103_code
def yJ7_fill_53178 : MethodName := ⟨RJ7, "fill", "([II)V"⟩
def RL : String := "ProtoCheckLaw"
abbrev cL_law : ByteArray := code
def yL_law : MethodName := ⟨RL, "law", "([I)Z"⟩
abbrev vwCl : List vw_C := [(RX0, TX0, 1), (RX1, TX1, 1), (RX2, TX2, 2), (RX3, TX3, 3), (RX4, TX4, 5), (RX5, TX5, 4), (RX7, TX7, 2), (RX8, TX8, 15), (RX9, TX9, 19)]
end
section
theorem dX0_init_0 : decode cX0_init 0 = .ok (.aload_n 0, 1) := by decide +kernel
theorem dX0_init_1 : decode cX0_init 1 = .ok (.invokespecial 3, 3) := by decide +kernel
theorem dX0_init_4 : decode cX0_init 4 = .ok (.aload_n 0, 1) := by decide +kernel
theorem dX0_init_5 : decode cX0_init 5 = .ok (.bipush 6, 2) := by decide +kernel
theorem dX0_init_7 : decode cX0_init 7 = .ok (.newarray .int, 2) := by decide +kernel
theorem dX0_init_9 : decode cX0_init 9 = .ok (.putfield 9, 3) := by decide +kernel
theorem dX0_init_12 : decode cX0_init 12 = .ok (.return_, 1) := by decide +kernel
theorem dX0_clear_0 : decode cX0_clear 0 = .ok (.aload_n 0, 1) := by decide +kernel
theorem dX0_clear_1 : decode cX0_clear 1 = .ok (.getfield 9, 3) := by decide +kernel
theorem dX0_clear_4 : decode cX0_clear 4 = .ok (.iconst 0, 1) := by decide +kernel
theorem dX0_clear_5 : decode cX0_clear 5 = .ok (.invokestatic 15, 3) := by decide +kernel
theorem dX0_clear_8 : decode cX0_clear 8 = .ok (.return_, 1) := by decide +kernel
theorem dX0_put_0 : decode cX0_put 0 = .ok (.iload_n 1, 1) := by decide +kernel
theorem dX0_put_1 : decode cX0_put 1 = .ok (.invokestatic 21, 3) := by decide +kernel
theorem dX0_put_4 : decode cX0_put 4 = .ok (.ifCond .eq 10, 3) := by decide +kernel
theorem dX0_put_7 : decode cX0_put 7 = .ok (.aload_n 0, 1) := by decide +kernel
theorem dX0_put_8 : decode cX0_put 8 = .ok (.getfield 9, 3) := by decide +kernel
theorem dX0_put_11 : decode cX0_put 11 = .ok (.iload_n 1, 1) := by decide +kernel
theorem dX0_put_12 : decode cX0_put 12 = .ok (.iload_n 2, 1) := by decide +kernel
theorem dX0_put_13 : decode cX0_put 13 = .ok (.iastore, 1) := by decide +kernel
theorem dX0_put_14 : decode cX0_put 14 = .ok (.return_, 1) := by decide +kernel
theorem dX0_join_0 : decode cX0_join 0 = .ok (.iload_n 1, 1) := by decide +kernel
theorem dX0_join_1 : decode cX0_join 1 = .ok (.invokestatic 21, 3) := by decide +kernel
theorem dX0_join_4 : decode cX0_join 4 = .ok (.ifCond .eq 38, 3) := by decide +kernel
theorem dX0_join_7 : decode cX0_join 7 = .ok (.iload_n 2, 1) := by decide +kernel
theorem dX0_join_8 : decode cX0_join 8 = .ok (.invokestatic 21, 3) := by decide +kernel
theorem dX0_join_11 : decode cX0_join 11 = .ok (.ifCond .eq 31, 3) := by decide +kernel
theorem dX0_join_14 : decode cX0_join 14 = .ok (.aload_n 0, 1) := by decide +kernel
theorem dX0_join_15 : decode cX0_join 15 = .ok (.getfield 9, 3) := by decide +kernel
theorem dX0_join_18 : decode cX0_join 18 = .ok (.iload_n 1, 1) := by decide +kernel
theorem dX0_join_19 : decode cX0_join 19 = .ok (.iaload, 1) := by decide +kernel
theorem dX0_join_20 : decode cX0_join 20 = .ok (.ifCond .eq 22, 3) := by decide +kernel
theorem dX0_join_23 : decode cX0_join 23 = .ok (.aload_n 0, 1) := by decide +kernel
theorem dX0_join_24 : decode cX0_join 24 = .ok (.getfield 9, 3) := by decide +kernel
theorem dX0_join_27 : decode cX0_join 27 = .ok (.iload_n 1, 1) := by decide +kernel
theorem dX0_join_28 : decode cX0_join 28 = .ok (.iaload, 1) := by decide +kernel
theorem dX0_join_29 : decode cX0_join 29 = .ok (.aload_n 0, 1) := by decide +kernel
theorem dX0_join_30 : decode cX0_join 30 = .ok (.getfield 9, 3) := by decide +kernel
theorem dX0_join_33 : decode cX0_join 33 = .ok (.iload_n 2, 1) := by decide +kernel
theorem dX0_join_34 : decode cX0_join 34 = .ok (.iaload, 1) := by decide +kernel
theorem dX0_join_35 : decode cX0_join 35 = .ok (.if_icmp .ne 7, 3) := by decide +kernel
theorem dX0_join_38 : decode cX0_join 38 = .ok (.iconst 1, 1) := by decide +kernel
theorem dX0_join_39 : decode cX0_join 39 = .ok (.goto 4, 3) := by decide +kernel
theorem dX0_join_42 : decode cX0_join 42 = .ok (.iconst 0, 1) := by decide +kernel
theorem dX0_join_43 : decode cX0_join 43 = .ok (.ireturn, 1) := by decide +kernel
theorem dX0_toStandardForm_0 : decode cX0_toStandardForm 0 = .ok (.iconst 0, 1) := by decide +kernel
theorem dX0_toStandardForm_1 : decode cX0_toStandardForm 1 = .ok (.istore_n 2, 1) := by decide +kernel
theorem dX0_toStandardForm_2 : decode cX0_toStandardForm 2 = .ok (.iload_n 2, 1) := by decide +kernel
theorem dX0_toStandardForm_3 : decode cX0_toStandardForm 3 = .ok (.bipush 6, 2) := by decide +kernel
theorem dX0_toStandardForm_5 : decode cX0_toStandardForm 5 = .ok (.if_icmp .ge 59, 3) := by decide +kernel
theorem dX0_toStandardForm_8 : decode cX0_toStandardForm 8 = .ok (.iload_n 2, 1) := by decide +kernel
theorem dX0_toStandardForm_9 : decode cX0_toStandardForm 9 = .ok (.iconst 1, 1) := by decide +kernel
theorem dX0_toStandardForm_10 : decode cX0_toStandardForm 10 = .ok (.iadd, 1) := by decide +kernel
theorem dX0_toStandardForm_11 : decode cX0_toStandardForm 11 = .ok (.istore_n 3, 1) := by decide +kernel
theorem dX0_toStandardForm_12 : decode cX0_toStandardForm 12 = .ok (.iload_n 3, 1) := by decide +kernel
theorem dX0_toStandardForm_13 : decode cX0_toStandardForm 13 = .ok (.bipush 6, 2) := by decide +kernel
theorem dX0_toStandardForm_15 : decode cX0_toStandardForm 15 = .ok (.if_icmp .ge 43, 3) := by decide +kernel
theorem dX0_toStandardForm_18 : decode cX0_toStandardForm 18 = .ok (.aload_n 0, 1) := by decide +kernel
theorem dX0_toStandardForm_19 : decode cX0_toStandardForm 19 = .ok (.iload_n 2, 1) := by decide +kernel
theorem dX0_toStandardForm_20 : decode cX0_toStandardForm 20 = .ok (.iload_n 3, 1) := by decide +kernel
theorem dX0_toStandardForm_21 : decode cX0_toStandardForm 21 = .ok (.invokevirtual 25, 3) := by decide +kernel
theorem dX0_toStandardForm_24 : decode cX0_toStandardForm 24 = .ok (.ifCond .eq 28, 3) := by decide +kernel
theorem dX0_toStandardForm_27 : decode cX0_toStandardForm 27 = .ok (.aload_n 1, 1) := by decide +kernel
theorem dX0_toStandardForm_28 : decode cX0_toStandardForm 28 = .ok (.iload_n 2, 1) := by decide +kernel
theorem dX0_toStandardForm_29 : decode cX0_toStandardForm 29 = .ok (.iaload, 1) := by decide +kernel
theorem dX0_toStandardForm_30 : decode cX0_toStandardForm 30 = .ok (.aload_n 1, 1) := by decide +kernel
theorem dX0_toStandardForm_31 : decode cX0_toStandardForm 31 = .ok (.iload_n 3, 1) := by decide +kernel
theorem dX0_toStandardForm_32 : decode cX0_toStandardForm 32 = .ok (.iaload, 1) := by decide +kernel
theorem dX0_toStandardForm_33 : decode cX0_toStandardForm 33 = .ok (.if_icmp .le 19, 3) := by decide +kernel
theorem dX0_toStandardForm_36 : decode cX0_toStandardForm 36 = .ok (.aload_n 1, 1) := by decide +kernel
theorem dX0_toStandardForm_37 : decode cX0_toStandardForm 37 = .ok (.iload_n 2, 1) := by decide +kernel
theorem dX0_toStandardForm_38 : decode cX0_toStandardForm 38 = .ok (.iaload, 1) := by decide +kernel
theorem dX0_toStandardForm_39 : decode cX0_toStandardForm 39 = .ok (.istore 4, 2) := by decide +kernel
theorem dX0_toStandardForm_41 : decode cX0_toStandardForm 41 = .ok (.aload_n 1, 1) := by decide +kernel
theorem dX0_toStandardForm_42 : decode cX0_toStandardForm 42 = .ok (.iload_n 2, 1) := by decide +kernel
theorem dX0_toStandardForm_43 : decode cX0_toStandardForm 43 = .ok (.aload_n 1, 1) := by decide +kernel
theorem dX0_toStandardForm_44 : decode cX0_toStandardForm 44 = .ok (.iload_n 3, 1) := by decide +kernel
theorem dX0_toStandardForm_45 : decode cX0_toStandardForm 45 = .ok (.iaload, 1) := by decide +kernel
theorem dX0_toStandardForm_46 : decode cX0_toStandardForm 46 = .ok (.iastore, 1) := by decide +kernel
theorem dX0_toStandardForm_47 : decode cX0_toStandardForm 47 = .ok (.aload_n 1, 1) := by decide +kernel
theorem dX0_toStandardForm_48 : decode cX0_toStandardForm 48 = .ok (.iload_n 3, 1) := by decide +kernel
theorem dX0_toStandardForm_49 : decode cX0_toStandardForm 49 = .ok (.iload 4, 2) := by decide +kernel
theorem dX0_toStandardForm_51 : decode cX0_toStandardForm 51 = .ok (.iastore, 1) := by decide +kernel
theorem dX0_toStandardForm_52 : decode cX0_toStandardForm 52 = .ok (.iinc 3 1, 3) := by decide +kernel
theorem dX0_toStandardForm_55 : decode cX0_toStandardForm 55 = .ok (.goto (-43), 3) := by decide +kernel
theorem dX0_toStandardForm_58 : decode cX0_toStandardForm 58 = .ok (.iinc 2 1, 3) := by decide +kernel
theorem dX0_toStandardForm_61 : decode cX0_toStandardForm 61 = .ok (.goto (-59), 3) := by decide +kernel
theorem dX0_toStandardForm_64 : decode cX0_toStandardForm 64 = .ok (.return_, 1) := by decide +kernel
theorem dX1_init_0 : decode cX1_init 0 = .ok (.aload_n 0, 1) := by decide +kernel
theorem dX1_init_1 : decode cX1_init 1 = .ok (.invokespecial 3, 3) := by decide +kernel
theorem dX1_init_4 : decode cX1_init 4 = .ok (.aload_n 0, 1) := by decide +kernel
theorem dX1_init_5 : decode cX1_init 5 = .ok (.new 9, 3) := by decide +kernel
theorem dX1_init_8 : decode cX1_init 8 = .ok (.dup, 1) := by decide +kernel
theorem dX1_init_9 : decode cX1_init 9 = .ok (.invokespecial 11, 3) := by decide +kernel
theorem dX1_init_12 : decode cX1_init 12 = .ok (.putfield 12, 3) := by decide +kernel
theorem dX1_init_15 : decode cX1_init 15 = .ok (.return_, 1) := by decide +kernel
theorem dX1_isRight_0 : decode cX1_isRight 0 = .ok (.iconst 0, 1) := by decide +kernel
theorem dX1_isRight_1 : decode cX1_isRight 1 = .ok (.istore_n 1, 1) := by decide +kernel
theorem dX1_isRight_2 : decode cX1_isRight 2 = .ok (.iconst 0, 1) := by decide +kernel
theorem dX1_isRight_3 : decode cX1_isRight 3 = .ok (.istore_n 2, 1) := by decide +kernel
theorem dX1_isRight_4 : decode cX1_isRight 4 = .ok (.iload_n 2, 1) := by decide +kernel
theorem dX1_isRight_5 : decode cX1_isRight 5 = .ok (.aload_n 0, 1) := by decide +kernel
theorem dX1_isRight_6 : decode cX1_isRight 6 = .ok (.getfield 12, 3) := by decide +kernel
theorem dX1_isRight_9 : decode cX1_isRight 9 = .ok (.invokevirtual 18, 3) := by decide +kernel
theorem dX1_isRight_12 : decode cX1_isRight 12 = .ok (.if_icmp .ge 55, 3) := by decide +kernel
theorem dX1_isRight_15 : decode cX1_isRight 15 = .ok (.aload_n 0, 1) := by decide +kernel
theorem dX1_isRight_16 : decode cX1_isRight 16 = .ok (.getfield 12, 3) := by decide +kernel
theorem dX1_isRight_19 : decode cX1_isRight 19 = .ok (.iload_n 2, 1) := by decide +kernel
theorem dX1_isRight_20 : decode cX1_isRight 20 = .ok (.invokevirtual 22, 3) := by decide +kernel
theorem dX1_isRight_23 : decode cX1_isRight 23 = .ok (.bipush 12, 2) := by decide +kernel
theorem dX1_isRight_25 : decode cX1_isRight 25 = .ok (.if_icmp .ne 15, 3) := by decide +kernel
theorem dX1_isRight_28 : decode cX1_isRight 28 = .ok (.iload_n 1, 1) := by decide +kernel
theorem dX1_isRight_29 : decode cX1_isRight 29 = .ok (.iconst 1, 1) := by decide +kernel
theorem dX1_isRight_30 : decode cX1_isRight 30 = .ok (.if_icmp .eq 5, 3) := by decide +kernel
theorem dX1_isRight_33 : decode cX1_isRight 33 = .ok (.iconst 0, 1) := by decide +kernel
theorem dX1_isRight_34 : decode cX1_isRight 34 = .ok (.ireturn, 1) := by decide +kernel
theorem dX1_isRight_35 : decode cX1_isRight 35 = .ok (.iconst 0, 1) := by decide +kernel
theorem dX1_isRight_36 : decode cX1_isRight 36 = .ok (.istore_n 1, 1) := by decide +kernel
theorem dX1_isRight_37 : decode cX1_isRight 37 = .ok (.goto 17, 3) := by decide +kernel
theorem dX1_isRight_40 : decode cX1_isRight 40 = .ok (.iload_n 1, 1) := by decide +kernel
theorem dX1_isRight_41 : decode cX1_isRight 41 = .ok (.aload_n 0, 1) := by decide +kernel
theorem dX1_isRight_42 : decode cX1_isRight 42 = .ok (.getfield 12, 3) := by decide +kernel
theorem dX1_isRight_45 : decode cX1_isRight 45 = .ok (.iload_n 2, 1) := by decide +kernel
theorem dX1_isRight_46 : decode cX1_isRight 46 = .ok (.invokevirtual 22, 3) := by decide +kernel
theorem dX1_isRight_49 : decode cX1_isRight 49 = .ok (.iconst 0, 1) := by decide +kernel
theorem dX1_isRight_50 : decode cX1_isRight 50 = .ok (.invokestatic 26, 3) := by decide +kernel
theorem dX1_isRight_53 : decode cX1_isRight 53 = .ok (.istore_n 1, 1) := by decide +kernel
theorem dX1_isRight_54 : decode cX1_isRight 54 = .ok (.iload_n 1, 1) := by decide +kernel
theorem dX1_isRight_55 : decode cX1_isRight 55 = .ok (.iconst (-1), 1) := by decide +kernel
theorem dX1_isRight_56 : decode cX1_isRight 56 = .ok (.if_icmp .ne 5, 3) := by decide +kernel
theorem dX1_isRight_59 : decode cX1_isRight 59 = .ok (.iconst 0, 1) := by decide +kernel
theorem dX1_isRight_60 : decode cX1_isRight 60 = .ok (.ireturn, 1) := by decide +kernel
theorem dX1_isRight_61 : decode cX1_isRight 61 = .ok (.iinc 2 1, 3) := by decide +kernel
theorem dX1_isRight_64 : decode cX1_isRight 64 = .ok (.goto (-60), 3) := by decide +kernel
theorem dX1_isRight_67 : decode cX1_isRight 67 = .ok (.iload_n 1, 1) := by decide +kernel
theorem dX1_isRight_68 : decode cX1_isRight 68 = .ok (.iconst 1, 1) := by decide +kernel
theorem dX1_isRight_69 : decode cX1_isRight 69 = .ok (.if_icmp .ne 7, 3) := by decide +kernel
theorem dX1_isRight_72 : decode cX1_isRight 72 = .ok (.iconst 1, 1) := by decide +kernel
theorem dX1_isRight_73 : decode cX1_isRight 73 = .ok (.goto 4, 3) := by decide +kernel
theorem dX1_isRight_76 : decode cX1_isRight 76 = .ok (.iconst 0, 1) := by decide +kernel
theorem dX1_isRight_77 : decode cX1_isRight 77 = .ok (.ireturn, 1) := by decide +kernel
theorem dX1_isPartStart_0 : decode cX1_isPartStart 0 = .ok (.iload_n 1, 1) := by decide +kernel
theorem dX1_isPartStart_1 : decode cX1_isPartStart 1 = .ok (.ifCond .eq 18, 3) := by decide +kernel
theorem dX1_isPartStart_4 : decode cX1_isPartStart 4 = .ok (.aload_n 0, 1) := by decide +kernel
theorem dX1_isPartStart_5 : decode cX1_isPartStart 5 = .ok (.getfield 12, 3) := by decide +kernel
theorem dX1_isPartStart_8 : decode cX1_isPartStart 8 = .ok (.iload_n 1, 1) := by decide +kernel
theorem dX1_isPartStart_9 : decode cX1_isPartStart 9 = .ok (.iconst 1, 1) := by decide +kernel
theorem dX1_isPartStart_10 : decode cX1_isPartStart 10 = .ok (.isub, 1) := by decide +kernel
theorem dX1_isPartStart_11 : decode cX1_isPartStart 11 = .ok (.invokevirtual 22, 3) := by decide +kernel
theorem dX1_isPartStart_14 : decode cX1_isPartStart 14 = .ok (.bipush 12, 2) := by decide +kernel
theorem dX1_isPartStart_16 : decode cX1_isPartStart 16 = .ok (.if_icmp .ne 7, 3) := by decide +kernel
theorem dX1_isPartStart_19 : decode cX1_isPartStart 19 = .ok (.iconst 1, 1) := by decide +kernel
theorem dX1_isPartStart_20 : decode cX1_isPartStart 20 = .ok (.goto 4, 3) := by decide +kernel
theorem dX1_isPartStart_23 : decode cX1_isPartStart 23 = .ok (.iconst 0, 1) := by decide +kernel
theorem dX1_isPartStart_24 : decode cX1_isPartStart 24 = .ok (.ireturn, 1) := by decide +kernel
theorem dX1_partEnd_0 : decode cX1_partEnd 0 = .ok (.aload_n 0, 1) := by decide +kernel
theorem dX1_partEnd_1 : decode cX1_partEnd 1 = .ok (.getfield 12, 3) := by decide +kernel
theorem dX1_partEnd_4 : decode cX1_partEnd 4 = .ok (.bipush 12, 2) := by decide +kernel
theorem dX1_partEnd_6 : decode cX1_partEnd 6 = .ok (.iload_n 1, 1) := by decide +kernel
theorem dX1_partEnd_7 : decode cX1_partEnd 7 = .ok (.invokevirtual 32, 3) := by decide +kernel
theorem dX1_partEnd_10 : decode cX1_partEnd 10 = .ok (.ireturn, 1) := by decide +kernel
theorem dX1_bearsExchange_0 : decode cX1_bearsExchange 0 = .ok (.iconst 0, 1) := by decide +kernel
theorem dX1_bearsExchange_1 : decode cX1_bearsExchange 1 = .ok (.istore_n 3, 1) := by decide +kernel
theorem dX1_bearsExchange_2 : decode cX1_bearsExchange 2 = .ok (.iload_n 3, 1) := by decide +kernel
theorem dX1_bearsExchange_3 : decode cX1_bearsExchange 3 = .ok (.aload_n 0, 1) := by decide +kernel
theorem dX1_bearsExchange_4 : decode cX1_bearsExchange 4 = .ok (.getfield 12, 3) := by decide +kernel
theorem dX1_bearsExchange_7 : decode cX1_bearsExchange 7 = .ok (.invokevirtual 18, 3) := by decide +kernel
theorem dX1_bearsExchange_10 : decode cX1_bearsExchange 10 = .ok (.if_icmp .ge 29, 3) := by decide +kernel
theorem dX1_bearsExchange_13 : decode cX1_bearsExchange 13 = .ok (.aload_n 0, 1) := by decide +kernel
theorem dX1_bearsExchange_14 : decode cX1_bearsExchange 14 = .ok (.iload_n 3, 1) := by decide +kernel
theorem dX1_bearsExchange_15 : decode cX1_bearsExchange 15 = .ok (.invokevirtual 36, 3) := by decide +kernel
theorem dX1_bearsExchange_18 : decode cX1_bearsExchange 18 = .ok (.ifCond .eq 15, 3) := by decide +kernel
theorem dX1_bearsExchange_21 : decode cX1_bearsExchange 21 = .ok (.aload_n 0, 1) := by decide +kernel
theorem dX1_bearsExchange_22 : decode cX1_bearsExchange 22 = .ok (.iload_n 3, 1) := by decide +kernel
theorem dX1_bearsExchange_23 : decode cX1_bearsExchange 23 = .ok (.iload_n 1, 1) := by decide +kernel
theorem dX1_bearsExchange_24 : decode cX1_bearsExchange 24 = .ok (.iload_n 2, 1) := by decide +kernel
theorem dX1_bearsExchange_25 : decode cX1_bearsExchange 25 = .ok (.invokevirtual 40, 3) := by decide +kernel
theorem dX1_bearsExchange_28 : decode cX1_bearsExchange 28 = .ok (.ifCond .ne 5, 3) := by decide +kernel
theorem dX1_bearsExchange_31 : decode cX1_bearsExchange 31 = .ok (.iconst 0, 1) := by decide +kernel
theorem dX1_bearsExchange_32 : decode cX1_bearsExchange 32 = .ok (.ireturn, 1) := by decide +kernel
theorem dX1_bearsExchange_33 : decode cX1_bearsExchange 33 = .ok (.iinc 3 1, 3) := by decide +kernel
theorem dX1_bearsExchange_36 : decode cX1_bearsExchange 36 = .ok (.goto (-34), 3) := by decide +kernel
theorem dX1_bearsExchange_39 : decode cX1_bearsExchange 39 = .ok (.iconst 1, 1) := by decide +kernel
theorem dX1_bearsExchange_40 : decode cX1_bearsExchange 40 = .ok (.ireturn, 1) := by decide +kernel
theorem dX1_hasExchanged_0 : decode cX1_hasExchanged 0 = .ok (.aload_n 0, 1) := by decide +kernel
theorem dX1_hasExchanged_1 : decode cX1_hasExchanged 1 = .ok (.iload_n 1, 1) := by decide +kernel
theorem dX1_hasExchanged_2 : decode cX1_hasExchanged 2 = .ok (.invokevirtual 44, 3) := by decide +kernel
theorem dX1_hasExchanged_5 : decode cX1_hasExchanged 5 = .ok (.iload_n 1, 1) := by decide +kernel
theorem dX1_hasExchanged_6 : decode cX1_hasExchanged 6 = .ok (.isub, 1) := by decide +kernel
theorem dX1_hasExchanged_7 : decode cX1_hasExchanged 7 = .ok (.istore 4, 2) := by decide +kernel
theorem dX1_hasExchanged_9 : decode cX1_hasExchanged 9 = .ok (.iconst 0, 1) := by decide +kernel
theorem dX1_hasExchanged_10 : decode cX1_hasExchanged 10 = .ok (.istore 5, 2) := by decide +kernel
theorem dX1_hasExchanged_12 : decode cX1_hasExchanged 12 = .ok (.iload 5, 2) := by decide +kernel
theorem dX1_hasExchanged_14 : decode cX1_hasExchanged 14 = .ok (.aload_n 0, 1) := by decide +kernel
theorem dX1_hasExchanged_15 : decode cX1_hasExchanged 15 = .ok (.getfield 12, 3) := by decide +kernel
theorem dX1_hasExchanged_18 : decode cX1_hasExchanged 18 = .ok (.invokevirtual 18, 3) := by decide +kernel
theorem dX1_hasExchanged_21 : decode cX1_hasExchanged 21 = .ok (.if_icmp .ge 55, 3) := by decide +kernel
theorem dX1_hasExchanged_24 : decode cX1_hasExchanged 24 = .ok (.aload_n 0, 1) := by decide +kernel
theorem dX1_hasExchanged_25 : decode cX1_hasExchanged 25 = .ok (.iload 5, 2) := by decide +kernel
theorem dX1_hasExchanged_27 : decode cX1_hasExchanged 27 = .ok (.invokevirtual 36, 3) := by decide +kernel
theorem dX1_hasExchanged_30 : decode cX1_hasExchanged 30 = .ok (.ifCond .eq 40, 3) := by decide +kernel
theorem dX1_hasExchanged_33 : decode cX1_hasExchanged 33 = .ok (.aload_n 0, 1) := by decide +kernel
theorem dX1_hasExchanged_34 : decode cX1_hasExchanged 34 = .ok (.iload 5, 2) := by decide +kernel
theorem dX1_hasExchanged_36 : decode cX1_hasExchanged 36 = .ok (.invokevirtual 44, 3) := by decide +kernel
theorem dX1_hasExchanged_39 : decode cX1_hasExchanged 39 = .ok (.iload 5, 2) := by decide +kernel
theorem dX1_hasExchanged_41 : decode cX1_hasExchanged 41 = .ok (.isub, 1) := by decide +kernel
theorem dX1_hasExchanged_42 : decode cX1_hasExchanged 42 = .ok (.iload 4, 2) := by decide +kernel
theorem dX1_hasExchanged_44 : decode cX1_hasExchanged 44 = .ok (.if_icmp .ne 26, 3) := by decide +kernel
theorem dX1_hasExchanged_47 : decode cX1_hasExchanged 47 = .ok (.aload_n 0, 1) := by decide +kernel
theorem dX1_hasExchanged_48 : decode cX1_hasExchanged 48 = .ok (.getfield 12, 3) := by decide +kernel
theorem dX1_hasExchanged_51 : decode cX1_hasExchanged 51 = .ok (.iload_n 1, 1) := by decide +kernel
theorem dX1_hasExchanged_52 : decode cX1_hasExchanged 52 = .ok (.iload 4, 2) := by decide +kernel
theorem dX1_hasExchanged_54 : decode cX1_hasExchanged 54 = .ok (.aload_n 0, 1) := by decide +kernel
theorem dX1_hasExchanged_55 : decode cX1_hasExchanged 55 = .ok (.getfield 12, 3) := by decide +kernel
theorem dX1_hasExchanged_58 : decode cX1_hasExchanged 58 = .ok (.iload 5, 2) := by decide +kernel
theorem dX1_hasExchanged_60 : decode cX1_hasExchanged 60 = .ok (.iload_n 2, 1) := by decide +kernel
theorem dX1_hasExchanged_61 : decode cX1_hasExchanged 61 = .ok (.iload_n 3, 1) := by decide +kernel
theorem dX1_hasExchanged_62 : decode cX1_hasExchanged 62 = .ok (.invokevirtual 47, 3) := by decide +kernel
theorem dX1_hasExchanged_65 : decode cX1_hasExchanged 65 = .ok (.ifCond .eq 5, 3) := by decide +kernel
theorem dX1_hasExchanged_68 : decode cX1_hasExchanged 68 = .ok (.iconst 1, 1) := by decide +kernel
theorem dX1_hasExchanged_69 : decode cX1_hasExchanged 69 = .ok (.ireturn, 1) := by decide +kernel
theorem dX1_hasExchanged_70 : decode cX1_hasExchanged 70 = .ok (.iinc 5 1, 3) := by decide +kernel
theorem dX1_hasExchanged_73 : decode cX1_hasExchanged 73 = .ok (.goto (-61), 3) := by decide +kernel
theorem dX1_hasExchanged_76 : decode cX1_hasExchanged 76 = .ok (.iconst 0, 1) := by decide +kernel
theorem dX1_hasExchanged_77 : decode cX1_hasExchanged 77 = .ok (.ireturn, 1) := by decide +kernel
theorem dX2_init_0 : decode cX2_init 0 = .ok (.aload_n 0, 1) := by decide +kernel
theorem dX2_init_1 : decode cX2_init 1 = .ok (.invokespecial 3, 3) := by decide +kernel
theorem dX2_init_4 : decode cX2_init 4 = .ok (.aload_n 0, 1) := by decide +kernel
theorem dX2_init_5 : decode cX2_init 5 = .ok (.bipush 8, 2) := by decide +kernel
theorem dX2_init_7 : decode cX2_init 7 = .ok (.newarray .int, 2) := by decide +kernel
theorem dX2_init_9 : decode cX2_init 9 = .ok (.putfield 9, 3) := by decide +kernel
theorem dX2_init_12 : decode cX2_init 12 = .ok (.return_, 1) := by decide +kernel
theorem dX2_mayFire_0 : decode cX2_mayFire 0 = .ok (.aload_n 0, 1) := by decide +kernel
theorem dX2_mayFire_1 : decode cX2_mayFire 1 = .ok (.aload_n 1, 1) := by decide +kernel
theorem dX2_mayFire_2 : decode cX2_mayFire 2 = .ok (.iconst 0, 1) := by decide +kernel
theorem dX2_mayFire_3 : decode cX2_mayFire 3 = .ok (.aload_n 1, 1) := by decide +kernel
theorem dX2_mayFire_4 : decode cX2_mayFire 4 = .ok (.bipush 10, 2) := by decide +kernel
theorem dX2_mayFire_6 : decode cX2_mayFire 6 = .ok (.iconst 0, 1) := by decide +kernel
theorem dX2_mayFire_7 : decode cX2_mayFire 7 = .ok (.invokevirtual 15, 3) := by decide +kernel
theorem dX2_mayFire_10 : decode cX2_mayFire 10 = .ok (.aload_n 2, 1) := by decide +kernel
theorem dX2_mayFire_11 : decode cX2_mayFire 11 = .ok (.aload_n 2, 1) := by decide +kernel
theorem dX2_mayFire_12 : decode cX2_mayFire 12 = .ok (.invokevirtual 21, 3) := by decide +kernel
theorem dX2_mayFire_15 : decode cX2_mayFire 15 = .ok (.ifCond .eq 7, 3) := by decide +kernel
theorem dX2_mayFire_18 : decode cX2_mayFire 18 = .ok (.iconst 1, 1) := by decide +kernel
theorem dX2_mayFire_19 : decode cX2_mayFire 19 = .ok (.goto 4, 3) := by decide +kernel
theorem dX2_mayFire_22 : decode cX2_mayFire 22 = .ok (.iconst 0, 1) := by decide +kernel
theorem dX2_mayFire_23 : decode cX2_mayFire 23 = .ok (.ireturn, 1) := by decide +kernel
theorem dX2_fire_0 : decode cX2_fire 0 = .ok (.aload_n 2, 1) := by decide +kernel
theorem dX2_fire_1 : decode cX2_fire 1 = .ok (.aload_n 3, 1) := by decide +kernel
theorem dX2_fire_2 : decode cX2_fire 2 = .ok (.invokestatic 25, 3) := by decide +kernel
theorem dX2_fire_5 : decode cX2_fire 5 = .ok (.aload_n 0, 1) := by decide +kernel
theorem dX2_fire_6 : decode cX2_fire 6 = .ok (.aload_n 1, 1) := by decide +kernel
theorem dX2_fire_7 : decode cX2_fire 7 = .ok (.aload_n 1, 1) := by decide +kernel
theorem dX2_fire_8 : decode cX2_fire 8 = .ok (.bipush 10, 2) := by decide +kernel
theorem dX2_fire_10 : decode cX2_fire 10 = .ok (.iconst 0, 1) := by decide +kernel
theorem dX2_fire_11 : decode cX2_fire 11 = .ok (.invokevirtual 15, 3) := by decide +kernel
theorem dX2_fire_14 : decode cX2_fire 14 = .ok (.iconst 1, 1) := by decide +kernel
theorem dX2_fire_15 : decode cX2_fire 15 = .ok (.iadd, 1) := by decide +kernel
theorem dX2_fire_16 : decode cX2_fire 16 = .ok (.aload_n 1, 1) := by decide +kernel
theorem dX2_fire_17 : decode cX2_fire 17 = .ok (.invokevirtual 29, 3) := by decide +kernel
theorem dX2_fire_20 : decode cX2_fire 20 = .ok (.aload_n 2, 1) := by decide +kernel
theorem dX2_fire_21 : decode cX2_fire 21 = .ok (.aload_n 3, 1) := by decide +kernel
theorem dX2_fire_22 : decode cX2_fire 22 = .ok (.invokevirtual 21, 3) := by decide +kernel
theorem dX2_fire_25 : decode cX2_fire 25 = .ok (.pop, 1) := by decide +kernel
theorem dX2_fire_26 : decode cX2_fire 26 = .ok (.return_, 1) := by decide +kernel
theorem dX2_holds_0 : decode cX2_holds 0 = .ok (.aload_n 1, 1) := by decide +kernel
theorem dX2_holds_1 : decode cX2_holds 1 = .ok (.getfield 33, 3) := by decide +kernel
theorem dX2_holds_4 : decode cX2_holds 4 = .ok (.astore_n 3, 1) := by decide +kernel
theorem dX2_holds_5 : decode cX2_holds 5 = .ok (.iconst 0, 1) := by decide +kernel
theorem dX2_holds_6 : decode cX2_holds 6 = .ok (.istore 4, 2) := by decide +kernel
theorem dX2_holds_8 : decode cX2_holds 8 = .ok (.iload 4, 2) := by decide +kernel
theorem dX2_holds_10 : decode cX2_holds 10 = .ok (.aload_n 3, 1) := by decide +kernel
theorem dX2_holds_11 : decode cX2_holds 11 = .ok (.invokevirtual 29, 3) := by decide +kernel
theorem dX2_holds_14 : decode cX2_holds 14 = .ok (.if_icmp .ge 38, 3) := by decide +kernel
theorem dX2_holds_17 : decode cX2_holds 17 = .ok (.aload_n 1, 1) := by decide +kernel
theorem dX2_holds_18 : decode cX2_holds 18 = .ok (.iload 4, 2) := by decide +kernel
theorem dX2_holds_20 : decode cX2_holds 20 = .ok (.invokevirtual 39, 3) := by decide +kernel
theorem dX2_holds_23 : decode cX2_holds 23 = .ok (.ifCond .eq 23, 3) := by decide +kernel
theorem dX2_holds_26 : decode cX2_holds 26 = .ok (.aload_n 0, 1) := by decide +kernel
theorem dX2_holds_27 : decode cX2_holds 27 = .ok (.aload_n 3, 1) := by decide +kernel
theorem dX2_holds_28 : decode cX2_holds 28 = .ok (.iload 4, 2) := by decide +kernel
theorem dX2_holds_30 : decode cX2_holds 30 = .ok (.aload_n 1, 1) := by decide +kernel
theorem dX2_holds_31 : decode cX2_holds 31 = .ok (.iload 4, 2) := by decide +kernel
theorem dX2_holds_33 : decode cX2_holds 33 = .ok (.invokevirtual 43, 3) := by decide +kernel
theorem dX2_holds_36 : decode cX2_holds 36 = .ok (.aload_n 2, 1) := by decide +kernel
theorem dX2_holds_37 : decode cX2_holds 37 = .ok (.aload_n 2, 1) := by decide +kernel
theorem dX2_holds_38 : decode cX2_holds 38 = .ok (.invokevirtual 21, 3) := by decide +kernel
theorem dX2_holds_41 : decode cX2_holds 41 = .ok (.ifCond .ne 5, 3) := by decide +kernel
theorem dX2_holds_44 : decode cX2_holds 44 = .ok (.iconst 0, 1) := by decide +kernel
theorem dX2_holds_45 : decode cX2_holds 45 = .ok (.ireturn, 1) := by decide +kernel
theorem dX2_holds_46 : decode cX2_holds 46 = .ok (.iinc 4 1, 3) := by decide +kernel
theorem dX2_holds_49 : decode cX2_holds 49 = .ok (.goto (-41), 3) := by decide +kernel
theorem dX2_holds_52 : decode cX2_holds 52 = .ok (.iconst 1, 1) := by decide +kernel
theorem dX2_holds_53 : decode cX2_holds 53 = .ok (.ireturn, 1) := by decide +kernel
theorem dX2_run_0 : decode cX2_run 0 = .ok (.aload_n 0, 1) := by decide +kernel
theorem dX2_run_1 : decode cX2_run 1 = .ok (.iconst 0, 1) := by decide +kernel
theorem dX2_run_2 : decode cX2_run 2 = .ok (.putfield 47, 3) := by decide +kernel
theorem dX2_run_5 : decode cX2_run 5 = .ok (.iload_n 2, 1) := by decide +kernel
theorem dX2_run_6 : decode cX2_run 6 = .ok (.istore 6, 2) := by decide +kernel
theorem dX2_run_8 : decode cX2_run 8 = .ok (.iload 6, 2) := by decide +kernel
theorem dX2_run_10 : decode cX2_run 10 = .ok (.iload_n 3, 1) := by decide +kernel
theorem dX2_run_11 : decode cX2_run 11 = .ok (.if_icmp .ge 23, 3) := by decide +kernel
theorem dX2_run_14 : decode cX2_run 14 = .ok (.aload_n 0, 1) := by decide +kernel
theorem dX2_run_15 : decode cX2_run 15 = .ok (.aload_n 1, 1) := by decide +kernel
theorem dX2_run_16 : decode cX2_run 16 = .ok (.iload 6, 2) := by decide +kernel
theorem dX2_run_18 : decode cX2_run 18 = .ok (.invokevirtual 51, 3) := by decide +kernel
theorem dX2_run_21 : decode cX2_run 21 = .ok (.aload 4, 2) := by decide +kernel
theorem dX2_run_23 : decode cX2_run 23 = .ok (.aload 5, 2) := by decide +kernel
theorem dX2_run_25 : decode cX2_run 25 = .ok (.invokevirtual 54, 3) := by decide +kernel
theorem dX2_run_28 : decode cX2_run 28 = .ok (.iinc 6 1, 3) := by decide +kernel
theorem dX2_run_31 : decode cX2_run 31 = .ok (.goto (-23), 3) := by decide +kernel
theorem dX2_run_34 : decode cX2_run 34 = .ok (.aload_n 0, 1) := by decide +kernel
theorem dX2_run_35 : decode cX2_run 35 = .ok (.invokevirtual 58, 3) := by decide +kernel
theorem dX2_run_38 : decode cX2_run 38 = .ok (.ireturn, 1) := by decide +kernel
theorem dX2_step_0 : decode cX2_step 0 = .ok (.iload_n 1, 1) := by decide +kernel
theorem dX2_step_1 : decode cX2_step 1 = .ok (.invokestatic 61, 3) := by decide +kernel
theorem dX2_step_4 : decode cX2_step 4 = .ok (.istore 4, 2) := by decide +kernel
theorem dX2_step_6 : decode cX2_step 6 = .ok (.iload_n 1, 1) := by decide +kernel
theorem dX2_step_7 : decode cX2_step 7 = .ok (.invokestatic 66, 3) := by decide +kernel
theorem dX2_step_10 : decode cX2_step 10 = .ok (.istore 5, 2) := by decide +kernel
theorem dX2_step_12 : decode cX2_step 12 = .ok (.iload 4, 2) := by decide +kernel
theorem dX2_step_14 : decode cX2_step 14 = .ok (.ifCond .ne 12, 3) := by decide +kernel
theorem dX2_step_17 : decode cX2_step 17 = .ok (.aload_n 0, 1) := by decide +kernel
theorem dX2_step_18 : decode cX2_step 18 = .ok (.iload 5, 2) := by decide +kernel
theorem dX2_step_20 : decode cX2_step 20 = .ok (.invokevirtual 69, 3) := by decide +kernel
theorem dX2_step_23 : decode cX2_step 23 = .ok (.goto 113, 3) := by decide +kernel
theorem dX2_step_26 : decode cX2_step 26 = .ok (.iload 4, 2) := by decide +kernel
theorem dX2_step_28 : decode cX2_step 28 = .ok (.iconst 1, 1) := by decide +kernel
theorem dX2_step_29 : decode cX2_step 29 = .ok (.if_icmp .ne 26, 3) := by decide +kernel
theorem dX2_step_32 : decode cX2_step 32 = .ok (.aload_n 0, 1) := by decide +kernel
theorem dX2_step_33 : decode cX2_step 33 = .ok (.iload 5, 2) := by decide +kernel
theorem dX2_step_35 : decode cX2_step 35 = .ok (.invokestatic 73, 3) := by decide +kernel
theorem dX2_step_38 : decode cX2_step 38 = .ok (.ifCond .eq 10, 3) := by decide +kernel
theorem dX2_step_41 : decode cX2_step 41 = .ok (.aload_n 2, 1) := by decide +kernel
theorem dX2_step_42 : decode cX2_step 42 = .ok (.iload 5, 2) := by decide +kernel
theorem dX2_step_44 : decode cX2_step 44 = .ok (.iaload, 1) := by decide +kernel
theorem dX2_step_45 : decode cX2_step 45 = .ok (.goto 4, 3) := by decide +kernel
theorem dX2_step_48 : decode cX2_step 48 = .ok (.iconst 0, 1) := by decide +kernel
theorem dX2_step_49 : decode cX2_step 49 = .ok (.invokevirtual 69, 3) := by decide +kernel
theorem dX2_step_52 : decode cX2_step 52 = .ok (.goto 84, 3) := by decide +kernel
theorem dX2_step_55 : decode cX2_step 55 = .ok (.iload 4, 2) := by decide +kernel
theorem dX2_step_57 : decode cX2_step 57 = .ok (.bipush 9, 2) := by decide +kernel
theorem dX2_step_59 : decode cX2_step 59 = .ok (.if_icmp .ne 22, 3) := by decide +kernel
theorem dX2_step_62 : decode cX2_step 62 = .ok (.aload_n 0, 1) := by decide +kernel
theorem dX2_step_63 : decode cX2_step 63 = .ok (.aload_n 0, 1) := by decide +kernel
theorem dX2_step_64 : decode cX2_step 64 = .ok (.invokevirtual 58, 3) := by decide +kernel
theorem dX2_step_67 : decode cX2_step 67 = .ok (.ifCond .ne 7, 3) := by decide +kernel
theorem dX2_step_70 : decode cX2_step 70 = .ok (.iconst 1, 1) := by decide +kernel
theorem dX2_step_71 : decode cX2_step 71 = .ok (.goto 4, 3) := by decide +kernel
theorem dX2_step_74 : decode cX2_step 74 = .ok (.iconst 0, 1) := by decide +kernel
theorem dX2_step_75 : decode cX2_step 75 = .ok (.invokevirtual 69, 3) := by decide +kernel
theorem dX2_step_78 : decode cX2_step 78 = .ok (.goto 58, 3) := by decide +kernel
theorem dX2_step_81 : decode cX2_step 81 = .ok (.iload 4, 2) := by decide +kernel
theorem dX2_step_83 : decode cX2_step 83 = .ok (.bipush 11, 2) := by decide +kernel
theorem dX2_step_85 : decode cX2_step 85 = .ok (.if_icmp .ne 26, 3) := by decide +kernel
theorem dX2_step_88 : decode cX2_step 88 = .ok (.aload_n 0, 1) := by decide +kernel
theorem dX2_step_89 : decode cX2_step 89 = .ok (.invokevirtual 58, 3) := by decide +kernel
theorem dX2_step_92 : decode cX2_step 92 = .ok (.istore 6, 2) := by decide +kernel
theorem dX2_step_94 : decode cX2_step 94 = .ok (.iload 5, 2) := by decide +kernel
theorem dX2_step_96 : decode cX2_step 96 = .ok (.invokestatic 73, 3) := by decide +kernel
theorem dX2_step_99 : decode cX2_step 99 = .ok (.ifCond .eq 9, 3) := by decide +kernel
theorem dX2_step_102 : decode cX2_step 102 = .ok (.aload_n 3, 1) := by decide +kernel
theorem dX2_step_103 : decode cX2_step 103 = .ok (.iload 5, 2) := by decide +kernel
theorem dX2_step_105 : decode cX2_step 105 = .ok (.iload 6, 2) := by decide +kernel
theorem dX2_step_107 : decode cX2_step 107 = .ok (.iastore, 1) := by decide +kernel
theorem dX2_step_108 : decode cX2_step 108 = .ok (.goto 28, 3) := by decide +kernel
theorem dX2_step_111 : decode cX2_step 111 = .ok (.aload_n 0, 1) := by decide +kernel
theorem dX2_step_112 : decode cX2_step 112 = .ok (.invokevirtual 58, 3) := by decide +kernel
theorem dX2_step_115 : decode cX2_step 115 = .ok (.istore 6, 2) := by decide +kernel
theorem dX2_step_117 : decode cX2_step 117 = .ok (.aload_n 0, 1) := by decide +kernel
theorem dX2_step_118 : decode cX2_step 118 = .ok (.invokevirtual 58, 3) := by decide +kernel
theorem dX2_step_121 : decode cX2_step 121 = .ok (.istore 7, 2) := by decide +kernel
theorem dX2_step_123 : decode cX2_step 123 = .ok (.aload_n 0, 1) := by decide +kernel
theorem dX2_step_124 : decode cX2_step 124 = .ok (.iload 4, 2) := by decide +kernel
theorem dX2_step_126 : decode cX2_step 126 = .ok (.iload 7, 2) := by decide +kernel
theorem dX2_step_128 : decode cX2_step 128 = .ok (.iload 6, 2) := by decide +kernel
theorem dX2_step_130 : decode cX2_step 130 = .ok (.invokestatic 76, 3) := by decide +kernel
theorem dX2_step_133 : decode cX2_step 133 = .ok (.invokevirtual 69, 3) := by decide +kernel
theorem dX2_step_136 : decode cX2_step 136 = .ok (.return_, 1) := by decide +kernel
theorem dX2_joined_0 : decode cX2_joined 0 = .ok (.iload_n 0, 1) := by decide +kernel
theorem dX2_joined_1 : decode cX2_joined 1 = .ok (.tableswitch 85 2 8 #[43, 47, 51, 55, 66, 77, 81], 43) := by decide +kernel
theorem dX2_joined_44 : decode cX2_joined 44 = .ok (.iload_n 1, 1) := by decide +kernel
theorem dX2_joined_45 : decode cX2_joined 45 = .ok (.iload_n 2, 1) := by decide +kernel
theorem dX2_joined_46 : decode cX2_joined 46 = .ok (.iadd, 1) := by decide +kernel
theorem dX2_joined_47 : decode cX2_joined 47 = .ok (.ireturn, 1) := by decide +kernel
theorem dX2_joined_48 : decode cX2_joined 48 = .ok (.iload_n 1, 1) := by decide +kernel
theorem dX2_joined_49 : decode cX2_joined 49 = .ok (.iload_n 2, 1) := by decide +kernel
theorem dX2_joined_50 : decode cX2_joined 50 = .ok (.isub, 1) := by decide +kernel
theorem dX2_joined_51 : decode cX2_joined 51 = .ok (.ireturn, 1) := by decide +kernel
theorem dX2_joined_52 : decode cX2_joined 52 = .ok (.iload_n 1, 1) := by decide +kernel
theorem dX2_joined_53 : decode cX2_joined 53 = .ok (.iload_n 2, 1) := by decide +kernel
theorem dX2_joined_54 : decode cX2_joined 54 = .ok (.imul, 1) := by decide +kernel
theorem dX2_joined_55 : decode cX2_joined 55 = .ok (.ireturn, 1) := by decide +kernel
theorem dX2_joined_56 : decode cX2_joined 56 = .ok (.iload_n 1, 1) := by decide +kernel
theorem dX2_joined_57 : decode cX2_joined 57 = .ok (.iload_n 2, 1) := by decide +kernel
theorem dX2_joined_58 : decode cX2_joined 58 = .ok (.if_icmp .ne 7, 3) := by decide +kernel
theorem dX2_joined_61 : decode cX2_joined 61 = .ok (.iconst 1, 1) := by decide +kernel
theorem dX2_joined_62 : decode cX2_joined 62 = .ok (.goto 4, 3) := by decide +kernel
theorem dX2_joined_65 : decode cX2_joined 65 = .ok (.iconst 0, 1) := by decide +kernel
theorem dX2_joined_66 : decode cX2_joined 66 = .ok (.ireturn, 1) := by decide +kernel
theorem dX2_joined_67 : decode cX2_joined 67 = .ok (.iload_n 1, 1) := by decide +kernel
theorem dX2_joined_68 : decode cX2_joined 68 = .ok (.iload_n 2, 1) := by decide +kernel
theorem dX2_joined_69 : decode cX2_joined 69 = .ok (.if_icmp .ge 7, 3) := by decide +kernel
theorem dX2_joined_72 : decode cX2_joined 72 = .ok (.iconst 1, 1) := by decide +kernel
theorem dX2_joined_73 : decode cX2_joined 73 = .ok (.goto 4, 3) := by decide +kernel
theorem dX2_joined_76 : decode cX2_joined 76 = .ok (.iconst 0, 1) := by decide +kernel
theorem dX2_joined_77 : decode cX2_joined 77 = .ok (.ireturn, 1) := by decide +kernel
theorem dX2_joined_78 : decode cX2_joined 78 = .ok (.iload_n 1, 1) := by decide +kernel
theorem dX2_joined_79 : decode cX2_joined 79 = .ok (.iload_n 2, 1) := by decide +kernel
theorem dX2_joined_80 : decode cX2_joined 80 = .ok (.iand, 1) := by decide +kernel
theorem dX2_joined_81 : decode cX2_joined 81 = .ok (.ireturn, 1) := by decide +kernel
theorem dX2_joined_82 : decode cX2_joined 82 = .ok (.iload_n 1, 1) := by decide +kernel
theorem dX2_joined_83 : decode cX2_joined 83 = .ok (.iload_n 2, 1) := by decide +kernel
theorem dX2_joined_84 : decode cX2_joined 84 = .ok (.ior, 1) := by decide +kernel
theorem dX2_joined_85 : decode cX2_joined 85 = .ok (.ireturn, 1) := by decide +kernel
theorem dX2_joined_86 : decode cX2_joined 86 = .ok (.iconst 0, 1) := by decide +kernel
theorem dX2_joined_87 : decode cX2_joined 87 = .ok (.ireturn, 1) := by decide +kernel
theorem dX2_push_0 : decode cX2_push 0 = .ok (.aload_n 0, 1) := by decide +kernel
theorem dX2_push_1 : decode cX2_push 1 = .ok (.getfield 47, 3) := by decide +kernel
theorem dX2_push_4 : decode cX2_push 4 = .ok (.ifCond .lt 32, 3) := by decide +kernel
theorem dX2_push_7 : decode cX2_push 7 = .ok (.aload_n 0, 1) := by decide +kernel
theorem dX2_push_8 : decode cX2_push 8 = .ok (.getfield 47, 3) := by decide +kernel
theorem dX2_push_11 : decode cX2_push 11 = .ok (.bipush 8, 2) := by decide +kernel
theorem dX2_push_13 : decode cX2_push 13 = .ok (.if_icmp .ge 23, 3) := by decide +kernel
theorem dX2_push_16 : decode cX2_push 16 = .ok (.aload_n 0, 1) := by decide +kernel
theorem dX2_push_17 : decode cX2_push 17 = .ok (.getfield 9, 3) := by decide +kernel
theorem dX2_push_20 : decode cX2_push 20 = .ok (.aload_n 0, 1) := by decide +kernel
theorem dX2_push_21 : decode cX2_push 21 = .ok (.getfield 47, 3) := by decide +kernel
theorem dX2_push_24 : decode cX2_push 24 = .ok (.iload_n 1, 1) := by decide +kernel
theorem dX2_push_25 : decode cX2_push 25 = .ok (.iastore, 1) := by decide +kernel
theorem dX2_push_26 : decode cX2_push 26 = .ok (.aload_n 0, 1) := by decide +kernel
theorem dX2_push_27 : decode cX2_push 27 = .ok (.dup, 1) := by decide +kernel
theorem dX2_push_28 : decode cX2_push 28 = .ok (.getfield 47, 3) := by decide +kernel
theorem dX2_push_31 : decode cX2_push 31 = .ok (.iconst 1, 1) := by decide +kernel
theorem dX2_push_32 : decode cX2_push 32 = .ok (.iadd, 1) := by decide +kernel
theorem dX2_push_33 : decode cX2_push 33 = .ok (.putfield 47, 3) := by decide +kernel
theorem dX2_push_36 : decode cX2_push 36 = .ok (.return_, 1) := by decide +kernel
theorem dX2_pop_0 : decode cX2_pop 0 = .ok (.aload_n 0, 1) := by decide +kernel
theorem dX2_pop_1 : decode cX2_pop 1 = .ok (.getfield 47, 3) := by decide +kernel
theorem dX2_pop_4 : decode cX2_pop 4 = .ok (.iconst 1, 1) := by decide +kernel
theorem dX2_pop_5 : decode cX2_pop 5 = .ok (.if_icmp .lt 12, 3) := by decide +kernel
theorem dX2_pop_8 : decode cX2_pop 8 = .ok (.aload_n 0, 1) := by decide +kernel
theorem dX2_pop_9 : decode cX2_pop 9 = .ok (.getfield 47, 3) := by decide +kernel
theorem dX2_pop_12 : decode cX2_pop 12 = .ok (.bipush 8, 2) := by decide +kernel
theorem dX2_pop_14 : decode cX2_pop 14 = .ok (.if_icmp .le 5, 3) := by decide +kernel
theorem dX2_pop_17 : decode cX2_pop 17 = .ok (.iconst 0, 1) := by decide +kernel
theorem dX2_pop_18 : decode cX2_pop 18 = .ok (.ireturn, 1) := by decide +kernel
theorem dX2_pop_19 : decode cX2_pop 19 = .ok (.aload_n 0, 1) := by decide +kernel
theorem dX2_pop_20 : decode cX2_pop 20 = .ok (.dup, 1) := by decide +kernel
theorem dX2_pop_21 : decode cX2_pop 21 = .ok (.getfield 47, 3) := by decide +kernel
theorem dX2_pop_24 : decode cX2_pop 24 = .ok (.iconst 1, 1) := by decide +kernel
theorem dX2_pop_25 : decode cX2_pop 25 = .ok (.isub, 1) := by decide +kernel
theorem dX2_pop_26 : decode cX2_pop 26 = .ok (.putfield 47, 3) := by decide +kernel
theorem dX2_pop_29 : decode cX2_pop 29 = .ok (.aload_n 0, 1) := by decide +kernel
theorem dX2_pop_30 : decode cX2_pop 30 = .ok (.getfield 9, 3) := by decide +kernel
theorem dX2_pop_33 : decode cX2_pop 33 = .ok (.aload_n 0, 1) := by decide +kernel
theorem dX2_pop_34 : decode cX2_pop 34 = .ok (.getfield 47, 3) := by decide +kernel
theorem dX2_pop_37 : decode cX2_pop 37 = .ok (.iaload, 1) := by decide +kernel
theorem dX2_pop_38 : decode cX2_pop 38 = .ok (.ireturn, 1) := by decide +kernel
theorem dX3_init_0 : decode cX3_init 0 = .ok (.aload_n 0, 1) := by decide +kernel
theorem dX3_init_1 : decode cX3_init 1 = .ok (.invokespecial 3, 3) := by decide +kernel
theorem dX3_init_4 : decode cX3_init 4 = .ok (.aload_n 0, 1) := by decide +kernel
theorem dX3_init_5 : decode cX3_init 5 = .ok (.bipush 12, 2) := by decide +kernel
theorem dX3_init_7 : decode cX3_init 7 = .ok (.anewarray 9, 3) := by decide +kernel
theorem dX3_init_10 : decode cX3_init 10 = .ok (.putfield 11, 3) := by decide +kernel
theorem dX3_init_13 : decode cX3_init 13 = .ok (.aload_n 0, 1) := by decide +kernel
theorem dX3_init_14 : decode cX3_init 14 = .ok (.new 9, 3) := by decide +kernel
theorem dX3_init_17 : decode cX3_init 17 = .ok (.dup, 1) := by decide +kernel
theorem dX3_init_18 : decode cX3_init 18 = .ok (.invokespecial 17, 3) := by decide +kernel
theorem dX3_init_21 : decode cX3_init 21 = .ok (.putfield 18, 3) := by decide +kernel
theorem dX3_init_24 : decode cX3_init 24 = .ok (.iconst 0, 1) := by decide +kernel
theorem dX3_init_25 : decode cX3_init 25 = .ok (.istore_n 1, 1) := by decide +kernel
theorem dX3_init_26 : decode cX3_init 26 = .ok (.iload_n 1, 1) := by decide +kernel
theorem dX3_init_27 : decode cX3_init 27 = .ok (.bipush 12, 2) := by decide +kernel
theorem dX3_init_29 : decode cX3_init 29 = .ok (.if_icmp .ge 22, 3) := by decide +kernel
theorem dX3_init_32 : decode cX3_init 32 = .ok (.aload_n 0, 1) := by decide +kernel
theorem dX3_init_33 : decode cX3_init 33 = .ok (.getfield 11, 3) := by decide +kernel
theorem dX3_init_36 : decode cX3_init 36 = .ok (.iload_n 1, 1) := by decide +kernel
theorem dX3_init_37 : decode cX3_init 37 = .ok (.new 9, 3) := by decide +kernel
theorem dX3_init_40 : decode cX3_init 40 = .ok (.dup, 1) := by decide +kernel
theorem dX3_init_41 : decode cX3_init 41 = .ok (.invokespecial 17, 3) := by decide +kernel
theorem dX3_init_44 : decode cX3_init 44 = .ok (.aastore, 1) := by decide +kernel
theorem dX3_init_45 : decode cX3_init 45 = .ok (.iinc 1 1, 3) := by decide +kernel
theorem dX3_init_48 : decode cX3_init 48 = .ok (.goto (-22), 3) := by decide +kernel
theorem dX3_init_51 : decode cX3_init 51 = .ok (.return_, 1) := by decide +kernel
theorem dX3_clear_0 : decode cX3_clear 0 = .ok (.aload_n 0, 1) := by decide +kernel
theorem dX3_clear_1 : decode cX3_clear 1 = .ok (.iconst 0, 1) := by decide +kernel
theorem dX3_clear_2 : decode cX3_clear 2 = .ok (.putfield 22, 3) := by decide +kernel
theorem dX3_clear_5 : decode cX3_clear 5 = .ok (.return_, 1) := by decide +kernel
theorem dX3_count_0 : decode cX3_count 0 = .ok (.aload_n 0, 1) := by decide +kernel
theorem dX3_count_1 : decode cX3_count 1 = .ok (.getfield 22, 3) := by decide +kernel
theorem dX3_count_4 : decode cX3_count 4 = .ok (.ireturn, 1) := by decide +kernel
theorem dX3_isFull_0 : decode cX3_isFull 0 = .ok (.aload_n 0, 1) := by decide +kernel
theorem dX3_isFull_1 : decode cX3_isFull 1 = .ok (.getfield 22, 3) := by decide +kernel
theorem dX3_isFull_4 : decode cX3_isFull 4 = .ok (.bipush 12, 2) := by decide +kernel
theorem dX3_isFull_6 : decode cX3_isFull 6 = .ok (.if_icmp .lt 7, 3) := by decide +kernel
theorem dX3_isFull_9 : decode cX3_isFull 9 = .ok (.iconst 1, 1) := by decide +kernel
theorem dX3_isFull_10 : decode cX3_isFull 10 = .ok (.goto 4, 3) := by decide +kernel
theorem dX3_isFull_13 : decode cX3_isFull 13 = .ok (.iconst 0, 1) := by decide +kernel
theorem dX3_isFull_14 : decode cX3_isFull 14 = .ok (.ireturn, 1) := by decide +kernel
theorem dX3_begin_0 : decode cX3_begin 0 = .ok (.aload_n 0, 1) := by decide +kernel
theorem dX3_begin_1 : decode cX3_begin 1 = .ok (.getfield 22, 3) := by decide +kernel
theorem dX3_begin_4 : decode cX3_begin 4 = .ok (.bipush 12, 2) := by decide +kernel
theorem dX3_begin_6 : decode cX3_begin 6 = .ok (.if_icmp .lt 5, 3) := by decide +kernel
theorem dX3_begin_9 : decode cX3_begin 9 = .ok (.iconst (-1), 1) := by decide +kernel
theorem dX3_begin_10 : decode cX3_begin 10 = .ok (.ireturn, 1) := by decide +kernel
theorem dX3_begin_11 : decode cX3_begin 11 = .ok (.aload_n 0, 1) := by decide +kernel
theorem dX3_begin_12 : decode cX3_begin 12 = .ok (.getfield 11, 3) := by decide +kernel
theorem dX3_begin_15 : decode cX3_begin 15 = .ok (.aload_n 0, 1) := by decide +kernel
theorem dX3_begin_16 : decode cX3_begin 16 = .ok (.getfield 22, 3) := by decide +kernel
theorem dX3_begin_19 : decode cX3_begin 19 = .ok (.aaload, 1) := by decide +kernel
theorem dX3_begin_20 : decode cX3_begin 20 = .ok (.invokevirtual 26, 3) := by decide +kernel
theorem dX3_begin_23 : decode cX3_begin 23 = .ok (.aload_n 0, 1) := by decide +kernel
theorem dX3_begin_24 : decode cX3_begin 24 = .ok (.dup, 1) := by decide +kernel
theorem dX3_begin_25 : decode cX3_begin 25 = .ok (.getfield 22, 3) := by decide +kernel
theorem dX3_begin_28 : decode cX3_begin 28 = .ok (.iconst 1, 1) := by decide +kernel
theorem dX3_begin_29 : decode cX3_begin 29 = .ok (.iadd, 1) := by decide +kernel
theorem dX3_begin_30 : decode cX3_begin 30 = .ok (.putfield 22, 3) := by decide +kernel
theorem dX3_begin_33 : decode cX3_begin 33 = .ok (.aload_n 0, 1) := by decide +kernel
theorem dX3_begin_34 : decode cX3_begin 34 = .ok (.getfield 22, 3) := by decide +kernel
theorem dX3_begin_37 : decode cX3_begin 37 = .ok (.iconst 1, 1) := by decide +kernel
theorem dX3_begin_38 : decode cX3_begin 38 = .ok (.isub, 1) := by decide +kernel
theorem dX3_begin_39 : decode cX3_begin 39 = .ok (.ireturn, 1) := by decide +kernel
theorem dX3_at_0 : decode cX3_at 0 = .ok (.iload_n 1, 1) := by decide +kernel
theorem dX3_at_1 : decode cX3_at 1 = .ok (.ifCond .lt 20, 3) := by decide +kernel
theorem dX3_at_4 : decode cX3_at 4 = .ok (.iload_n 1, 1) := by decide +kernel
theorem dX3_at_5 : decode cX3_at 5 = .ok (.aload_n 0, 1) := by decide +kernel
theorem dX3_at_6 : decode cX3_at 6 = .ok (.getfield 22, 3) := by decide +kernel
theorem dX3_at_9 : decode cX3_at 9 = .ok (.if_icmp .ge 12, 3) := by decide +kernel
theorem dX3_at_12 : decode cX3_at 12 = .ok (.aload_n 0, 1) := by decide +kernel
theorem dX3_at_13 : decode cX3_at 13 = .ok (.getfield 11, 3) := by decide +kernel
theorem dX3_at_16 : decode cX3_at 16 = .ok (.iload_n 1, 1) := by decide +kernel
theorem dX3_at_17 : decode cX3_at 17 = .ok (.aaload, 1) := by decide +kernel
theorem dX3_at_18 : decode cX3_at 18 = .ok (.goto 7, 3) := by decide +kernel
theorem dX3_at_21 : decode cX3_at 21 = .ok (.aload_n 0, 1) := by decide +kernel
theorem dX3_at_22 : decode cX3_at 22 = .ok (.getfield 18, 3) := by decide +kernel
theorem dX3_at_25 : decode cX3_at 25 = .ok (.areturn, 1) := by decide +kernel
theorem dX3_areRight_0 : decode cX3_areRight 0 = .ok (.iconst 0, 1) := by decide +kernel
theorem dX3_areRight_1 : decode cX3_areRight 1 = .ok (.istore_n 1, 1) := by decide +kernel
theorem dX3_areRight_2 : decode cX3_areRight 2 = .ok (.iload_n 1, 1) := by decide +kernel
theorem dX3_areRight_3 : decode cX3_areRight 3 = .ok (.aload_n 0, 1) := by decide +kernel
theorem dX3_areRight_4 : decode cX3_areRight 4 = .ok (.getfield 22, 3) := by decide +kernel
theorem dX3_areRight_7 : decode cX3_areRight 7 = .ok (.if_icmp .ge 22, 3) := by decide +kernel
theorem dX3_areRight_10 : decode cX3_areRight 10 = .ok (.aload_n 0, 1) := by decide +kernel
theorem dX3_areRight_11 : decode cX3_areRight 11 = .ok (.iload_n 1, 1) := by decide +kernel
theorem dX3_areRight_12 : decode cX3_areRight 12 = .ok (.invokevirtual 29, 3) := by decide +kernel
theorem dX3_areRight_15 : decode cX3_areRight 15 = .ok (.invokestatic 33, 3) := by decide +kernel
theorem dX3_areRight_18 : decode cX3_areRight 18 = .ok (.ifCond .ne 5, 3) := by decide +kernel
theorem dX3_areRight_21 : decode cX3_areRight 21 = .ok (.iconst 0, 1) := by decide +kernel
theorem dX3_areRight_22 : decode cX3_areRight 22 = .ok (.ireturn, 1) := by decide +kernel
theorem dX3_areRight_23 : decode cX3_areRight 23 = .ok (.iinc 1 1, 3) := by decide +kernel
theorem dX3_areRight_26 : decode cX3_areRight 26 = .ok (.goto (-24), 3) := by decide +kernel
theorem dX3_areRight_29 : decode cX3_areRight 29 = .ok (.iconst 1, 1) := by decide +kernel
theorem dX3_areRight_30 : decode cX3_areRight 30 = .ok (.ireturn, 1) := by decide +kernel
theorem dX3_isRight_0 : decode cX3_isRight 0 = .ok (.iconst 0, 1) := by decide +kernel
theorem dX3_isRight_1 : decode cX3_isRight 1 = .ok (.istore_n 1, 1) := by decide +kernel
theorem dX3_isRight_2 : decode cX3_isRight 2 = .ok (.iconst 0, 1) := by decide +kernel
theorem dX3_isRight_3 : decode cX3_isRight 3 = .ok (.istore_n 2, 1) := by decide +kernel
theorem dX3_isRight_4 : decode cX3_isRight 4 = .ok (.iconst 0, 1) := by decide +kernel
theorem dX3_isRight_5 : decode cX3_isRight 5 = .ok (.istore_n 3, 1) := by decide +kernel
theorem dX3_isRight_6 : decode cX3_isRight 6 = .ok (.iload_n 3, 1) := by decide +kernel
theorem dX3_isRight_7 : decode cX3_isRight 7 = .ok (.aload_n 0, 1) := by decide +kernel
theorem dX3_isRight_8 : decode cX3_isRight 8 = .ok (.invokevirtual 37, 3) := by decide +kernel
theorem dX3_isRight_11 : decode cX3_isRight 11 = .ok (.if_icmp .ge 55, 3) := by decide +kernel
theorem dX3_isRight_14 : decode cX3_isRight 14 = .ok (.aload_n 0, 1) := by decide +kernel
theorem dX3_isRight_15 : decode cX3_isRight 15 = .ok (.iload_n 3, 1) := by decide +kernel
theorem dX3_isRight_16 : decode cX3_isRight 16 = .ok (.invokevirtual 41, 3) := by decide +kernel
theorem dX3_isRight_19 : decode cX3_isRight 19 = .ok (.bipush 10, 2) := by decide +kernel
theorem dX3_isRight_21 : decode cX3_isRight 21 = .ok (.if_icmp .ne 21, 3) := by decide +kernel
theorem dX3_isRight_24 : decode cX3_isRight 24 = .ok (.iload_n 1, 1) := by decide +kernel
theorem dX3_isRight_25 : decode cX3_isRight 25 = .ok (.ifCond .ne 17, 3) := by decide +kernel
theorem dX3_isRight_28 : decode cX3_isRight 28 = .ok (.iload_n 2, 1) := by decide +kernel
theorem dX3_isRight_29 : decode cX3_isRight 29 = .ok (.iconst 1, 1) := by decide +kernel
theorem dX3_isRight_30 : decode cX3_isRight 30 = .ok (.if_icmp .eq 5, 3) := by decide +kernel
theorem dX3_isRight_33 : decode cX3_isRight 33 = .ok (.iconst 0, 1) := by decide +kernel
theorem dX3_isRight_34 : decode cX3_isRight 34 = .ok (.ireturn, 1) := by decide +kernel
theorem dX3_isRight_35 : decode cX3_isRight 35 = .ok (.iconst 1, 1) := by decide +kernel
theorem dX3_isRight_36 : decode cX3_isRight 36 = .ok (.istore_n 1, 1) := by decide +kernel
theorem dX3_isRight_37 : decode cX3_isRight 37 = .ok (.iconst 0, 1) := by decide +kernel
theorem dX3_isRight_38 : decode cX3_isRight 38 = .ok (.istore_n 2, 1) := by decide +kernel
theorem dX3_isRight_39 : decode cX3_isRight 39 = .ok (.goto 14, 3) := by decide +kernel
theorem dX3_isRight_42 : decode cX3_isRight 42 = .ok (.iload_n 2, 1) := by decide +kernel
theorem dX3_isRight_43 : decode cX3_isRight 43 = .ok (.aload_n 0, 1) := by decide +kernel
theorem dX3_isRight_44 : decode cX3_isRight 44 = .ok (.iload_n 3, 1) := by decide +kernel
theorem dX3_isRight_45 : decode cX3_isRight 45 = .ok (.invokevirtual 41, 3) := by decide +kernel
theorem dX3_isRight_48 : decode cX3_isRight 48 = .ok (.iload_n 1, 1) := by decide +kernel
theorem dX3_isRight_49 : decode cX3_isRight 49 = .ok (.invokestatic 45, 3) := by decide +kernel
theorem dX3_isRight_52 : decode cX3_isRight 52 = .ok (.istore_n 2, 1) := by decide +kernel
theorem dX3_isRight_53 : decode cX3_isRight 53 = .ok (.iload_n 2, 1) := by decide +kernel
theorem dX3_isRight_54 : decode cX3_isRight 54 = .ok (.iconst (-1), 1) := by decide +kernel
theorem dX3_isRight_55 : decode cX3_isRight 55 = .ok (.if_icmp .ne 5, 3) := by decide +kernel
theorem dX3_isRight_58 : decode cX3_isRight 58 = .ok (.iconst 0, 1) := by decide +kernel
theorem dX3_isRight_59 : decode cX3_isRight 59 = .ok (.ireturn, 1) := by decide +kernel
theorem dX3_isRight_60 : decode cX3_isRight 60 = .ok (.iinc 3 1, 3) := by decide +kernel
theorem dX3_isRight_63 : decode cX3_isRight 63 = .ok (.goto (-57), 3) := by decide +kernel
theorem dX3_isRight_66 : decode cX3_isRight 66 = .ok (.iload_n 1, 1) := by decide +kernel
theorem dX3_isRight_67 : decode cX3_isRight 67 = .ok (.ifCond .eq 11, 3) := by decide +kernel
theorem dX3_isRight_70 : decode cX3_isRight 70 = .ok (.iload_n 2, 1) := by decide +kernel
theorem dX3_isRight_71 : decode cX3_isRight 71 = .ok (.ifCond .ne 7, 3) := by decide +kernel
theorem dX3_isRight_74 : decode cX3_isRight 74 = .ok (.iconst 1, 1) := by decide +kernel
theorem dX3_isRight_75 : decode cX3_isRight 75 = .ok (.goto 4, 3) := by decide +kernel
theorem dX3_isRight_78 : decode cX3_isRight 78 = .ok (.iconst 0, 1) := by decide +kernel
theorem dX3_isRight_79 : decode cX3_isRight 79 = .ok (.ireturn, 1) := by decide +kernel
theorem dX3_bearExchange_0 : decode cX3_bearExchange 0 = .ok (.iconst 0, 1) := by decide +kernel
theorem dX3_bearExchange_1 : decode cX3_bearExchange 1 = .ok (.istore_n 3, 1) := by decide +kernel
theorem dX3_bearExchange_2 : decode cX3_bearExchange 2 = .ok (.iload_n 3, 1) := by decide +kernel
theorem dX3_bearExchange_3 : decode cX3_bearExchange 3 = .ok (.aload_n 0, 1) := by decide +kernel
theorem dX3_bearExchange_4 : decode cX3_bearExchange 4 = .ok (.getfield 22, 3) := by decide +kernel
theorem dX3_bearExchange_7 : decode cX3_bearExchange 7 = .ok (.if_icmp .ge 25, 3) := by decide +kernel
theorem dX3_bearExchange_10 : decode cX3_bearExchange 10 = .ok (.aload_n 0, 1) := by decide +kernel
theorem dX3_bearExchange_11 : decode cX3_bearExchange 11 = .ok (.aload_n 0, 1) := by decide +kernel
theorem dX3_bearExchange_12 : decode cX3_bearExchange 12 = .ok (.iload_n 3, 1) := by decide +kernel
theorem dX3_bearExchange_13 : decode cX3_bearExchange 13 = .ok (.invokevirtual 29, 3) := by decide +kernel
theorem dX3_bearExchange_16 : decode cX3_bearExchange 16 = .ok (.iload_n 1, 1) := by decide +kernel
theorem dX3_bearExchange_17 : decode cX3_bearExchange 17 = .ok (.iload_n 2, 1) := by decide +kernel
theorem dX3_bearExchange_18 : decode cX3_bearExchange 18 = .ok (.invokevirtual 51, 3) := by decide +kernel
theorem dX3_bearExchange_21 : decode cX3_bearExchange 21 = .ok (.ifCond .ne 5, 3) := by decide +kernel
theorem dX3_bearExchange_24 : decode cX3_bearExchange 24 = .ok (.iconst 0, 1) := by decide +kernel
theorem dX3_bearExchange_25 : decode cX3_bearExchange 25 = .ok (.ireturn, 1) := by decide +kernel
theorem dX3_bearExchange_26 : decode cX3_bearExchange 26 = .ok (.iinc 3 1, 3) := by decide +kernel
theorem dX3_bearExchange_29 : decode cX3_bearExchange 29 = .ok (.goto (-27), 3) := by decide +kernel
theorem dX3_bearExchange_32 : decode cX3_bearExchange 32 = .ok (.iconst 1, 1) := by decide +kernel
theorem dX3_bearExchange_33 : decode cX3_bearExchange 33 = .ok (.ireturn, 1) := by decide +kernel
theorem dX3_hasExchanged_0 : decode cX3_hasExchanged 0 = .ok (.iconst 0, 1) := by decide +kernel
theorem dX3_hasExchanged_1 : decode cX3_hasExchanged 1 = .ok (.istore 4, 2) := by decide +kernel
theorem dX3_hasExchanged_3 : decode cX3_hasExchanged 3 = .ok (.iload 4, 2) := by decide +kernel
theorem dX3_hasExchanged_5 : decode cX3_hasExchanged 5 = .ok (.aload_n 0, 1) := by decide +kernel
theorem dX3_hasExchanged_6 : decode cX3_hasExchanged 6 = .ok (.getfield 22, 3) := by decide +kernel
theorem dX3_hasExchanged_9 : decode cX3_hasExchanged 9 = .ok (.if_icmp .ge 48, 3) := by decide +kernel
theorem dX3_hasExchanged_12 : decode cX3_hasExchanged 12 = .ok (.aload_n 0, 1) := by decide +kernel
theorem dX3_hasExchanged_13 : decode cX3_hasExchanged 13 = .ok (.iload 4, 2) := by decide +kernel
theorem dX3_hasExchanged_15 : decode cX3_hasExchanged 15 = .ok (.invokevirtual 29, 3) := by decide +kernel
theorem dX3_hasExchanged_18 : decode cX3_hasExchanged 18 = .ok (.astore 5, 2) := by decide +kernel
theorem dX3_hasExchanged_20 : decode cX3_hasExchanged 20 = .ok (.aload 5, 2) := by decide +kernel
theorem dX3_hasExchanged_22 : decode cX3_hasExchanged 22 = .ok (.invokevirtual 37, 3) := by decide +kernel
theorem dX3_hasExchanged_25 : decode cX3_hasExchanged 25 = .ok (.aload_n 1, 1) := by decide +kernel
theorem dX3_hasExchanged_26 : decode cX3_hasExchanged 26 = .ok (.invokevirtual 37, 3) := by decide +kernel
theorem dX3_hasExchanged_29 : decode cX3_hasExchanged 29 = .ok (.if_icmp .ne 22, 3) := by decide +kernel
theorem dX3_hasExchanged_32 : decode cX3_hasExchanged 32 = .ok (.aload_n 1, 1) := by decide +kernel
theorem dX3_hasExchanged_33 : decode cX3_hasExchanged 33 = .ok (.iconst 0, 1) := by decide +kernel
theorem dX3_hasExchanged_34 : decode cX3_hasExchanged 34 = .ok (.aload_n 1, 1) := by decide +kernel
theorem dX3_hasExchanged_35 : decode cX3_hasExchanged 35 = .ok (.invokevirtual 37, 3) := by decide +kernel
theorem dX3_hasExchanged_38 : decode cX3_hasExchanged 38 = .ok (.aload 5, 2) := by decide +kernel
theorem dX3_hasExchanged_40 : decode cX3_hasExchanged 40 = .ok (.iconst 0, 1) := by decide +kernel
theorem dX3_hasExchanged_41 : decode cX3_hasExchanged 41 = .ok (.iload_n 2, 1) := by decide +kernel
theorem dX3_hasExchanged_42 : decode cX3_hasExchanged 42 = .ok (.iload_n 3, 1) := by decide +kernel
theorem dX3_hasExchanged_43 : decode cX3_hasExchanged 43 = .ok (.invokevirtual 55, 3) := by decide +kernel
theorem dX3_hasExchanged_46 : decode cX3_hasExchanged 46 = .ok (.ifCond .eq 5, 3) := by decide +kernel
theorem dX3_hasExchanged_49 : decode cX3_hasExchanged 49 = .ok (.iconst 1, 1) := by decide +kernel
theorem dX3_hasExchanged_50 : decode cX3_hasExchanged 50 = .ok (.ireturn, 1) := by decide +kernel
theorem dX3_hasExchanged_51 : decode cX3_hasExchanged 51 = .ok (.iinc 4 1, 3) := by decide +kernel
theorem dX3_hasExchanged_54 : decode cX3_hasExchanged 54 = .ok (.goto (-51), 3) := by decide +kernel
theorem dX3_hasExchanged_57 : decode cX3_hasExchanged 57 = .ok (.iconst 0, 1) := by decide +kernel
theorem dX3_hasExchanged_58 : decode cX3_hasExchanged 58 = .ok (.ireturn, 1) := by decide +kernel
theorem dX6_op_0 : decode cX6_op 0 = .ok (.iload_n 0, 1) := by decide +kernel
theorem dX6_op_1 : decode cX6_op 1 = .ok (.sipush 255, 3) := by decide +kernel
theorem dX6_op_4 : decode cX6_op 4 = .ok (.iand, 1) := by decide +kernel
theorem dX6_op_5 : decode cX6_op 5 = .ok (.ireturn, 1) := by decide +kernel
theorem dX6_operand_0 : decode cX6_operand 0 = .ok (.iload_n 0, 1) := by decide +kernel
theorem dX6_operand_1 : decode cX6_operand 1 = .ok (.bipush 8, 2) := by decide +kernel
theorem dX6_operand_3 : decode cX6_operand 3 = .ok (.ishr, 1) := by decide +kernel
theorem dX6_operand_4 : decode cX6_operand 4 = .ok (.ireturn, 1) := by decide +kernel
theorem dX6_isWord_0 : decode cX6_isWord 0 = .ok (.iload_n 0, 1) := by decide +kernel
theorem dX6_isWord_1 : decode cX6_isWord 1 = .ok (.invokestatic 9, 3) := by decide +kernel
theorem dX6_isWord_4 : decode cX6_isWord 4 = .ok (.istore_n 1, 1) := by decide +kernel
theorem dX6_isWord_5 : decode cX6_isWord 5 = .ok (.iload_n 1, 1) := by decide +kernel
theorem dX6_isWord_6 : decode cX6_isWord 6 = .ok (.ifCond .ne 5, 3) := by decide +kernel
theorem dX6_isWord_9 : decode cX6_isWord 9 = .ok (.iconst 1, 1) := by decide +kernel
theorem dX6_isWord_10 : decode cX6_isWord 10 = .ok (.ireturn, 1) := by decide +kernel
theorem dX6_isWord_11 : decode cX6_isWord 11 = .ok (.iload_n 1, 1) := by decide +kernel
theorem dX6_isWord_12 : decode cX6_isWord 12 = .ok (.iconst 1, 1) := by decide +kernel
theorem dX6_isWord_13 : decode cX6_isWord 13 = .ok (.if_icmp .eq 9, 3) := by decide +kernel
theorem dX6_isWord_16 : decode cX6_isWord 16 = .ok (.iload_n 1, 1) := by decide +kernel
theorem dX6_isWord_17 : decode cX6_isWord 17 = .ok (.bipush 11, 2) := by decide +kernel
theorem dX6_isWord_19 : decode cX6_isWord 19 = .ok (.if_icmp .ne 11, 3) := by decide +kernel
theorem dX6_isWord_22 : decode cX6_isWord 22 = .ok (.iload_n 0, 1) := by decide +kernel
theorem dX6_isWord_23 : decode cX6_isWord 23 = .ok (.invokestatic 15, 3) := by decide +kernel
theorem dX6_isWord_26 : decode cX6_isWord 26 = .ok (.invokestatic 18, 3) := by decide +kernel
theorem dX6_isWord_29 : decode cX6_isWord 29 = .ok (.ireturn, 1) := by decide +kernel
theorem dX6_isWord_30 : decode cX6_isWord 30 = .ok (.iload_n 1, 1) := by decide +kernel
theorem dX6_isWord_31 : decode cX6_isWord 31 = .ok (.bipush 12, 2) := by decide +kernel
theorem dX6_isWord_33 : decode cX6_isWord 33 = .ok (.if_icmp .gt 14, 3) := by decide +kernel
theorem dX6_isWord_36 : decode cX6_isWord 36 = .ok (.iload_n 0, 1) := by decide +kernel
theorem dX6_isWord_37 : decode cX6_isWord 37 = .ok (.invokestatic 15, 3) := by decide +kernel
theorem dX6_isWord_40 : decode cX6_isWord 40 = .ok (.ifCond .ne 7, 3) := by decide +kernel
theorem dX6_isWord_43 : decode cX6_isWord 43 = .ok (.iconst 1, 1) := by decide +kernel
theorem dX6_isWord_44 : decode cX6_isWord 44 = .ok (.goto 4, 3) := by decide +kernel
theorem dX6_isWord_47 : decode cX6_isWord 47 = .ok (.iconst 0, 1) := by decide +kernel
theorem dX6_isWord_48 : decode cX6_isWord 48 = .ok (.ireturn, 1) := by decide +kernel
theorem dX6_exchanged_0 : decode cX6_exchanged 0 = .ok (.iload_n 0, 1) := by decide +kernel
theorem dX6_exchanged_1 : decode cX6_exchanged 1 = .ok (.invokestatic 9, 3) := by decide +kernel
theorem dX6_exchanged_4 : decode cX6_exchanged 4 = .ok (.istore_n 3, 1) := by decide +kernel
theorem dX6_exchanged_5 : decode cX6_exchanged 5 = .ok (.iload_n 0, 1) := by decide +kernel
theorem dX6_exchanged_6 : decode cX6_exchanged 6 = .ok (.invokestatic 15, 3) := by decide +kernel
theorem dX6_exchanged_9 : decode cX6_exchanged 9 = .ok (.istore 4, 2) := by decide +kernel
theorem dX6_exchanged_11 : decode cX6_exchanged 11 = .ok (.iload_n 3, 1) := by decide +kernel
theorem dX6_exchanged_12 : decode cX6_exchanged 12 = .ok (.iconst 1, 1) := by decide +kernel
theorem dX6_exchanged_13 : decode cX6_exchanged 13 = .ok (.if_icmp .eq 9, 3) := by decide +kernel
theorem dX6_exchanged_16 : decode cX6_exchanged 16 = .ok (.iload_n 3, 1) := by decide +kernel
theorem dX6_exchanged_17 : decode cX6_exchanged 17 = .ok (.bipush 11, 2) := by decide +kernel
theorem dX6_exchanged_19 : decode cX6_exchanged 19 = .ok (.if_icmp .ne 15, 3) := by decide +kernel
theorem dX6_exchanged_22 : decode cX6_exchanged 22 = .ok (.iload 4, 2) := by decide +kernel
theorem dX6_exchanged_24 : decode cX6_exchanged 24 = .ok (.iload_n 1, 1) := by decide +kernel
theorem dX6_exchanged_25 : decode cX6_exchanged 25 = .ok (.if_icmp .eq 11, 3) := by decide +kernel
theorem dX6_exchanged_28 : decode cX6_exchanged 28 = .ok (.iload 4, 2) := by decide +kernel
theorem dX6_exchanged_30 : decode cX6_exchanged 30 = .ok (.iload_n 2, 1) := by decide +kernel
theorem dX6_exchanged_31 : decode cX6_exchanged 31 = .ok (.if_icmp .eq 5, 3) := by decide +kernel
theorem dX6_exchanged_34 : decode cX6_exchanged 34 = .ok (.iload_n 0, 1) := by decide +kernel
theorem dX6_exchanged_35 : decode cX6_exchanged 35 = .ok (.ireturn, 1) := by decide +kernel
theorem dX6_exchanged_36 : decode cX6_exchanged 36 = .ok (.iload 4, 2) := by decide +kernel
theorem dX6_exchanged_38 : decode cX6_exchanged 38 = .ok (.iload_n 1, 1) := by decide +kernel
theorem dX6_exchanged_39 : decode cX6_exchanged 39 = .ok (.if_icmp .ne 7, 3) := by decide +kernel
theorem dX6_exchanged_42 : decode cX6_exchanged 42 = .ok (.iload_n 2, 1) := by decide +kernel
theorem dX6_exchanged_43 : decode cX6_exchanged 43 = .ok (.goto 4, 3) := by decide +kernel
theorem dX6_exchanged_46 : decode cX6_exchanged 46 = .ok (.iload_n 1, 1) := by decide +kernel
theorem dX6_exchanged_47 : decode cX6_exchanged 47 = .ok (.bipush 8, 2) := by decide +kernel
theorem dX6_exchanged_49 : decode cX6_exchanged 49 = .ok (.ishl, 1) := by decide +kernel
theorem dX6_exchanged_50 : decode cX6_exchanged 50 = .ok (.iload_n 3, 1) := by decide +kernel
theorem dX6_exchanged_51 : decode cX6_exchanged 51 = .ok (.ior, 1) := by decide +kernel
theorem dX6_exchanged_52 : decode cX6_exchanged 52 = .ok (.ireturn, 1) := by decide +kernel
theorem dX6_heightAfter_0 : decode cX6_heightAfter 0 = .ok (.iload_n 1, 1) := by decide +kernel
theorem dX6_heightAfter_1 : decode cX6_heightAfter 1 = .ok (.bipush 10, 2) := by decide +kernel
theorem dX6_heightAfter_3 : decode cX6_heightAfter 3 = .ok (.if_icmp .eq 19, 3) := by decide +kernel
theorem dX6_heightAfter_6 : decode cX6_heightAfter 6 = .ok (.iload_n 1, 1) := by decide +kernel
theorem dX6_heightAfter_7 : decode cX6_heightAfter 7 = .ok (.bipush 12, 2) := by decide +kernel
theorem dX6_heightAfter_9 : decode cX6_heightAfter 9 = .ok (.if_icmp .eq 13, 3) := by decide +kernel
theorem dX6_heightAfter_12 : decode cX6_heightAfter 12 = .ok (.iload_n 1, 1) := by decide +kernel
theorem dX6_heightAfter_13 : decode cX6_heightAfter 13 = .ok (.bipush 11, 2) := by decide +kernel
theorem dX6_heightAfter_15 : decode cX6_heightAfter 15 = .ok (.if_icmp .ne 9, 3) := by decide +kernel
theorem dX6_heightAfter_18 : decode cX6_heightAfter 18 = .ok (.iload_n 2, 1) := by decide +kernel
theorem dX6_heightAfter_19 : decode cX6_heightAfter 19 = .ok (.ifCond .ne 5, 3) := by decide +kernel
theorem dX6_heightAfter_22 : decode cX6_heightAfter 22 = .ok (.iconst (-1), 1) := by decide +kernel
theorem dX6_heightAfter_23 : decode cX6_heightAfter 23 = .ok (.ireturn, 1) := by decide +kernel
theorem dX6_heightAfter_24 : decode cX6_heightAfter 24 = .ok (.iload_n 1, 1) := by decide +kernel
theorem dX6_heightAfter_25 : decode cX6_heightAfter 25 = .ok (.ifCond .eq 8, 3) := by decide +kernel
theorem dX6_heightAfter_28 : decode cX6_heightAfter 28 = .ok (.iload_n 1, 1) := by decide +kernel
theorem dX6_heightAfter_29 : decode cX6_heightAfter 29 = .ok (.iconst 1, 1) := by decide +kernel
theorem dX6_heightAfter_30 : decode cX6_heightAfter 30 = .ok (.if_icmp .ne 17, 3) := by decide +kernel
theorem dX6_heightAfter_33 : decode cX6_heightAfter 33 = .ok (.iload_n 0, 1) := by decide +kernel
theorem dX6_heightAfter_34 : decode cX6_heightAfter 34 = .ok (.bipush 8, 2) := by decide +kernel
theorem dX6_heightAfter_36 : decode cX6_heightAfter 36 = .ok (.if_icmp .ge 9, 3) := by decide +kernel
theorem dX6_heightAfter_39 : decode cX6_heightAfter 39 = .ok (.iload_n 0, 1) := by decide +kernel
theorem dX6_heightAfter_40 : decode cX6_heightAfter 40 = .ok (.iconst 1, 1) := by decide +kernel
theorem dX6_heightAfter_41 : decode cX6_heightAfter 41 = .ok (.iadd, 1) := by decide +kernel
theorem dX6_heightAfter_42 : decode cX6_heightAfter 42 = .ok (.goto 4, 3) := by decide +kernel
theorem dX6_heightAfter_45 : decode cX6_heightAfter 45 = .ok (.iconst (-1), 1) := by decide +kernel
theorem dX6_heightAfter_46 : decode cX6_heightAfter 46 = .ok (.ireturn, 1) := by decide +kernel
theorem dX6_heightAfter_47 : decode cX6_heightAfter 47 = .ok (.iload_n 1, 1) := by decide +kernel
theorem dX6_heightAfter_48 : decode cX6_heightAfter 48 = .ok (.bipush 9, 2) := by decide +kernel
theorem dX6_heightAfter_50 : decode cX6_heightAfter 50 = .ok (.if_icmp .ne 14, 3) := by decide +kernel
theorem dX6_heightAfter_53 : decode cX6_heightAfter 53 = .ok (.iload_n 0, 1) := by decide +kernel
theorem dX6_heightAfter_54 : decode cX6_heightAfter 54 = .ok (.iconst 1, 1) := by decide +kernel
theorem dX6_heightAfter_55 : decode cX6_heightAfter 55 = .ok (.if_icmp .lt 7, 3) := by decide +kernel
theorem dX6_heightAfter_58 : decode cX6_heightAfter 58 = .ok (.iload_n 0, 1) := by decide +kernel
theorem dX6_heightAfter_59 : decode cX6_heightAfter 59 = .ok (.goto 4, 3) := by decide +kernel
theorem dX6_heightAfter_62 : decode cX6_heightAfter 62 = .ok (.iconst (-1), 1) := by decide +kernel
theorem dX6_heightAfter_63 : decode cX6_heightAfter 63 = .ok (.ireturn, 1) := by decide +kernel
theorem dX6_heightAfter_64 : decode cX6_heightAfter 64 = .ok (.iload_n 1, 1) := by decide +kernel
theorem dX6_heightAfter_65 : decode cX6_heightAfter 65 = .ok (.bipush 11, 2) := by decide +kernel
theorem dX6_heightAfter_67 : decode cX6_heightAfter 67 = .ok (.if_icmp .ne 16, 3) := by decide +kernel
theorem dX6_heightAfter_70 : decode cX6_heightAfter 70 = .ok (.iload_n 0, 1) := by decide +kernel
theorem dX6_heightAfter_71 : decode cX6_heightAfter 71 = .ok (.iconst 1, 1) := by decide +kernel
theorem dX6_heightAfter_72 : decode cX6_heightAfter 72 = .ok (.if_icmp .lt 9, 3) := by decide +kernel
theorem dX6_heightAfter_75 : decode cX6_heightAfter 75 = .ok (.iload_n 0, 1) := by decide +kernel
theorem dX6_heightAfter_76 : decode cX6_heightAfter 76 = .ok (.iconst 1, 1) := by decide +kernel
theorem dX6_heightAfter_77 : decode cX6_heightAfter 77 = .ok (.isub, 1) := by decide +kernel
theorem dX6_heightAfter_78 : decode cX6_heightAfter 78 = .ok (.goto 4, 3) := by decide +kernel
theorem dX6_heightAfter_81 : decode cX6_heightAfter 81 = .ok (.iconst (-1), 1) := by decide +kernel
theorem dX6_heightAfter_82 : decode cX6_heightAfter 82 = .ok (.ireturn, 1) := by decide +kernel
theorem dX6_heightAfter_83 : decode cX6_heightAfter 83 = .ok (.iload_n 0, 1) := by decide +kernel
theorem dX6_heightAfter_84 : decode cX6_heightAfter 84 = .ok (.iconst 2, 1) := by decide +kernel
theorem dX6_heightAfter_85 : decode cX6_heightAfter 85 = .ok (.if_icmp .lt 9, 3) := by decide +kernel
theorem dX6_heightAfter_88 : decode cX6_heightAfter 88 = .ok (.iload_n 0, 1) := by decide +kernel
theorem dX6_heightAfter_89 : decode cX6_heightAfter 89 = .ok (.iconst 1, 1) := by decide +kernel
theorem dX6_heightAfter_90 : decode cX6_heightAfter 90 = .ok (.isub, 1) := by decide +kernel
theorem dX6_heightAfter_91 : decode cX6_heightAfter 91 = .ok (.goto 4, 3) := by decide +kernel
theorem dX6_heightAfter_94 : decode cX6_heightAfter 94 = .ok (.iconst (-1), 1) := by decide +kernel
theorem dX6_heightAfter_95 : decode cX6_heightAfter 95 = .ok (.ireturn, 1) := by decide +kernel
theorem dX7_init_0 : decode cX7_init 0 = .ok (.aload_n 0, 1) := by decide +kernel
theorem dX7_init_1 : decode cX7_init 1 = .ok (.invokespecial 3, 3) := by decide +kernel
theorem dX7_init_4 : decode cX7_init 4 = .ok (.aload_n 0, 1) := by decide +kernel
theorem dX7_init_5 : decode cX7_init 5 = .ok (.bipush 32, 2) := by decide +kernel
theorem dX7_init_7 : decode cX7_init 7 = .ok (.newarray .int, 2) := by decide +kernel
theorem dX7_init_9 : decode cX7_init 9 = .ok (.putfield 9, 3) := by decide +kernel
theorem dX7_init_12 : decode cX7_init 12 = .ok (.return_, 1) := by decide +kernel
theorem dX7_clear_0 : decode cX7_clear 0 = .ok (.aload_n 0, 1) := by decide +kernel
theorem dX7_clear_1 : decode cX7_clear 1 = .ok (.iconst 0, 1) := by decide +kernel
theorem dX7_clear_2 : decode cX7_clear 2 = .ok (.putfield 15, 3) := by decide +kernel
theorem dX7_clear_5 : decode cX7_clear 5 = .ok (.return_, 1) := by decide +kernel
theorem dX7_length_0 : decode cX7_length 0 = .ok (.aload_n 0, 1) := by decide +kernel
theorem dX7_length_1 : decode cX7_length 1 = .ok (.getfield 15, 3) := by decide +kernel
theorem dX7_length_4 : decode cX7_length 4 = .ok (.ireturn, 1) := by decide +kernel
theorem dX7_isFull_0 : decode cX7_isFull 0 = .ok (.aload_n 0, 1) := by decide +kernel
theorem dX7_isFull_1 : decode cX7_isFull 1 = .ok (.getfield 15, 3) := by decide +kernel
theorem dX7_isFull_4 : decode cX7_isFull 4 = .ok (.bipush 32, 2) := by decide +kernel
theorem dX7_isFull_6 : decode cX7_isFull 6 = .ok (.if_icmp .lt 7, 3) := by decide +kernel
theorem dX7_isFull_9 : decode cX7_isFull 9 = .ok (.iconst 1, 1) := by decide +kernel
theorem dX7_isFull_10 : decode cX7_isFull 10 = .ok (.goto 4, 3) := by decide +kernel
theorem dX7_isFull_13 : decode cX7_isFull 13 = .ok (.iconst 0, 1) := by decide +kernel
theorem dX7_isFull_14 : decode cX7_isFull 14 = .ok (.ireturn, 1) := by decide +kernel
theorem dX7_add_0 : decode cX7_add 0 = .ok (.aload_n 0, 1) := by decide +kernel
theorem dX7_add_1 : decode cX7_add 1 = .ok (.getfield 15, 3) := by decide +kernel
theorem dX7_add_4 : decode cX7_add 4 = .ok (.bipush 32, 2) := by decide +kernel
theorem dX7_add_6 : decode cX7_add 6 = .ok (.if_icmp .ge 23, 3) := by decide +kernel
theorem dX7_add_9 : decode cX7_add 9 = .ok (.aload_n 0, 1) := by decide +kernel
theorem dX7_add_10 : decode cX7_add 10 = .ok (.getfield 9, 3) := by decide +kernel
theorem dX7_add_13 : decode cX7_add 13 = .ok (.aload_n 0, 1) := by decide +kernel
theorem dX7_add_14 : decode cX7_add 14 = .ok (.getfield 15, 3) := by decide +kernel
theorem dX7_add_17 : decode cX7_add 17 = .ok (.iload_n 1, 1) := by decide +kernel
theorem dX7_add_18 : decode cX7_add 18 = .ok (.iastore, 1) := by decide +kernel
theorem dX7_add_19 : decode cX7_add 19 = .ok (.aload_n 0, 1) := by decide +kernel
theorem dX7_add_20 : decode cX7_add 20 = .ok (.dup, 1) := by decide +kernel
theorem dX7_add_21 : decode cX7_add 21 = .ok (.getfield 15, 3) := by decide +kernel
theorem dX7_add_24 : decode cX7_add 24 = .ok (.iconst 1, 1) := by decide +kernel
theorem dX7_add_25 : decode cX7_add 25 = .ok (.iadd, 1) := by decide +kernel
theorem dX7_add_26 : decode cX7_add 26 = .ok (.putfield 15, 3) := by decide +kernel
theorem dX7_add_29 : decode cX7_add 29 = .ok (.return_, 1) := by decide +kernel
theorem dX7_at_0 : decode cX7_at 0 = .ok (.iload_n 1, 1) := by decide +kernel
theorem dX7_at_1 : decode cX7_at 1 = .ok (.ifCond .lt 20, 3) := by decide +kernel
theorem dX7_at_4 : decode cX7_at 4 = .ok (.iload_n 1, 1) := by decide +kernel
theorem dX7_at_5 : decode cX7_at 5 = .ok (.aload_n 0, 1) := by decide +kernel
theorem dX7_at_6 : decode cX7_at 6 = .ok (.getfield 15, 3) := by decide +kernel
theorem dX7_at_9 : decode cX7_at 9 = .ok (.if_icmp .ge 12, 3) := by decide +kernel
theorem dX7_at_12 : decode cX7_at 12 = .ok (.aload_n 0, 1) := by decide +kernel
theorem dX7_at_13 : decode cX7_at 13 = .ok (.getfield 9, 3) := by decide +kernel
theorem dX7_at_16 : decode cX7_at 16 = .ok (.iload_n 1, 1) := by decide +kernel
theorem dX7_at_17 : decode cX7_at 17 = .ok (.iaload, 1) := by decide +kernel
theorem dX7_at_18 : decode cX7_at 18 = .ok (.goto 4, 3) := by decide +kernel
theorem dX7_at_21 : decode cX7_at 21 = .ok (.iconst 0, 1) := by decide +kernel
theorem dX7_at_22 : decode cX7_at 22 = .ok (.ireturn, 1) := by decide +kernel
theorem dX7_opAt_0 : decode cX7_opAt 0 = .ok (.aload_n 0, 1) := by decide +kernel
theorem dX7_opAt_1 : decode cX7_opAt 1 = .ok (.iload_n 1, 1) := by decide +kernel
theorem dX7_opAt_2 : decode cX7_opAt 2 = .ok (.invokevirtual 19, 3) := by decide +kernel
theorem dX7_opAt_5 : decode cX7_opAt 5 = .ok (.invokestatic 23, 3) := by decide +kernel
theorem dX7_opAt_8 : decode cX7_opAt 8 = .ok (.ireturn, 1) := by decide +kernel
theorem dX7_next_0 : decode cX7_next 0 = .ok (.iload_n 2, 1) := by decide +kernel
theorem dX7_next_1 : decode cX7_next 1 = .ok (.istore_n 3, 1) := by decide +kernel
theorem dX7_next_2 : decode cX7_next 2 = .ok (.iload_n 3, 1) := by decide +kernel
theorem dX7_next_3 : decode cX7_next 3 = .ok (.aload_n 0, 1) := by decide +kernel
theorem dX7_next_4 : decode cX7_next 4 = .ok (.getfield 15, 3) := by decide +kernel
theorem dX7_next_7 : decode cX7_next 7 = .ok (.if_icmp .ge 23, 3) := by decide +kernel
theorem dX7_next_10 : decode cX7_next 10 = .ok (.aload_n 0, 1) := by decide +kernel
theorem dX7_next_11 : decode cX7_next 11 = .ok (.iload_n 3, 1) := by decide +kernel
theorem dX7_next_12 : decode cX7_next 12 = .ok (.invokevirtual 19, 3) := by decide +kernel
theorem dX7_next_15 : decode cX7_next 15 = .ok (.invokestatic 23, 3) := by decide +kernel
theorem dX7_next_18 : decode cX7_next 18 = .ok (.iload_n 1, 1) := by decide +kernel
theorem dX7_next_19 : decode cX7_next 19 = .ok (.if_icmp .ne 5, 3) := by decide +kernel
theorem dX7_next_22 : decode cX7_next 22 = .ok (.iload_n 3, 1) := by decide +kernel
theorem dX7_next_23 : decode cX7_next 23 = .ok (.ireturn, 1) := by decide +kernel
theorem dX7_next_24 : decode cX7_next 24 = .ok (.iinc 3 1, 3) := by decide +kernel
theorem dX7_next_27 : decode cX7_next 27 = .ok (.goto (-25), 3) := by decide +kernel
theorem dX7_next_30 : decode cX7_next 30 = .ok (.aload_n 0, 1) := by decide +kernel
theorem dX7_next_31 : decode cX7_next 31 = .ok (.getfield 15, 3) := by decide +kernel
theorem dX7_next_34 : decode cX7_next 34 = .ok (.ireturn, 1) := by decide +kernel
theorem dX7_turnsInto_0 : decode cX7_turnsInto 0 = .ok (.iconst 0, 1) := by decide +kernel
theorem dX7_turnsInto_1 : decode cX7_turnsInto 1 = .ok (.istore 7, 2) := by decide +kernel
theorem dX7_turnsInto_3 : decode cX7_turnsInto 3 = .ok (.iload 7, 2) := by decide +kernel
theorem dX7_turnsInto_5 : decode cX7_turnsInto 5 = .ok (.iload_n 2, 1) := by decide +kernel
theorem dX7_turnsInto_6 : decode cX7_turnsInto 6 = .ok (.if_icmp .ge 38, 3) := by decide +kernel
theorem dX7_turnsInto_9 : decode cX7_turnsInto 9 = .ok (.aload_n 0, 1) := by decide +kernel
theorem dX7_turnsInto_10 : decode cX7_turnsInto 10 = .ok (.iload_n 1, 1) := by decide +kernel
theorem dX7_turnsInto_11 : decode cX7_turnsInto 11 = .ok (.iload 7, 2) := by decide +kernel
theorem dX7_turnsInto_13 : decode cX7_turnsInto 13 = .ok (.iadd, 1) := by decide +kernel
theorem dX7_turnsInto_14 : decode cX7_turnsInto 14 = .ok (.invokevirtual 19, 3) := by decide +kernel
theorem dX7_turnsInto_17 : decode cX7_turnsInto 17 = .ok (.iload 5, 2) := by decide +kernel
theorem dX7_turnsInto_19 : decode cX7_turnsInto 19 = .ok (.iload 6, 2) := by decide +kernel
theorem dX7_turnsInto_21 : decode cX7_turnsInto 21 = .ok (.invokestatic 28, 3) := by decide +kernel
theorem dX7_turnsInto_24 : decode cX7_turnsInto 24 = .ok (.aload_n 3, 1) := by decide +kernel
theorem dX7_turnsInto_25 : decode cX7_turnsInto 25 = .ok (.iload 4, 2) := by decide +kernel
theorem dX7_turnsInto_27 : decode cX7_turnsInto 27 = .ok (.iload 7, 2) := by decide +kernel
theorem dX7_turnsInto_29 : decode cX7_turnsInto 29 = .ok (.iadd, 1) := by decide +kernel
theorem dX7_turnsInto_30 : decode cX7_turnsInto 30 = .ok (.invokevirtual 19, 3) := by decide +kernel
theorem dX7_turnsInto_33 : decode cX7_turnsInto 33 = .ok (.if_icmp .eq 5, 3) := by decide +kernel
theorem dX7_turnsInto_36 : decode cX7_turnsInto 36 = .ok (.iconst 0, 1) := by decide +kernel
theorem dX7_turnsInto_37 : decode cX7_turnsInto 37 = .ok (.ireturn, 1) := by decide +kernel
theorem dX7_turnsInto_38 : decode cX7_turnsInto 38 = .ok (.iinc 7 1, 3) := by decide +kernel
theorem dX7_turnsInto_41 : decode cX7_turnsInto 41 = .ok (.goto (-38), 3) := by decide +kernel
theorem dX7_turnsInto_44 : decode cX7_turnsInto 44 = .ok (.iconst 1, 1) := by decide +kernel
theorem dX7_turnsInto_45 : decode cX7_turnsInto 45 = .ok (.ireturn, 1) := by decide +kernel
end
section
theorem dX4_init_0 : decode cX4_init 0 = .ok (.aload_n 0, 1) := by decide +kernel
theorem dX4_init_1 : decode cX4_init 1 = .ok (.invokespecial 3, 3) := by decide +kernel
theorem dX4_init_4 : decode cX4_init 4 = .ok (.aload_n 0, 1) := by decide +kernel
theorem dX4_init_5 : decode cX4_init 5 = .ok (.sipush 2400, 3) := by decide +kernel
theorem dX4_init_8 : decode cX4_init 8 = .ok (.newarray .int, 2) := by decide +kernel
theorem dX4_init_10 : decode cX4_init 10 = .ok (.putfield 9, 3) := by decide +kernel
theorem dX4_init_13 : decode cX4_init 13 = .ok (.aload_n 0, 1) := by decide +kernel
theorem dX4_init_14 : decode cX4_init 14 = .ok (.sipush 400, 3) := by decide +kernel
theorem dX4_init_17 : decode cX4_init 17 = .ok (.newarray .int, 2) := by decide +kernel
theorem dX4_init_19 : decode cX4_init 19 = .ok (.putfield 15, 3) := by decide +kernel
theorem dX4_init_22 : decode cX4_init 22 = .ok (.aload_n 0, 1) := by decide +kernel
theorem dX4_init_23 : decode cX4_init 23 = .ok (.sipush 512, 3) := by decide +kernel
theorem dX4_init_26 : decode cX4_init 26 = .ok (.newarray .int, 2) := by decide +kernel
theorem dX4_init_28 : decode cX4_init 28 = .ok (.putfield 18, 3) := by decide +kernel
theorem dX4_init_31 : decode cX4_init 31 = .ok (.aload_n 0, 1) := by decide +kernel
theorem dX4_init_32 : decode cX4_init 32 = .ok (.sipush 400, 3) := by decide +kernel
theorem dX4_init_35 : decode cX4_init 35 = .ok (.newarray .int, 2) := by decide +kernel
theorem dX4_init_37 : decode cX4_init 37 = .ok (.putfield 21, 3) := by decide +kernel
theorem dX4_init_40 : decode cX4_init 40 = .ok (.return_, 1) := by decide +kernel
theorem dX4_clear_0 : decode cX4_clear 0 = .ok (.aload_n 0, 1) := by decide +kernel
theorem dX4_clear_1 : decode cX4_clear 1 = .ok (.iconst 0, 1) := by decide +kernel
theorem dX4_clear_2 : decode cX4_clear 2 = .ok (.putfield 24, 3) := by decide +kernel
theorem dX4_clear_5 : decode cX4_clear 5 = .ok (.aload_n 0, 1) := by decide +kernel
theorem dX4_clear_6 : decode cX4_clear 6 = .ok (.getfield 18, 3) := by decide +kernel
theorem dX4_clear_9 : decode cX4_clear 9 = .ok (.iconst (-1), 1) := by decide +kernel
theorem dX4_clear_10 : decode cX4_clear 10 = .ok (.invokestatic 28, 3) := by decide +kernel
theorem dX4_clear_13 : decode cX4_clear 13 = .ok (.return_, 1) := by decide +kernel
theorem dX4_count_0 : decode cX4_count 0 = .ok (.aload_n 0, 1) := by decide +kernel
theorem dX4_count_1 : decode cX4_count 1 = .ok (.getfield 24, 3) := by decide +kernel
theorem dX4_count_4 : decode cX4_count 4 = .ok (.ireturn, 1) := by decide +kernel
theorem dX4_isFull_0 : decode cX4_isFull 0 = .ok (.aload_n 0, 1) := by decide +kernel
theorem dX4_isFull_1 : decode cX4_isFull 1 = .ok (.getfield 24, 3) := by decide +kernel
theorem dX4_isFull_4 : decode cX4_isFull 4 = .ok (.sipush 400, 3) := by decide +kernel
theorem dX4_isFull_7 : decode cX4_isFull 7 = .ok (.if_icmp .lt 7, 3) := by decide +kernel
theorem dX4_isFull_10 : decode cX4_isFull 10 = .ok (.iconst 1, 1) := by decide +kernel
theorem dX4_isFull_11 : decode cX4_isFull 11 = .ok (.goto 4, 3) := by decide +kernel
theorem dX4_isFull_14 : decode cX4_isFull 14 = .ok (.iconst 0, 1) := by decide +kernel
theorem dX4_isFull_15 : decode cX4_isFull 15 = .ok (.ireturn, 1) := by decide +kernel
theorem dX4_has_0 : decode cX4_has 0 = .ok (.iload_n 1, 1) := by decide +kernel
theorem dX4_has_1 : decode cX4_has 1 = .ok (.ifCond .lt 15, 3) := by decide +kernel
theorem dX4_has_4 : decode cX4_has 4 = .ok (.iload_n 1, 1) := by decide +kernel
theorem dX4_has_5 : decode cX4_has 5 = .ok (.aload_n 0, 1) := by decide +kernel
theorem dX4_has_6 : decode cX4_has 6 = .ok (.getfield 24, 3) := by decide +kernel
theorem dX4_has_9 : decode cX4_has 9 = .ok (.if_icmp .ge 7, 3) := by decide +kernel
theorem dX4_has_12 : decode cX4_has 12 = .ok (.iconst 1, 1) := by decide +kernel
theorem dX4_has_13 : decode cX4_has 13 = .ok (.goto 4, 3) := by decide +kernel
theorem dX4_has_16 : decode cX4_has 16 = .ok (.iconst 0, 1) := by decide +kernel
theorem dX4_has_17 : decode cX4_has 17 = .ok (.ireturn, 1) := by decide +kernel
theorem dX4_parentOf_0 : decode cX4_parentOf 0 = .ok (.aload_n 0, 1) := by decide +kernel
theorem dX4_parentOf_1 : decode cX4_parentOf 1 = .ok (.iload_n 1, 1) := by decide +kernel
theorem dX4_parentOf_2 : decode cX4_parentOf 2 = .ok (.invokevirtual 34, 3) := by decide +kernel
theorem dX4_parentOf_5 : decode cX4_parentOf 5 = .ok (.ifCond .eq 12, 3) := by decide +kernel
theorem dX4_parentOf_8 : decode cX4_parentOf 8 = .ok (.aload_n 0, 1) := by decide +kernel
theorem dX4_parentOf_9 : decode cX4_parentOf 9 = .ok (.getfield 15, 3) := by decide +kernel
theorem dX4_parentOf_12 : decode cX4_parentOf 12 = .ok (.iload_n 1, 1) := by decide +kernel
theorem dX4_parentOf_13 : decode cX4_parentOf 13 = .ok (.iaload, 1) := by decide +kernel
theorem dX4_parentOf_14 : decode cX4_parentOf 14 = .ok (.goto 4, 3) := by decide +kernel
theorem dX4_parentOf_17 : decode cX4_parentOf 17 = .ok (.iconst (-1), 1) := by decide +kernel
theorem dX4_parentOf_18 : decode cX4_parentOf 18 = .ok (.ireturn, 1) := by decide +kernel
theorem dX4_copyOut_0 : decode cX4_copyOut 0 = .ok (.aload_n 0, 1) := by decide +kernel
theorem dX4_copyOut_1 : decode cX4_copyOut 1 = .ok (.iload_n 1, 1) := by decide +kernel
theorem dX4_copyOut_2 : decode cX4_copyOut 2 = .ok (.invokevirtual 34, 3) := by decide +kernel
theorem dX4_copyOut_5 : decode cX4_copyOut 5 = .ok (.ifCond .eq 18, 3) := by decide +kernel
theorem dX4_copyOut_8 : decode cX4_copyOut 8 = .ok (.aload_n 0, 1) := by decide +kernel
theorem dX4_copyOut_9 : decode cX4_copyOut 9 = .ok (.getfield 9, 3) := by decide +kernel
theorem dX4_copyOut_12 : decode cX4_copyOut 12 = .ok (.iload_n 1, 1) := by decide +kernel
theorem dX4_copyOut_13 : decode cX4_copyOut 13 = .ok (.bipush 6, 2) := by decide +kernel
theorem dX4_copyOut_15 : decode cX4_copyOut 15 = .ok (.imul, 1) := by decide +kernel
theorem dX4_copyOut_16 : decode cX4_copyOut 16 = .ok (.aload_n 2, 1) := by decide +kernel
theorem dX4_copyOut_17 : decode cX4_copyOut 17 = .ok (.iconst 0, 1) := by decide +kernel
theorem dX4_copyOut_18 : decode cX4_copyOut 18 = .ok (.bipush 6, 2) := by decide +kernel
theorem dX4_copyOut_20 : decode cX4_copyOut 20 = .ok (.invokestatic 38, 3) := by decide +kernel
theorem dX4_copyOut_23 : decode cX4_copyOut 23 = .ok (.return_, 1) := by decide +kernel
theorem dX4_add_0 : decode cX4_add 0 = .ok (.aload_n 0, 1) := by decide +kernel
theorem dX4_add_1 : decode cX4_add 1 = .ok (.getfield 24, 3) := by decide +kernel
theorem dX4_add_4 : decode cX4_add 4 = .ok (.sipush 400, 3) := by decide +kernel
theorem dX4_add_7 : decode cX4_add 7 = .ok (.if_icmp .lt 4, 3) := by decide +kernel
theorem dX4_add_10 : decode cX4_add 10 = .ok (.return_, 1) := by decide +kernel
theorem dX4_add_11 : decode cX4_add 11 = .ok (.aload_n 1, 1) := by decide +kernel
theorem dX4_add_12 : decode cX4_add 12 = .ok (.invokestatic 44, 3) := by decide +kernel
theorem dX4_add_15 : decode cX4_add 15 = .ok (.istore_n 3, 1) := by decide +kernel
theorem dX4_add_16 : decode cX4_add 16 = .ok (.aload_n 1, 1) := by decide +kernel
theorem dX4_add_17 : decode cX4_add 17 = .ok (.iconst 0, 1) := by decide +kernel
theorem dX4_add_18 : decode cX4_add 18 = .ok (.aload_n 0, 1) := by decide +kernel
theorem dX4_add_19 : decode cX4_add 19 = .ok (.getfield 9, 3) := by decide +kernel
theorem dX4_add_22 : decode cX4_add 22 = .ok (.aload_n 0, 1) := by decide +kernel
theorem dX4_add_23 : decode cX4_add 23 = .ok (.getfield 24, 3) := by decide +kernel
theorem dX4_add_26 : decode cX4_add 26 = .ok (.bipush 6, 2) := by decide +kernel
theorem dX4_add_28 : decode cX4_add 28 = .ok (.imul, 1) := by decide +kernel
theorem dX4_add_29 : decode cX4_add 29 = .ok (.bipush 6, 2) := by decide +kernel
theorem dX4_add_31 : decode cX4_add 31 = .ok (.invokestatic 38, 3) := by decide +kernel
theorem dX4_add_34 : decode cX4_add 34 = .ok (.aload_n 0, 1) := by decide +kernel
theorem dX4_add_35 : decode cX4_add 35 = .ok (.getfield 15, 3) := by decide +kernel
theorem dX4_add_38 : decode cX4_add 38 = .ok (.aload_n 0, 1) := by decide +kernel
theorem dX4_add_39 : decode cX4_add 39 = .ok (.getfield 24, 3) := by decide +kernel
theorem dX4_add_42 : decode cX4_add 42 = .ok (.iload_n 2, 1) := by decide +kernel
theorem dX4_add_43 : decode cX4_add 43 = .ok (.iastore, 1) := by decide +kernel
theorem dX4_add_44 : decode cX4_add 44 = .ok (.aload_n 0, 1) := by decide +kernel
theorem dX4_add_45 : decode cX4_add 45 = .ok (.getfield 21, 3) := by decide +kernel
theorem dX4_add_48 : decode cX4_add 48 = .ok (.aload_n 0, 1) := by decide +kernel
theorem dX4_add_49 : decode cX4_add 49 = .ok (.getfield 24, 3) := by decide +kernel
theorem dX4_add_52 : decode cX4_add 52 = .ok (.aload_n 0, 1) := by decide +kernel
theorem dX4_add_53 : decode cX4_add 53 = .ok (.getfield 18, 3) := by decide +kernel
theorem dX4_add_56 : decode cX4_add 56 = .ok (.iload_n 3, 1) := by decide +kernel
theorem dX4_add_57 : decode cX4_add 57 = .ok (.iaload, 1) := by decide +kernel
theorem dX4_add_58 : decode cX4_add 58 = .ok (.iastore, 1) := by decide +kernel
theorem dX4_add_59 : decode cX4_add 59 = .ok (.aload_n 0, 1) := by decide +kernel
theorem dX4_add_60 : decode cX4_add 60 = .ok (.getfield 18, 3) := by decide +kernel
theorem dX4_add_63 : decode cX4_add 63 = .ok (.iload_n 3, 1) := by decide +kernel
theorem dX4_add_64 : decode cX4_add 64 = .ok (.aload_n 0, 1) := by decide +kernel
theorem dX4_add_65 : decode cX4_add 65 = .ok (.getfield 24, 3) := by decide +kernel
theorem dX4_add_68 : decode cX4_add 68 = .ok (.iastore, 1) := by decide +kernel
theorem dX4_add_69 : decode cX4_add 69 = .ok (.aload_n 0, 1) := by decide +kernel
theorem dX4_add_70 : decode cX4_add 70 = .ok (.dup, 1) := by decide +kernel
theorem dX4_add_71 : decode cX4_add 71 = .ok (.getfield 24, 3) := by decide +kernel
theorem dX4_add_74 : decode cX4_add 74 = .ok (.iconst 1, 1) := by decide +kernel
theorem dX4_add_75 : decode cX4_add 75 = .ok (.iadd, 1) := by decide +kernel
theorem dX4_add_76 : decode cX4_add 76 = .ok (.putfield 24, 3) := by decide +kernel
theorem dX4_add_79 : decode cX4_add 79 = .ok (.return_, 1) := by decide +kernel
theorem dX4_find_0 : decode cX4_find 0 = .ok (.aload_n 0, 1) := by decide +kernel
theorem dX4_find_1 : decode cX4_find 1 = .ok (.getfield 18, 3) := by decide +kernel
theorem dX4_find_4 : decode cX4_find 4 = .ok (.aload_n 1, 1) := by decide +kernel
theorem dX4_find_5 : decode cX4_find 5 = .ok (.invokestatic 44, 3) := by decide +kernel
theorem dX4_find_8 : decode cX4_find 8 = .ok (.iaload, 1) := by decide +kernel
theorem dX4_find_9 : decode cX4_find 9 = .ok (.istore_n 2, 1) := by decide +kernel
theorem dX4_find_10 : decode cX4_find 10 = .ok (.iconst 0, 1) := by decide +kernel
theorem dX4_find_11 : decode cX4_find 11 = .ok (.istore_n 3, 1) := by decide +kernel
theorem dX4_find_12 : decode cX4_find 12 = .ok (.iload_n 3, 1) := by decide +kernel
theorem dX4_find_13 : decode cX4_find 13 = .ok (.sipush 400, 3) := by decide +kernel
theorem dX4_find_16 : decode cX4_find 16 = .ok (.if_icmp .ge 35, 3) := by decide +kernel
theorem dX4_find_19 : decode cX4_find 19 = .ok (.aload_n 0, 1) := by decide +kernel
theorem dX4_find_20 : decode cX4_find 20 = .ok (.iload_n 2, 1) := by decide +kernel
theorem dX4_find_21 : decode cX4_find 21 = .ok (.invokevirtual 34, 3) := by decide +kernel
theorem dX4_find_24 : decode cX4_find 24 = .ok (.ifCond .eq 27, 3) := by decide +kernel
theorem dX4_find_27 : decode cX4_find 27 = .ok (.aload_n 0, 1) := by decide +kernel
theorem dX4_find_28 : decode cX4_find 28 = .ok (.iload_n 2, 1) := by decide +kernel
theorem dX4_find_29 : decode cX4_find 29 = .ok (.aload_n 1, 1) := by decide +kernel
theorem dX4_find_30 : decode cX4_find 30 = .ok (.invokevirtual 48, 3) := by decide +kernel
theorem dX4_find_33 : decode cX4_find 33 = .ok (.ifCond .eq 5, 3) := by decide +kernel
theorem dX4_find_36 : decode cX4_find 36 = .ok (.iload_n 2, 1) := by decide +kernel
theorem dX4_find_37 : decode cX4_find 37 = .ok (.ireturn, 1) := by decide +kernel
theorem dX4_find_38 : decode cX4_find 38 = .ok (.aload_n 0, 1) := by decide +kernel
theorem dX4_find_39 : decode cX4_find 39 = .ok (.getfield 21, 3) := by decide +kernel
theorem dX4_find_42 : decode cX4_find 42 = .ok (.iload_n 2, 1) := by decide +kernel
theorem dX4_find_43 : decode cX4_find 43 = .ok (.iaload, 1) := by decide +kernel
theorem dX4_find_44 : decode cX4_find 44 = .ok (.istore_n 2, 1) := by decide +kernel
theorem dX4_find_45 : decode cX4_find 45 = .ok (.iinc 3 1, 3) := by decide +kernel
theorem dX4_find_48 : decode cX4_find 48 = .ok (.goto (-36), 3) := by decide +kernel
theorem dX4_find_51 : decode cX4_find 51 = .ok (.iconst (-1), 1) := by decide +kernel
theorem dX4_find_52 : decode cX4_find 52 = .ok (.ireturn, 1) := by decide +kernel
theorem dX4_isState_0 : decode cX4_isState 0 = .ok (.iconst 0, 1) := by decide +kernel
theorem dX4_isState_1 : decode cX4_isState 1 = .ok (.istore_n 3, 1) := by decide +kernel
theorem dX4_isState_2 : decode cX4_isState 2 = .ok (.iload_n 3, 1) := by decide +kernel
theorem dX4_isState_3 : decode cX4_isState 3 = .ok (.bipush 6, 2) := by decide +kernel
theorem dX4_isState_5 : decode cX4_isState 5 = .ok (.if_icmp .ge 28, 3) := by decide +kernel
theorem dX4_isState_8 : decode cX4_isState 8 = .ok (.aload_n 0, 1) := by decide +kernel
theorem dX4_isState_9 : decode cX4_isState 9 = .ok (.getfield 9, 3) := by decide +kernel
theorem dX4_isState_12 : decode cX4_isState 12 = .ok (.iload_n 1, 1) := by decide +kernel
theorem dX4_isState_13 : decode cX4_isState 13 = .ok (.bipush 6, 2) := by decide +kernel
theorem dX4_isState_15 : decode cX4_isState 15 = .ok (.imul, 1) := by decide +kernel
theorem dX4_isState_16 : decode cX4_isState 16 = .ok (.iload_n 3, 1) := by decide +kernel
theorem dX4_isState_17 : decode cX4_isState 17 = .ok (.iadd, 1) := by decide +kernel
theorem dX4_isState_18 : decode cX4_isState 18 = .ok (.iaload, 1) := by decide +kernel
theorem dX4_isState_19 : decode cX4_isState 19 = .ok (.aload_n 2, 1) := by decide +kernel
theorem dX4_isState_20 : decode cX4_isState 20 = .ok (.iload_n 3, 1) := by decide +kernel
theorem dX4_isState_21 : decode cX4_isState 21 = .ok (.iaload, 1) := by decide +kernel
theorem dX4_isState_22 : decode cX4_isState 22 = .ok (.if_icmp .eq 5, 3) := by decide +kernel
theorem dX4_isState_25 : decode cX4_isState 25 = .ok (.iconst 0, 1) := by decide +kernel
theorem dX4_isState_26 : decode cX4_isState 26 = .ok (.ireturn, 1) := by decide +kernel
theorem dX4_isState_27 : decode cX4_isState 27 = .ok (.iinc 3 1, 3) := by decide +kernel
theorem dX4_isState_30 : decode cX4_isState 30 = .ok (.goto (-28), 3) := by decide +kernel
theorem dX4_isState_33 : decode cX4_isState 33 = .ok (.iconst 1, 1) := by decide +kernel
theorem dX4_isState_34 : decode cX4_isState 34 = .ok (.ireturn, 1) := by decide +kernel
theorem dX4_bucketOf_0 : decode cX4_bucketOf 0 = .ok (.iconst 0, 1) := by decide +kernel
theorem dX4_bucketOf_1 : decode cX4_bucketOf 1 = .ok (.istore_n 1, 1) := by decide +kernel
theorem dX4_bucketOf_2 : decode cX4_bucketOf 2 = .ok (.iconst 0, 1) := by decide +kernel
theorem dX4_bucketOf_3 : decode cX4_bucketOf 3 = .ok (.istore_n 2, 1) := by decide +kernel
theorem dX4_bucketOf_4 : decode cX4_bucketOf 4 = .ok (.iload_n 2, 1) := by decide +kernel
theorem dX4_bucketOf_5 : decode cX4_bucketOf 5 = .ok (.bipush 6, 2) := by decide +kernel
theorem dX4_bucketOf_7 : decode cX4_bucketOf 7 = .ok (.if_icmp .ge 18, 3) := by decide +kernel
theorem dX4_bucketOf_10 : decode cX4_bucketOf 10 = .ok (.iload_n 1, 1) := by decide +kernel
theorem dX4_bucketOf_11 : decode cX4_bucketOf 11 = .ok (.bipush 31, 2) := by decide +kernel
theorem dX4_bucketOf_13 : decode cX4_bucketOf 13 = .ok (.imul, 1) := by decide +kernel
theorem dX4_bucketOf_14 : decode cX4_bucketOf 14 = .ok (.aload_n 0, 1) := by decide +kernel
theorem dX4_bucketOf_15 : decode cX4_bucketOf 15 = .ok (.iload_n 2, 1) := by decide +kernel
theorem dX4_bucketOf_16 : decode cX4_bucketOf 16 = .ok (.iaload, 1) := by decide +kernel
theorem dX4_bucketOf_17 : decode cX4_bucketOf 17 = .ok (.iadd, 1) := by decide +kernel
theorem dX4_bucketOf_18 : decode cX4_bucketOf 18 = .ok (.istore_n 1, 1) := by decide +kernel
theorem dX4_bucketOf_19 : decode cX4_bucketOf 19 = .ok (.iinc 2 1, 3) := by decide +kernel
theorem dX4_bucketOf_22 : decode cX4_bucketOf 22 = .ok (.goto (-18), 3) := by decide +kernel
theorem dX4_bucketOf_25 : decode cX4_bucketOf 25 = .ok (.iload_n 1, 1) := by decide +kernel
theorem dX4_bucketOf_26 : decode cX4_bucketOf 26 = .ok (.iload_n 1, 1) := by decide +kernel
theorem dX4_bucketOf_27 : decode cX4_bucketOf 27 = .ok (.bipush 9, 2) := by decide +kernel
theorem dX4_bucketOf_29 : decode cX4_bucketOf 29 = .ok (.iushr, 1) := by decide +kernel
theorem dX4_bucketOf_30 : decode cX4_bucketOf 30 = .ok (.ixor, 1) := by decide +kernel
theorem dX4_bucketOf_31 : decode cX4_bucketOf 31 = .ok (.iload_n 1, 1) := by decide +kernel
theorem dX4_bucketOf_32 : decode cX4_bucketOf 32 = .ok (.bipush 18, 2) := by decide +kernel
theorem dX4_bucketOf_34 : decode cX4_bucketOf 34 = .ok (.iushr, 1) := by decide +kernel
theorem dX4_bucketOf_35 : decode cX4_bucketOf 35 = .ok (.ixor, 1) := by decide +kernel
theorem dX4_bucketOf_36 : decode cX4_bucketOf 36 = .ok (.sipush 511, 3) := by decide +kernel
theorem dX4_bucketOf_39 : decode cX4_bucketOf 39 = .ok (.iand, 1) := by decide +kernel
theorem dX4_bucketOf_40 : decode cX4_bucketOf 40 = .ok (.ireturn, 1) := by decide +kernel
theorem dX5_init_0 : decode cX5_init 0 = .ok (.aload_n 0, 1) := by decide +kernel
theorem dX5_init_1 : decode cX5_init 1 = .ok (.invokespecial 3, 3) := by decide +kernel
theorem dX5_init_4 : decode cX5_init 4 = .ok (.aload_n 0, 1) := by decide +kernel
theorem dX5_init_5 : decode cX5_init 5 = .ok (.sipush 400, 3) := by decide +kernel
theorem dX5_init_8 : decode cX5_init 8 = .ok (.newarray .int, 2) := by decide +kernel
theorem dX5_init_10 : decode cX5_init 10 = .ok (.putfield 9, 3) := by decide +kernel
theorem dX5_init_13 : decode cX5_init 13 = .ok (.aload_n 0, 1) := by decide +kernel
theorem dX5_init_14 : decode cX5_init 14 = .ok (.sipush 400, 3) := by decide +kernel
theorem dX5_init_17 : decode cX5_init 17 = .ok (.newarray .int, 2) := by decide +kernel
theorem dX5_init_19 : decode cX5_init 19 = .ok (.putfield 15, 3) := by decide +kernel
theorem dX5_init_22 : decode cX5_init 22 = .ok (.aload_n 0, 1) := by decide +kernel
theorem dX5_init_23 : decode cX5_init 23 = .ok (.sipush 2400, 3) := by decide +kernel
theorem dX5_init_26 : decode cX5_init 26 = .ok (.newarray .int, 2) := by decide +kernel
theorem dX5_init_28 : decode cX5_init 28 = .ok (.putfield 18, 3) := by decide +kernel
theorem dX5_init_31 : decode cX5_init 31 = .ok (.return_, 1) := by decide +kernel
theorem dX5_clear_0 : decode cX5_clear 0 = .ok (.aload_n 0, 1) := by decide +kernel
theorem dX5_clear_1 : decode cX5_clear 1 = .ok (.iconst 0, 1) := by decide +kernel
theorem dX5_clear_2 : decode cX5_clear 2 = .ok (.putfield 21, 3) := by decide +kernel
theorem dX5_clear_5 : decode cX5_clear 5 = .ok (.return_, 1) := by decide +kernel
theorem dX5_steps_0 : decode cX5_steps 0 = .ok (.aload_n 0, 1) := by decide +kernel
theorem dX5_steps_1 : decode cX5_steps 1 = .ok (.getfield 21, 3) := by decide +kernel
theorem dX5_steps_4 : decode cX5_steps 4 = .ok (.ireturn, 1) := by decide +kernel
theorem dX5_hasState_0 : decode cX5_hasState 0 = .ok (.iload_n 1, 1) := by decide +kernel
theorem dX5_hasState_1 : decode cX5_hasState 1 = .ok (.ifCond .lt 22, 3) := by decide +kernel
theorem dX5_hasState_4 : decode cX5_hasState 4 = .ok (.iload_n 1, 1) := by decide +kernel
theorem dX5_hasState_5 : decode cX5_hasState 5 = .ok (.aload_n 0, 1) := by decide +kernel
theorem dX5_hasState_6 : decode cX5_hasState 6 = .ok (.getfield 21, 3) := by decide +kernel
theorem dX5_hasState_9 : decode cX5_hasState 9 = .ok (.if_icmp .gt 14, 3) := by decide +kernel
theorem dX5_hasState_12 : decode cX5_hasState 12 = .ok (.iload_n 1, 1) := by decide +kernel
theorem dX5_hasState_13 : decode cX5_hasState 13 = .ok (.sipush 400, 3) := by decide +kernel
theorem dX5_hasState_16 : decode cX5_hasState 16 = .ok (.if_icmp .ge 7, 3) := by decide +kernel
theorem dX5_hasState_19 : decode cX5_hasState 19 = .ok (.iconst 1, 1) := by decide +kernel
theorem dX5_hasState_20 : decode cX5_hasState 20 = .ok (.goto 4, 3) := by decide +kernel
theorem dX5_hasState_23 : decode cX5_hasState 23 = .ok (.iconst 0, 1) := by decide +kernel
theorem dX5_hasState_24 : decode cX5_hasState 24 = .ok (.ireturn, 1) := by decide +kernel
theorem dX5_begin_0 : decode cX5_begin 0 = .ok (.aload_n 2, 1) := by decide +kernel
theorem dX5_begin_1 : decode cX5_begin 1 = .ok (.invokevirtual 25, 3) := by decide +kernel
theorem dX5_begin_4 : decode cX5_begin 4 = .ok (.iconst 1, 1) := by decide +kernel
theorem dX5_begin_5 : decode cX5_begin 5 = .ok (.isub, 1) := by decide +kernel
theorem dX5_begin_6 : decode cX5_begin 6 = .ok (.istore_n 3, 1) := by decide +kernel
theorem dX5_begin_7 : decode cX5_begin 7 = .ok (.aload_n 0, 1) := by decide +kernel
theorem dX5_begin_8 : decode cX5_begin 8 = .ok (.iload_n 3, 1) := by decide +kernel
theorem dX5_begin_9 : decode cX5_begin 9 = .ok (.aload_n 2, 1) := by decide +kernel
theorem dX5_begin_10 : decode cX5_begin 10 = .ok (.invokestatic 31, 3) := by decide +kernel
theorem dX5_begin_13 : decode cX5_begin 13 = .ok (.putfield 21, 3) := by decide +kernel
theorem dX5_begin_16 : decode cX5_begin 16 = .ok (.iload_n 3, 1) := by decide +kernel
theorem dX5_begin_17 : decode cX5_begin 17 = .ok (.istore 4, 2) := by decide +kernel
theorem dX5_begin_19 : decode cX5_begin 19 = .ok (.aload_n 0, 1) := by decide +kernel
theorem dX5_begin_20 : decode cX5_begin 20 = .ok (.getfield 21, 3) := by decide +kernel
theorem dX5_begin_23 : decode cX5_begin 23 = .ok (.istore 5, 2) := by decide +kernel
theorem dX5_begin_25 : decode cX5_begin 25 = .ok (.iload 5, 2) := by decide +kernel
theorem dX5_begin_27 : decode cX5_begin 27 = .ok (.ifCond .lt 26, 3) := by decide +kernel
theorem dX5_begin_30 : decode cX5_begin 30 = .ok (.aload_n 0, 1) := by decide +kernel
theorem dX5_begin_31 : decode cX5_begin 31 = .ok (.getfield 9, 3) := by decide +kernel
theorem dX5_begin_34 : decode cX5_begin 34 = .ok (.iload 5, 2) := by decide +kernel
theorem dX5_begin_36 : decode cX5_begin 36 = .ok (.iload 4, 2) := by decide +kernel
theorem dX5_begin_38 : decode cX5_begin 38 = .ok (.iastore, 1) := by decide +kernel
theorem dX5_begin_39 : decode cX5_begin 39 = .ok (.aload_n 2, 1) := by decide +kernel
theorem dX5_begin_40 : decode cX5_begin 40 = .ok (.iload 4, 2) := by decide +kernel
theorem dX5_begin_42 : decode cX5_begin 42 = .ok (.invokevirtual 35, 3) := by decide +kernel
theorem dX5_begin_45 : decode cX5_begin 45 = .ok (.istore 4, 2) := by decide +kernel
theorem dX5_begin_47 : decode cX5_begin 47 = .ok (.iinc 5 (-1), 3) := by decide +kernel
theorem dX5_begin_50 : decode cX5_begin 50 = .ok (.goto (-25), 3) := by decide +kernel
theorem dX5_begin_53 : decode cX5_begin 53 = .ok (.aload_n 1, 1) := by decide +kernel
theorem dX5_begin_54 : decode cX5_begin 54 = .ok (.iconst 0, 1) := by decide +kernel
theorem dX5_begin_55 : decode cX5_begin 55 = .ok (.aload_n 0, 1) := by decide +kernel
theorem dX5_begin_56 : decode cX5_begin 56 = .ok (.getfield 18, 3) := by decide +kernel
theorem dX5_begin_59 : decode cX5_begin 59 = .ok (.iconst 0, 1) := by decide +kernel
theorem dX5_begin_60 : decode cX5_begin 60 = .ok (.bipush 6, 2) := by decide +kernel
theorem dX5_begin_62 : decode cX5_begin 62 = .ok (.invokestatic 39, 3) := by decide +kernel
theorem dX5_begin_65 : decode cX5_begin 65 = .ok (.return_, 1) := by decide +kernel
theorem dX5_stepsTo_0 : decode cX5_stepsTo 0 = .ok (.iload_n 0, 1) := by decide +kernel
theorem dX5_stepsTo_1 : decode cX5_stepsTo 1 = .ok (.istore_n 2, 1) := by decide +kernel
theorem dX5_stepsTo_2 : decode cX5_stepsTo 2 = .ok (.iconst 0, 1) := by decide +kernel
theorem dX5_stepsTo_3 : decode cX5_stepsTo 3 = .ok (.istore_n 3, 1) := by decide +kernel
theorem dX5_stepsTo_4 : decode cX5_stepsTo 4 = .ok (.iload_n 3, 1) := by decide +kernel
theorem dX5_stepsTo_5 : decode cX5_stepsTo 5 = .ok (.sipush 399, 3) := by decide +kernel
theorem dX5_stepsTo_8 : decode cX5_stepsTo 8 = .ok (.if_icmp .ge 24, 3) := by decide +kernel
theorem dX5_stepsTo_11 : decode cX5_stepsTo 11 = .ok (.aload_n 1, 1) := by decide +kernel
theorem dX5_stepsTo_12 : decode cX5_stepsTo 12 = .ok (.iload_n 2, 1) := by decide +kernel
theorem dX5_stepsTo_13 : decode cX5_stepsTo 13 = .ok (.invokevirtual 35, 3) := by decide +kernel
theorem dX5_stepsTo_16 : decode cX5_stepsTo 16 = .ok (.iconst (-1), 1) := by decide +kernel
theorem dX5_stepsTo_17 : decode cX5_stepsTo 17 = .ok (.if_icmp .eq 15, 3) := by decide +kernel
theorem dX5_stepsTo_20 : decode cX5_stepsTo 20 = .ok (.aload_n 1, 1) := by decide +kernel
theorem dX5_stepsTo_21 : decode cX5_stepsTo 21 = .ok (.iload_n 2, 1) := by decide +kernel
theorem dX5_stepsTo_22 : decode cX5_stepsTo 22 = .ok (.invokevirtual 35, 3) := by decide +kernel
theorem dX5_stepsTo_25 : decode cX5_stepsTo 25 = .ok (.istore_n 2, 1) := by decide +kernel
theorem dX5_stepsTo_26 : decode cX5_stepsTo 26 = .ok (.iinc 3 1, 3) := by decide +kernel
theorem dX5_stepsTo_29 : decode cX5_stepsTo 29 = .ok (.goto (-25), 3) := by decide +kernel
theorem dX5_stepsTo_32 : decode cX5_stepsTo 32 = .ok (.iload_n 3, 1) := by decide +kernel
theorem dX5_stepsTo_33 : decode cX5_stepsTo 33 = .ok (.ireturn, 1) := by decide +kernel
theorem dX5_wayAt_0 : decode cX5_wayAt 0 = .ok (.aload_n 0, 1) := by decide +kernel
theorem dX5_wayAt_1 : decode cX5_wayAt 1 = .ok (.iload_n 1, 1) := by decide +kernel
theorem dX5_wayAt_2 : decode cX5_wayAt 2 = .ok (.invokevirtual 45, 3) := by decide +kernel
theorem dX5_wayAt_5 : decode cX5_wayAt 5 = .ok (.ifCond .eq 12, 3) := by decide +kernel
theorem dX5_wayAt_8 : decode cX5_wayAt 8 = .ok (.aload_n 0, 1) := by decide +kernel
theorem dX5_wayAt_9 : decode cX5_wayAt 9 = .ok (.getfield 9, 3) := by decide +kernel
theorem dX5_wayAt_12 : decode cX5_wayAt 12 = .ok (.iload_n 1, 1) := by decide +kernel
theorem dX5_wayAt_13 : decode cX5_wayAt 13 = .ok (.iaload, 1) := by decide +kernel
theorem dX5_wayAt_14 : decode cX5_wayAt 14 = .ok (.goto 4, 3) := by decide +kernel
theorem dX5_wayAt_17 : decode cX5_wayAt 17 = .ok (.iconst (-1), 1) := by decide +kernel
theorem dX5_wayAt_18 : decode cX5_wayAt 18 = .ok (.ireturn, 1) := by decide +kernel
theorem dX5_ruleAt_0 : decode cX5_ruleAt 0 = .ok (.iload_n 1, 1) := by decide +kernel
theorem dX5_ruleAt_1 : decode cX5_ruleAt 1 = .ok (.ifCond .lt 20, 3) := by decide +kernel
theorem dX5_ruleAt_4 : decode cX5_ruleAt 4 = .ok (.iload_n 1, 1) := by decide +kernel
theorem dX5_ruleAt_5 : decode cX5_ruleAt 5 = .ok (.aload_n 0, 1) := by decide +kernel
theorem dX5_ruleAt_6 : decode cX5_ruleAt 6 = .ok (.getfield 21, 3) := by decide +kernel
theorem dX5_ruleAt_9 : decode cX5_ruleAt 9 = .ok (.if_icmp .ge 12, 3) := by decide +kernel
theorem dX5_ruleAt_12 : decode cX5_ruleAt 12 = .ok (.aload_n 0, 1) := by decide +kernel
theorem dX5_ruleAt_13 : decode cX5_ruleAt 13 = .ok (.getfield 15, 3) := by decide +kernel
theorem dX5_ruleAt_16 : decode cX5_ruleAt 16 = .ok (.iload_n 1, 1) := by decide +kernel
theorem dX5_ruleAt_17 : decode cX5_ruleAt 17 = .ok (.iaload, 1) := by decide +kernel
theorem dX5_ruleAt_18 : decode cX5_ruleAt 18 = .ok (.goto 4, 3) := by decide +kernel
theorem dX5_ruleAt_21 : decode cX5_ruleAt 21 = .ok (.iconst (-1), 1) := by decide +kernel
theorem dX5_ruleAt_22 : decode cX5_ruleAt 22 = .ok (.ireturn, 1) := by decide +kernel
theorem dX5_copyOut_0 : decode cX5_copyOut 0 = .ok (.aload_n 0, 1) := by decide +kernel
theorem dX5_copyOut_1 : decode cX5_copyOut 1 = .ok (.iload_n 1, 1) := by decide +kernel
theorem dX5_copyOut_2 : decode cX5_copyOut 2 = .ok (.invokevirtual 45, 3) := by decide +kernel
theorem dX5_copyOut_5 : decode cX5_copyOut 5 = .ok (.ifCond .eq 18, 3) := by decide +kernel
theorem dX5_copyOut_8 : decode cX5_copyOut 8 = .ok (.aload_n 0, 1) := by decide +kernel
theorem dX5_copyOut_9 : decode cX5_copyOut 9 = .ok (.getfield 18, 3) := by decide +kernel
theorem dX5_copyOut_12 : decode cX5_copyOut 12 = .ok (.iload_n 1, 1) := by decide +kernel
theorem dX5_copyOut_13 : decode cX5_copyOut 13 = .ok (.bipush 6, 2) := by decide +kernel
theorem dX5_copyOut_15 : decode cX5_copyOut 15 = .ok (.imul, 1) := by decide +kernel
theorem dX5_copyOut_16 : decode cX5_copyOut 16 = .ok (.aload_n 2, 1) := by decide +kernel
theorem dX5_copyOut_17 : decode cX5_copyOut 17 = .ok (.iconst 0, 1) := by decide +kernel
theorem dX5_copyOut_18 : decode cX5_copyOut 18 = .ok (.bipush 6, 2) := by decide +kernel
theorem dX5_copyOut_20 : decode cX5_copyOut 20 = .ok (.invokestatic 39, 3) := by decide +kernel
theorem dX5_copyOut_23 : decode cX5_copyOut 23 = .ok (.return_, 1) := by decide +kernel
theorem dX5_putStep_0 : decode cX5_putStep 0 = .ok (.iload_n 1, 1) := by decide +kernel
theorem dX5_putStep_1 : decode cX5_putStep 1 = .ok (.ifCond .lt 37, 3) := by decide +kernel
theorem dX5_putStep_4 : decode cX5_putStep 4 = .ok (.aload_n 0, 1) := by decide +kernel
theorem dX5_putStep_5 : decode cX5_putStep 5 = .ok (.iload_n 1, 1) := by decide +kernel
theorem dX5_putStep_6 : decode cX5_putStep 6 = .ok (.iconst 1, 1) := by decide +kernel
theorem dX5_putStep_7 : decode cX5_putStep 7 = .ok (.iadd, 1) := by decide +kernel
theorem dX5_putStep_8 : decode cX5_putStep 8 = .ok (.invokevirtual 45, 3) := by decide +kernel
theorem dX5_putStep_11 : decode cX5_putStep 11 = .ok (.ifCond .eq 27, 3) := by decide +kernel
theorem dX5_putStep_14 : decode cX5_putStep 14 = .ok (.aload_n 0, 1) := by decide +kernel
theorem dX5_putStep_15 : decode cX5_putStep 15 = .ok (.getfield 15, 3) := by decide +kernel
theorem dX5_putStep_18 : decode cX5_putStep 18 = .ok (.iload_n 1, 1) := by decide +kernel
theorem dX5_putStep_19 : decode cX5_putStep 19 = .ok (.iload_n 2, 1) := by decide +kernel
theorem dX5_putStep_20 : decode cX5_putStep 20 = .ok (.iastore, 1) := by decide +kernel
theorem dX5_putStep_21 : decode cX5_putStep 21 = .ok (.aload_n 3, 1) := by decide +kernel
theorem dX5_putStep_22 : decode cX5_putStep 22 = .ok (.iconst 0, 1) := by decide +kernel
theorem dX5_putStep_23 : decode cX5_putStep 23 = .ok (.aload_n 0, 1) := by decide +kernel
theorem dX5_putStep_24 : decode cX5_putStep 24 = .ok (.getfield 18, 3) := by decide +kernel
theorem dX5_putStep_27 : decode cX5_putStep 27 = .ok (.iload_n 1, 1) := by decide +kernel
theorem dX5_putStep_28 : decode cX5_putStep 28 = .ok (.iconst 1, 1) := by decide +kernel
theorem dX5_putStep_29 : decode cX5_putStep 29 = .ok (.iadd, 1) := by decide +kernel
theorem dX5_putStep_30 : decode cX5_putStep 30 = .ok (.bipush 6, 2) := by decide +kernel
theorem dX5_putStep_32 : decode cX5_putStep 32 = .ok (.imul, 1) := by decide +kernel
theorem dX5_putStep_33 : decode cX5_putStep 33 = .ok (.bipush 6, 2) := by decide +kernel
theorem dX5_putStep_35 : decode cX5_putStep 35 = .ok (.invokestatic 39, 3) := by decide +kernel
theorem dX5_putStep_38 : decode cX5_putStep 38 = .ok (.return_, 1) := by decide +kernel
theorem dJ9_min_7cf53_0 : decode cJ9_min_7cf53 0 = .ok (.iload_n 0, 1) := by decide +kernel
theorem dJ9_min_7cf53_1 : decode cJ9_min_7cf53 1 = .ok (.iload_n 1, 1) := by decide +kernel
theorem dJ9_min_7cf53_2 : decode cJ9_min_7cf53 2 = .ok (.if_icmp .gt 7, 3) := by decide +kernel
theorem dJ9_min_7cf53_5 : decode cJ9_min_7cf53 5 = .ok (.iload_n 0, 1) := by decide +kernel
theorem dJ9_min_7cf53_6 : decode cJ9_min_7cf53 6 = .ok (.goto 4, 3) := by decide +kernel
theorem dJ9_min_7cf53_9 : decode cJ9_min_7cf53 9 = .ok (.iload_n 1, 1) := by decide +kernel
theorem dJ9_min_7cf53_10 : decode cJ9_min_7cf53 10 = .ok (.ireturn, 1) := by decide +kernel
theorem dJ7_fill_53178_0 : decode cJ7_fill_53178 0 = .ok (.iconst 0, 1) := by decide +kernel
theorem dJ7_fill_53178_1 : decode cJ7_fill_53178 1 = .ok (.istore_n 2, 1) := by decide +kernel
theorem dJ7_fill_53178_2 : decode cJ7_fill_53178 2 = .ok (.aload_n 0, 1) := by decide +kernel
theorem dJ7_fill_53178_3 : decode cJ7_fill_53178 3 = .ok (.arraylength, 1) := by decide +kernel
theorem dJ7_fill_53178_4 : decode cJ7_fill_53178 4 = .ok (.istore_n 3, 1) := by decide +kernel
theorem dJ7_fill_53178_5 : decode cJ7_fill_53178 5 = .ok (.iload_n 2, 1) := by decide +kernel
theorem dJ7_fill_53178_6 : decode cJ7_fill_53178 6 = .ok (.iload_n 3, 1) := by decide +kernel
theorem dJ7_fill_53178_7 : decode cJ7_fill_53178 7 = .ok (.if_icmp .ge 13, 3) := by decide +kernel
theorem dJ7_fill_53178_10 : decode cJ7_fill_53178 10 = .ok (.aload_n 0, 1) := by decide +kernel
theorem dJ7_fill_53178_11 : decode cJ7_fill_53178 11 = .ok (.iload_n 2, 1) := by decide +kernel
theorem dJ7_fill_53178_12 : decode cJ7_fill_53178 12 = .ok (.iload_n 1, 1) := by decide +kernel
theorem dJ7_fill_53178_13 : decode cJ7_fill_53178 13 = .ok (.iastore, 1) := by decide +kernel
theorem dJ7_fill_53178_14 : decode cJ7_fill_53178 14 = .ok (.iinc 2 1, 3) := by decide +kernel
theorem dJ7_fill_53178_17 : decode cJ7_fill_53178 17 = .ok (.goto (-12), 3) := by decide +kernel
theorem dJ7_fill_53178_20 : decode cJ7_fill_53178 20 = .ok (.return_, 1) := by decide +kernel
end
section
theorem dX8_init_0 : decode cX8_init 0 = .ok (.aload_n 0, 1) := by decide +kernel
theorem dX8_init_1 : decode cX8_init 1 = .ok (.invokespecial 1, 3) := by decide +kernel
theorem dX8_init_4 : decode cX8_init 4 = .ok (.aload_n 0, 1) := by decide +kernel
theorem dX8_init_5 : decode cX8_init 5 = .ok (.bipush 6, 2) := by decide +kernel
theorem dX8_init_7 : decode cX8_init 7 = .ok (.newarray .int, 2) := by decide +kernel
theorem dX8_init_9 : decode cX8_init 9 = .ok (.putfield 9, 3) := by decide +kernel
theorem dX8_init_12 : decode cX8_init 12 = .ok (.aload_n 0, 1) := by decide +kernel
theorem dX8_init_13 : decode cX8_init 13 = .ok (.bipush 6, 2) := by decide +kernel
theorem dX8_init_15 : decode cX8_init 15 = .ok (.newarray .int, 2) := by decide +kernel
theorem dX8_init_17 : decode cX8_init 17 = .ok (.putfield 13, 3) := by decide +kernel
theorem dX8_init_20 : decode cX8_init 20 = .ok (.aload_n 0, 1) := by decide +kernel
theorem dX8_init_21 : decode cX8_init 21 = .ok (.new 16, 3) := by decide +kernel
theorem dX8_init_24 : decode cX8_init 24 = .ok (.dup, 1) := by decide +kernel
theorem dX8_init_25 : decode cX8_init 25 = .ok (.invokespecial 18, 3) := by decide +kernel
theorem dX8_init_28 : decode cX8_init 28 = .ok (.putfield 19, 3) := by decide +kernel
theorem dX8_init_31 : decode cX8_init 31 = .ok (.aload_n 0, 1) := by decide +kernel
theorem dX8_init_32 : decode cX8_init 32 = .ok (.new 23, 3) := by decide +kernel
theorem dX8_init_35 : decode cX8_init 35 = .ok (.dup, 1) := by decide +kernel
theorem dX8_init_36 : decode cX8_init 36 = .ok (.invokespecial 25, 3) := by decide +kernel
theorem dX8_init_39 : decode cX8_init 39 = .ok (.putfield 26, 3) := by decide +kernel
theorem dX8_init_42 : decode cX8_init 42 = .ok (.aload_n 0, 1) := by decide +kernel
theorem dX8_init_43 : decode cX8_init 43 = .ok (.new 30, 3) := by decide +kernel
theorem dX8_init_46 : decode cX8_init 46 = .ok (.dup, 1) := by decide +kernel
theorem dX8_init_47 : decode cX8_init 47 = .ok (.invokespecial 32, 3) := by decide +kernel
theorem dX8_init_50 : decode cX8_init 50 = .ok (.putfield 33, 3) := by decide +kernel
theorem dX8_init_53 : decode cX8_init 53 = .ok (.aload_n 0, 1) := by decide +kernel
theorem dX8_init_54 : decode cX8_init 54 = .ok (.new 37, 3) := by decide +kernel
theorem dX8_init_57 : decode cX8_init 57 = .ok (.dup, 1) := by decide +kernel
theorem dX8_init_58 : decode cX8_init 58 = .ok (.invokespecial 39, 3) := by decide +kernel
theorem dX8_init_61 : decode cX8_init 61 = .ok (.putfield 40, 3) := by decide +kernel
theorem dX8_init_64 : decode cX8_init 64 = .ok (.aload_n 0, 1) := by decide +kernel
theorem dX8_init_65 : decode cX8_init 65 = .ok (.new 44, 3) := by decide +kernel
theorem dX8_init_68 : decode cX8_init 68 = .ok (.dup, 1) := by decide +kernel
theorem dX8_init_69 : decode cX8_init 69 = .ok (.invokespecial 46, 3) := by decide +kernel
theorem dX8_init_72 : decode cX8_init 72 = .ok (.putfield 47, 3) := by decide +kernel
theorem dX8_init_75 : decode cX8_init 75 = .ok (.aload_n 0, 1) := by decide +kernel
theorem dX8_init_76 : decode cX8_init 76 = .ok (.new 51, 3) := by decide +kernel
theorem dX8_init_79 : decode cX8_init 79 = .ok (.dup, 1) := by decide +kernel
theorem dX8_init_80 : decode cX8_init 80 = .ok (.invokespecial 53, 3) := by decide +kernel
theorem dX8_init_83 : decode cX8_init 83 = .ok (.putfield 54, 3) := by decide +kernel
theorem dX8_init_86 : decode cX8_init 86 = .ok (.aload_n 0, 1) := by decide +kernel
theorem dX8_init_87 : decode cX8_init 87 = .ok (.bipush 6, 2) := by decide +kernel
theorem dX8_init_89 : decode cX8_init 89 = .ok (.newarray .int, 2) := by decide +kernel
theorem dX8_init_91 : decode cX8_init 91 = .ok (.putfield 58, 3) := by decide +kernel
theorem dX8_init_94 : decode cX8_init 94 = .ok (.aload_n 0, 1) := by decide +kernel
theorem dX8_init_95 : decode cX8_init 95 = .ok (.bipush 6, 2) := by decide +kernel
theorem dX8_init_97 : decode cX8_init 97 = .ok (.newarray .int, 2) := by decide +kernel
theorem dX8_init_99 : decode cX8_init 99 = .ok (.putfield 61, 3) := by decide +kernel
theorem dX8_init_102 : decode cX8_init 102 = .ok (.aload_n 0, 1) := by decide +kernel
theorem dX8_init_103 : decode cX8_init 103 = .ok (.bipush 6, 2) := by decide +kernel
theorem dX8_init_105 : decode cX8_init 105 = .ok (.newarray .int, 2) := by decide +kernel
theorem dX8_init_107 : decode cX8_init 107 = .ok (.putfield 64, 3) := by decide +kernel
theorem dX8_init_110 : decode cX8_init 110 = .ok (.aload_n 0, 1) := by decide +kernel
theorem dX8_init_111 : decode cX8_init 111 = .ok (.invokevirtual 67, 3) := by decide +kernel
theorem dX8_init_114 : decode cX8_init 114 = .ok (.return_, 1) := by decide +kernel
theorem dX8_init__0 : decode cX8_init_ 0 = .ok (.aload_n 0, 1) := by decide +kernel
theorem dX8_init__1 : decode cX8_init_ 1 = .ok (.getfield 9, 3) := by decide +kernel
theorem dX8_init__4 : decode cX8_init_ 4 = .ok (.iconst 0, 1) := by decide +kernel
theorem dX8_init__5 : decode cX8_init_ 5 = .ok (.invokestatic 70, 3) := by decide +kernel
theorem dX8_init__8 : decode cX8_init_ 8 = .ok (.aload_n 0, 1) := by decide +kernel
theorem dX8_init__9 : decode cX8_init_ 9 = .ok (.getfield 13, 3) := by decide +kernel
theorem dX8_init__12 : decode cX8_init_ 12 = .ok (.iconst 0, 1) := by decide +kernel
theorem dX8_init__13 : decode cX8_init_ 13 = .ok (.invokestatic 70, 3) := by decide +kernel
theorem dX8_init__16 : decode cX8_init_ 16 = .ok (.aload_n 0, 1) := by decide +kernel
theorem dX8_init__17 : decode cX8_init_ 17 = .ok (.getfield 19, 3) := by decide +kernel
theorem dX8_init__20 : decode cX8_init_ 20 = .ok (.invokevirtual 76, 3) := by decide +kernel
theorem dX8_init__23 : decode cX8_init_ 23 = .ok (.aload_n 0, 1) := by decide +kernel
theorem dX8_init__24 : decode cX8_init_ 24 = .ok (.getfield 26, 3) := by decide +kernel
theorem dX8_init__27 : decode cX8_init_ 27 = .ok (.invokevirtual 79, 3) := by decide +kernel
theorem dX8_init__30 : decode cX8_init_ 30 = .ok (.aload_n 0, 1) := by decide +kernel
theorem dX8_init__31 : decode cX8_init_ 31 = .ok (.getfield 33, 3) := by decide +kernel
theorem dX8_init__34 : decode cX8_init_ 34 = .ok (.getfield 80, 3) := by decide +kernel
theorem dX8_init__37 : decode cX8_init_ 37 = .ok (.invokevirtual 84, 3) := by decide +kernel
theorem dX8_init__40 : decode cX8_init_ 40 = .ok (.aload_n 0, 1) := by decide +kernel
theorem dX8_init__41 : decode cX8_init_ 41 = .ok (.getfield 47, 3) := by decide +kernel
theorem dX8_init__44 : decode cX8_init_ 44 = .ok (.invokevirtual 87, 3) := by decide +kernel
theorem dX8_init__47 : decode cX8_init_ 47 = .ok (.aload_n 0, 1) := by decide +kernel
theorem dX8_init__48 : decode cX8_init_ 48 = .ok (.getfield 54, 3) := by decide +kernel
theorem dX8_init__51 : decode cX8_init_ 51 = .ok (.invokevirtual 88, 3) := by decide +kernel
theorem dX8_init__54 : decode cX8_init_ 54 = .ok (.aload_n 0, 1) := by decide +kernel
theorem dX8_init__55 : decode cX8_init_ 55 = .ok (.iconst 0, 1) := by decide +kernel
theorem dX8_init__56 : decode cX8_init_ 56 = .ok (.putfield 89, 3) := by decide +kernel
theorem dX8_init__59 : decode cX8_init_ 59 = .ok (.aload_n 0, 1) := by decide +kernel
theorem dX8_init__60 : decode cX8_init_ 60 = .ok (.iconst 0, 1) := by decide +kernel
theorem dX8_init__61 : decode cX8_init_ 61 = .ok (.putfield 93, 3) := by decide +kernel
theorem dX8_init__64 : decode cX8_init_ 64 = .ok (.aload_n 0, 1) := by decide +kernel
theorem dX8_init__65 : decode cX8_init_ 65 = .ok (.iconst 0, 1) := by decide +kernel
theorem dX8_init__66 : decode cX8_init_ 66 = .ok (.putfield 96, 3) := by decide +kernel
theorem dX8_init__69 : decode cX8_init_ 69 = .ok (.aload_n 0, 1) := by decide +kernel
theorem dX8_init__70 : decode cX8_init_ 70 = .ok (.iconst 0, 1) := by decide +kernel
theorem dX8_init__71 : decode cX8_init_ 71 = .ok (.putfield 99, 3) := by decide +kernel
theorem dX8_init__74 : decode cX8_init_ 74 = .ok (.return_, 1) := by decide +kernel
theorem dX8_setInit_0 : decode cX8_setInit 0 = .ok (.iload_n 1, 1) := by decide +kernel
theorem dX8_setInit_1 : decode cX8_setInit 1 = .ok (.invokestatic 103, 3) := by decide +kernel
theorem dX8_setInit_4 : decode cX8_setInit 4 = .ok (.ifCond .ne 5, 3) := by decide +kernel
theorem dX8_setInit_7 : decode cX8_setInit 7 = .ok (.iconst (-1), 1) := by decide +kernel
theorem dX8_setInit_8 : decode cX8_setInit 8 = .ok (.ireturn, 1) := by decide +kernel
theorem dX8_setInit_9 : decode cX8_setInit 9 = .ok (.aload_n 0, 1) := by decide +kernel
theorem dX8_setInit_10 : decode cX8_setInit 10 = .ok (.getfield 89, 3) := by decide +kernel
theorem dX8_setInit_13 : decode cX8_setInit 13 = .ok (.ifCond .eq 6, 3) := by decide +kernel
theorem dX8_setInit_16 : decode cX8_setInit 16 = .ok (.bipush (-2), 2) := by decide +kernel
theorem dX8_setInit_18 : decode cX8_setInit 18 = .ok (.ireturn, 1) := by decide +kernel
theorem dX8_setInit_19 : decode cX8_setInit 19 = .ok (.aload_n 0, 1) := by decide +kernel
theorem dX8_setInit_20 : decode cX8_setInit 20 = .ok (.getfield 9, 3) := by decide +kernel
theorem dX8_setInit_23 : decode cX8_setInit 23 = .ok (.iload_n 1, 1) := by decide +kernel
theorem dX8_setInit_24 : decode cX8_setInit 24 = .ok (.iload_n 2, 1) := by decide +kernel
theorem dX8_setInit_25 : decode cX8_setInit 25 = .ok (.iastore, 1) := by decide +kernel
theorem dX8_setInit_26 : decode cX8_setInit 26 = .ok (.iconst 0, 1) := by decide +kernel
theorem dX8_setInit_27 : decode cX8_setInit 27 = .ok (.ireturn, 1) := by decide +kernel
theorem dX8_setSymGroup_0 : decode cX8_setSymGroup 0 = .ok (.iload_n 1, 1) := by decide +kernel
theorem dX8_setSymGroup_1 : decode cX8_setSymGroup 1 = .ok (.invokestatic 103, 3) := by decide +kernel
theorem dX8_setSymGroup_4 : decode cX8_setSymGroup 4 = .ok (.ifCond .eq 12, 3) := by decide +kernel
theorem dX8_setSymGroup_7 : decode cX8_setSymGroup 7 = .ok (.iload_n 2, 1) := by decide +kernel
theorem dX8_setSymGroup_8 : decode cX8_setSymGroup 8 = .ok (.ifCond .lt 8, 3) := by decide +kernel
theorem dX8_setSymGroup_11 : decode cX8_setSymGroup 11 = .ok (.iload_n 2, 1) := by decide +kernel
theorem dX8_setSymGroup_12 : decode cX8_setSymGroup 12 = .ok (.iconst 3, 1) := by decide +kernel
theorem dX8_setSymGroup_13 : decode cX8_setSymGroup 13 = .ok (.if_icmp .le 5, 3) := by decide +kernel
theorem dX8_setSymGroup_16 : decode cX8_setSymGroup 16 = .ok (.iconst (-1), 1) := by decide +kernel
theorem dX8_setSymGroup_17 : decode cX8_setSymGroup 17 = .ok (.ireturn, 1) := by decide +kernel
theorem dX8_setSymGroup_18 : decode cX8_setSymGroup 18 = .ok (.aload_n 0, 1) := by decide +kernel
theorem dX8_setSymGroup_19 : decode cX8_setSymGroup 19 = .ok (.getfield 89, 3) := by decide +kernel
theorem dX8_setSymGroup_22 : decode cX8_setSymGroup 22 = .ok (.ifCond .eq 6, 3) := by decide +kernel
theorem dX8_setSymGroup_25 : decode cX8_setSymGroup 25 = .ok (.bipush (-2), 2) := by decide +kernel
theorem dX8_setSymGroup_27 : decode cX8_setSymGroup 27 = .ok (.ireturn, 1) := by decide +kernel
theorem dX8_setSymGroup_28 : decode cX8_setSymGroup 28 = .ok (.aload_n 0, 1) := by decide +kernel
theorem dX8_setSymGroup_29 : decode cX8_setSymGroup 29 = .ok (.getfield 19, 3) := by decide +kernel
theorem dX8_setSymGroup_32 : decode cX8_setSymGroup 32 = .ok (.iload_n 1, 1) := by decide +kernel
theorem dX8_setSymGroup_33 : decode cX8_setSymGroup 33 = .ok (.iload_n 2, 1) := by decide +kernel
theorem dX8_setSymGroup_34 : decode cX8_setSymGroup 34 = .ok (.invokevirtual 107, 3) := by decide +kernel
theorem dX8_setSymGroup_37 : decode cX8_setSymGroup 37 = .ok (.iconst 0, 1) := by decide +kernel
theorem dX8_setSymGroup_38 : decode cX8_setSymGroup 38 = .ok (.ireturn, 1) := by decide +kernel
theorem dX8_beginRule_0 : decode cX8_beginRule 0 = .ok (.aload_n 0, 1) := by decide +kernel
theorem dX8_beginRule_1 : decode cX8_beginRule 1 = .ok (.getfield 89, 3) := by decide +kernel
theorem dX8_beginRule_4 : decode cX8_beginRule 4 = .ok (.ifCond .eq 6, 3) := by decide +kernel
theorem dX8_beginRule_7 : decode cX8_beginRule 7 = .ok (.bipush (-2), 2) := by decide +kernel
theorem dX8_beginRule_9 : decode cX8_beginRule 9 = .ok (.ireturn, 1) := by decide +kernel
theorem dX8_beginRule_10 : decode cX8_beginRule 10 = .ok (.aload_n 0, 1) := by decide +kernel
theorem dX8_beginRule_11 : decode cX8_beginRule 11 = .ok (.getfield 26, 3) := by decide +kernel
theorem dX8_beginRule_14 : decode cX8_beginRule 14 = .ok (.invokevirtual 111, 3) := by decide +kernel
theorem dX8_beginRule_17 : decode cX8_beginRule 17 = .ok (.ifCond .eq 8, 3) := by decide +kernel
theorem dX8_beginRule_20 : decode cX8_beginRule 20 = .ok (.bipush (-3), 2) := by decide +kernel
theorem dX8_beginRule_22 : decode cX8_beginRule 22 = .ok (.goto 10, 3) := by decide +kernel
theorem dX8_beginRule_25 : decode cX8_beginRule 25 = .ok (.aload_n 0, 1) := by decide +kernel
theorem dX8_beginRule_26 : decode cX8_beginRule 26 = .ok (.getfield 26, 3) := by decide +kernel
theorem dX8_beginRule_29 : decode cX8_beginRule 29 = .ok (.invokevirtual 115, 3) := by decide +kernel
theorem dX8_beginRule_32 : decode cX8_beginRule 32 = .ok (.ireturn, 1) := by decide +kernel
theorem dX8_feedRule_0 : decode cX8_feedRule 0 = .ok (.aload_n 0, 1) := by decide +kernel
theorem dX8_feedRule_1 : decode cX8_feedRule 1 = .ok (.getfield 89, 3) := by decide +kernel
theorem dX8_feedRule_4 : decode cX8_feedRule 4 = .ok (.ifCond .eq 6, 3) := by decide +kernel
theorem dX8_feedRule_7 : decode cX8_feedRule 7 = .ok (.bipush (-2), 2) := by decide +kernel
theorem dX8_feedRule_9 : decode cX8_feedRule 9 = .ok (.ireturn, 1) := by decide +kernel
theorem dX8_feedRule_10 : decode cX8_feedRule 10 = .ok (.aload_n 0, 1) := by decide +kernel
theorem dX8_feedRule_11 : decode cX8_feedRule 11 = .ok (.getfield 26, 3) := by decide +kernel
theorem dX8_feedRule_14 : decode cX8_feedRule 14 = .ok (.invokevirtual 119, 3) := by decide +kernel
theorem dX8_feedRule_17 : decode cX8_feedRule 17 = .ok (.ifCond .ne 6, 3) := by decide +kernel
theorem dX8_feedRule_20 : decode cX8_feedRule 20 = .ok (.bipush (-4), 2) := by decide +kernel
theorem dX8_feedRule_22 : decode cX8_feedRule 22 = .ok (.ireturn, 1) := by decide +kernel
theorem dX8_feedRule_23 : decode cX8_feedRule 23 = .ok (.aload_n 0, 1) := by decide +kernel
theorem dX8_feedRule_24 : decode cX8_feedRule 24 = .ok (.getfield 26, 3) := by decide +kernel
theorem dX8_feedRule_27 : decode cX8_feedRule 27 = .ok (.aload_n 0, 1) := by decide +kernel
theorem dX8_feedRule_28 : decode cX8_feedRule 28 = .ok (.getfield 26, 3) := by decide +kernel
theorem dX8_feedRule_31 : decode cX8_feedRule 31 = .ok (.invokevirtual 119, 3) := by decide +kernel
theorem dX8_feedRule_34 : decode cX8_feedRule 34 = .ok (.iconst 1, 1) := by decide +kernel
theorem dX8_feedRule_35 : decode cX8_feedRule 35 = .ok (.isub, 1) := by decide +kernel
theorem dX8_feedRule_36 : decode cX8_feedRule 36 = .ok (.invokevirtual 122, 3) := by decide +kernel
theorem dX8_feedRule_39 : decode cX8_feedRule 39 = .ok (.iload_n 1, 1) := by decide +kernel
theorem dX8_feedRule_40 : decode cX8_feedRule 40 = .ok (.invokestatic 126, 3) := by decide +kernel
theorem dX8_feedRule_43 : decode cX8_feedRule 43 = .ok (.ireturn, 1) := by decide +kernel
theorem dX8_feedInvariant_0 : decode cX8_feedInvariant 0 = .ok (.aload_n 0, 1) := by decide +kernel
theorem dX8_feedInvariant_1 : decode cX8_feedInvariant 1 = .ok (.getfield 89, 3) := by decide +kernel
theorem dX8_feedInvariant_4 : decode cX8_feedInvariant 4 = .ok (.ifCond .eq 6, 3) := by decide +kernel
theorem dX8_feedInvariant_7 : decode cX8_feedInvariant 7 = .ok (.bipush (-2), 2) := by decide +kernel
theorem dX8_feedInvariant_9 : decode cX8_feedInvariant 9 = .ok (.ireturn, 1) := by decide +kernel
theorem dX8_feedInvariant_10 : decode cX8_feedInvariant 10 = .ok (.aload_n 0, 1) := by decide +kernel
theorem dX8_feedInvariant_11 : decode cX8_feedInvariant 11 = .ok (.getfield 33, 3) := by decide +kernel
theorem dX8_feedInvariant_14 : decode cX8_feedInvariant 14 = .ok (.getfield 80, 3) := by decide +kernel
theorem dX8_feedInvariant_17 : decode cX8_feedInvariant 17 = .ok (.iload_n 1, 1) := by decide +kernel
theorem dX8_feedInvariant_18 : decode cX8_feedInvariant 18 = .ok (.invokestatic 126, 3) := by decide +kernel
theorem dX8_feedInvariant_21 : decode cX8_feedInvariant 21 = .ok (.ireturn, 1) := by decide +kernel
theorem dX8_seal_0 : decode cX8_seal 0 = .ok (.aload_n 0, 1) := by decide +kernel
theorem dX8_seal_1 : decode cX8_seal 1 = .ok (.getfield 89, 3) := by decide +kernel
theorem dX8_seal_4 : decode cX8_seal 4 = .ok (.ifCond .eq 6, 3) := by decide +kernel
theorem dX8_seal_7 : decode cX8_seal 7 = .ok (.bipush (-2), 2) := by decide +kernel
theorem dX8_seal_9 : decode cX8_seal 9 = .ok (.ireturn, 1) := by decide +kernel
theorem dX8_seal_10 : decode cX8_seal 10 = .ok (.aload_n 0, 1) := by decide +kernel
theorem dX8_seal_11 : decode cX8_seal 11 = .ok (.getfield 26, 3) := by decide +kernel
theorem dX8_seal_14 : decode cX8_seal 14 = .ok (.invokevirtual 130, 3) := by decide +kernel
theorem dX8_seal_17 : decode cX8_seal 17 = .ok (.ifCond .ne 5, 3) := by decide +kernel
theorem dX8_seal_20 : decode cX8_seal 20 = .ok (.iconst 1, 1) := by decide +kernel
theorem dX8_seal_21 : decode cX8_seal 21 = .ok (.ireturn, 1) := by decide +kernel
theorem dX8_seal_22 : decode cX8_seal 22 = .ok (.aload_n 0, 1) := by decide +kernel
theorem dX8_seal_23 : decode cX8_seal 23 = .ok (.getfield 33, 3) := by decide +kernel
theorem dX8_seal_26 : decode cX8_seal 26 = .ok (.invokevirtual 133, 3) := by decide +kernel
theorem dX8_seal_29 : decode cX8_seal 29 = .ok (.ifCond .ne 5, 3) := by decide +kernel
theorem dX8_seal_32 : decode cX8_seal 32 = .ok (.iconst 2, 1) := by decide +kernel
theorem dX8_seal_33 : decode cX8_seal 33 = .ok (.ireturn, 1) := by decide +kernel
theorem dX8_seal_34 : decode cX8_seal 34 = .ok (.aload_n 0, 1) := by decide +kernel
theorem dX8_seal_35 : decode cX8_seal 35 = .ok (.invokevirtual 136, 3) := by decide +kernel
theorem dX8_seal_38 : decode cX8_seal 38 = .ok (.ifCond .ne 5, 3) := by decide +kernel
theorem dX8_seal_41 : decode cX8_seal 41 = .ok (.iconst 3, 1) := by decide +kernel
theorem dX8_seal_42 : decode cX8_seal 42 = .ok (.ireturn, 1) := by decide +kernel
theorem dX8_seal_43 : decode cX8_seal 43 = .ok (.aload_n 0, 1) := by decide +kernel
theorem dX8_seal_44 : decode cX8_seal 44 = .ok (.iconst 1, 1) := by decide +kernel
theorem dX8_seal_45 : decode cX8_seal 45 = .ok (.putfield 89, 3) := by decide +kernel
theorem dX8_seal_48 : decode cX8_seal 48 = .ok (.aload_n 0, 1) := by decide +kernel
theorem dX8_seal_49 : decode cX8_seal 49 = .ok (.getfield 9, 3) := by decide +kernel
theorem dX8_seal_52 : decode cX8_seal 52 = .ok (.aload_n 0, 1) := by decide +kernel
theorem dX8_seal_53 : decode cX8_seal 53 = .ok (.getfield 64, 3) := by decide +kernel
theorem dX8_seal_56 : decode cX8_seal 56 = .ok (.invokestatic 139, 3) := by decide +kernel
theorem dX8_seal_59 : decode cX8_seal 59 = .ok (.aload_n 0, 1) := by decide +kernel
theorem dX8_seal_60 : decode cX8_seal 60 = .ok (.getfield 19, 3) := by decide +kernel
theorem dX8_seal_63 : decode cX8_seal 63 = .ok (.aload_n 0, 1) := by decide +kernel
theorem dX8_seal_64 : decode cX8_seal 64 = .ok (.getfield 64, 3) := by decide +kernel
theorem dX8_seal_67 : decode cX8_seal 67 = .ok (.invokevirtual 143, 3) := by decide +kernel
theorem dX8_seal_70 : decode cX8_seal 70 = .ok (.aload_n 0, 1) := by decide +kernel
theorem dX8_seal_71 : decode cX8_seal 71 = .ok (.iconst (-1), 1) := by decide +kernel
theorem dX8_seal_72 : decode cX8_seal 72 = .ok (.invokevirtual 147, 3) := by decide +kernel
theorem dX8_seal_75 : decode cX8_seal 75 = .ok (.aload_n 0, 1) := by decide +kernel
theorem dX8_seal_76 : decode cX8_seal 76 = .ok (.getfield 93, 3) := by decide +kernel
theorem dX8_seal_79 : decode cX8_seal 79 = .ok (.ifCond .eq 7, 3) := by decide +kernel
theorem dX8_seal_82 : decode cX8_seal 82 = .ok (.aload_n 0, 1) := by decide +kernel
theorem dX8_seal_83 : decode cX8_seal 83 = .ok (.invokevirtual 151, 3) := by decide +kernel
theorem dX8_seal_86 : decode cX8_seal 86 = .ok (.iconst 0, 1) := by decide +kernel
theorem dX8_seal_87 : decode cX8_seal 87 = .ok (.ireturn, 1) := by decide +kernel
theorem dX8_explore_0 : decode cX8_explore 0 = .ok (.aload_n 0, 1) := by decide +kernel
theorem dX8_explore_1 : decode cX8_explore 1 = .ok (.getfield 89, 3) := by decide +kernel
theorem dX8_explore_4 : decode cX8_explore 4 = .ok (.ifCond .ne 6, 3) := by decide +kernel
theorem dX8_explore_7 : decode cX8_explore 7 = .ok (.bipush (-2), 2) := by decide +kernel
theorem dX8_explore_9 : decode cX8_explore 9 = .ok (.ireturn, 1) := by decide +kernel
theorem dX8_explore_10 : decode cX8_explore 10 = .ok (.aload_n 0, 1) := by decide +kernel
theorem dX8_explore_11 : decode cX8_explore 11 = .ok (.getfield 96, 3) := by decide +kernel
theorem dX8_explore_14 : decode cX8_explore 14 = .ok (.ifCond .eq 6, 3) := by decide +kernel
theorem dX8_explore_17 : decode cX8_explore 17 = .ok (.bipush (-5), 2) := by decide +kernel
theorem dX8_explore_19 : decode cX8_explore 19 = .ok (.ireturn, 1) := by decide +kernel
theorem dX8_explore_20 : decode cX8_explore 20 = .ok (.aload_n 0, 1) := by decide +kernel
theorem dX8_explore_21 : decode cX8_explore 21 = .ok (.getfield 93, 3) := by decide +kernel
theorem dX8_explore_24 : decode cX8_explore 24 = .ok (.istore_n 2, 1) := by decide +kernel
theorem dX8_explore_25 : decode cX8_explore 25 = .ok (.iload_n 1, 1) := by decide +kernel
theorem dX8_explore_26 : decode cX8_explore 26 = .ok (.sipush 400, 3) := by decide +kernel
theorem dX8_explore_29 : decode cX8_explore 29 = .ok (.invokestatic 154, 3) := by decide +kernel
theorem dX8_explore_32 : decode cX8_explore 32 = .ok (.istore_n 3, 1) := by decide +kernel
theorem dX8_explore_33 : decode cX8_explore 33 = .ok (.iconst 0, 1) := by decide +kernel
theorem dX8_explore_34 : decode cX8_explore 34 = .ok (.istore 4, 2) := by decide +kernel
theorem dX8_explore_36 : decode cX8_explore 36 = .ok (.iload 4, 2) := by decide +kernel
theorem dX8_explore_38 : decode cX8_explore 38 = .ok (.iload_n 3, 1) := by decide +kernel
theorem dX8_explore_39 : decode cX8_explore 39 = .ok (.if_icmp .ge 34, 3) := by decide +kernel
theorem dX8_explore_42 : decode cX8_explore 42 = .ok (.aload_n 0, 1) := by decide +kernel
theorem dX8_explore_43 : decode cX8_explore 43 = .ok (.getfield 93, 3) := by decide +kernel
theorem dX8_explore_46 : decode cX8_explore 46 = .ok (.ifCond .ne 27, 3) := by decide +kernel
theorem dX8_explore_49 : decode cX8_explore 49 = .ok (.aload_n 0, 1) := by decide +kernel
theorem dX8_explore_50 : decode cX8_explore 50 = .ok (.getfield 96, 3) := by decide +kernel
theorem dX8_explore_53 : decode cX8_explore 53 = .ok (.ifCond .ne 20, 3) := by decide +kernel
theorem dX8_explore_56 : decode cX8_explore 56 = .ok (.aload_n 0, 1) := by decide +kernel
theorem dX8_explore_57 : decode cX8_explore 57 = .ok (.invokevirtual 160, 3) := by decide +kernel
theorem dX8_explore_60 : decode cX8_explore 60 = .ok (.ifCond .ne 13, 3) := by decide +kernel
theorem dX8_explore_63 : decode cX8_explore 63 = .ok (.aload_n 0, 1) := by decide +kernel
theorem dX8_explore_64 : decode cX8_explore 64 = .ok (.invokevirtual 163, 3) := by decide +kernel
theorem dX8_explore_67 : decode cX8_explore 67 = .ok (.iinc 4 1, 3) := by decide +kernel
theorem dX8_explore_70 : decode cX8_explore 70 = .ok (.goto (-34), 3) := by decide +kernel
theorem dX8_explore_73 : decode cX8_explore 73 = .ok (.aload_n 0, 1) := by decide +kernel
theorem dX8_explore_74 : decode cX8_explore 74 = .ok (.getfield 93, 3) := by decide +kernel
theorem dX8_explore_77 : decode cX8_explore 77 = .ok (.ifCond .eq 11, 3) := by decide +kernel
theorem dX8_explore_80 : decode cX8_explore 80 = .ok (.iload_n 2, 1) := by decide +kernel
theorem dX8_explore_81 : decode cX8_explore 81 = .ok (.ifCond .ne 7, 3) := by decide +kernel
theorem dX8_explore_84 : decode cX8_explore 84 = .ok (.aload_n 0, 1) := by decide +kernel
theorem dX8_explore_85 : decode cX8_explore 85 = .ok (.invokevirtual 151, 3) := by decide +kernel
theorem dX8_explore_88 : decode cX8_explore 88 = .ok (.aload_n 0, 1) := by decide +kernel
theorem dX8_explore_89 : decode cX8_explore 89 = .ok (.getfield 96, 3) := by decide +kernel
theorem dX8_explore_92 : decode cX8_explore 92 = .ok (.ifCond .eq 6, 3) := by decide +kernel
theorem dX8_explore_95 : decode cX8_explore 95 = .ok (.bipush (-5), 2) := by decide +kernel
theorem dX8_explore_97 : decode cX8_explore 97 = .ok (.ireturn, 1) := by decide +kernel
theorem dX8_explore_98 : decode cX8_explore 98 = .ok (.aload_n 0, 1) := by decide +kernel
theorem dX8_explore_99 : decode cX8_explore 99 = .ok (.getfield 93, 3) := by decide +kernel
theorem dX8_explore_102 : decode cX8_explore 102 = .ok (.ifCond .ne 10, 3) := by decide +kernel
theorem dX8_explore_105 : decode cX8_explore 105 = .ok (.aload_n 0, 1) := by decide +kernel
theorem dX8_explore_106 : decode cX8_explore 106 = .ok (.invokevirtual 160, 3) := by decide +kernel
theorem dX8_explore_109 : decode cX8_explore 109 = .ok (.ifCond .eq 7, 3) := by decide +kernel
theorem dX8_explore_112 : decode cX8_explore 112 = .ok (.iconst 0, 1) := by decide +kernel
theorem dX8_explore_113 : decode cX8_explore 113 = .ok (.goto 4, 3) := by decide +kernel
theorem dX8_explore_116 : decode cX8_explore 116 = .ok (.iconst 1, 1) := by decide +kernel
theorem dX8_explore_117 : decode cX8_explore 117 = .ok (.ireturn, 1) := by decide +kernel
theorem dX8_verdict_0 : decode cX8_verdict 0 = .ok (.aload_n 0, 1) := by decide +kernel
theorem dX8_verdict_1 : decode cX8_verdict 1 = .ok (.getfield 93, 3) := by decide +kernel
theorem dX8_verdict_4 : decode cX8_verdict 4 = .ok (.ifCond .eq 5, 3) := by decide +kernel
theorem dX8_verdict_7 : decode cX8_verdict 7 = .ok (.iconst 2, 1) := by decide +kernel
theorem dX8_verdict_8 : decode cX8_verdict 8 = .ok (.ireturn, 1) := by decide +kernel
theorem dX8_verdict_9 : decode cX8_verdict 9 = .ok (.aload_n 0, 1) := by decide +kernel
theorem dX8_verdict_10 : decode cX8_verdict 10 = .ok (.getfield 89, 3) := by decide +kernel
theorem dX8_verdict_13 : decode cX8_verdict 13 = .ok (.ifCond .eq 14, 3) := by decide +kernel
theorem dX8_verdict_16 : decode cX8_verdict 16 = .ok (.aload_n 0, 1) := by decide +kernel
theorem dX8_verdict_17 : decode cX8_verdict 17 = .ok (.invokevirtual 160, 3) := by decide +kernel
theorem dX8_verdict_20 : decode cX8_verdict 20 = .ok (.ifCond .eq 7, 3) := by decide +kernel
theorem dX8_verdict_23 : decode cX8_verdict 23 = .ok (.iconst 1, 1) := by decide +kernel
theorem dX8_verdict_24 : decode cX8_verdict 24 = .ok (.goto 4, 3) := by decide +kernel
theorem dX8_verdict_27 : decode cX8_verdict 27 = .ok (.iconst 0, 1) := by decide +kernel
theorem dX8_verdict_28 : decode cX8_verdict 28 = .ok (.ireturn, 1) := by decide +kernel
theorem dX8_stateCount_0 : decode cX8_stateCount 0 = .ok (.aload_n 0, 1) := by decide +kernel
theorem dX8_stateCount_1 : decode cX8_stateCount 1 = .ok (.getfield 47, 3) := by decide +kernel
theorem dX8_stateCount_4 : decode cX8_stateCount 4 = .ok (.invokevirtual 166, 3) := by decide +kernel
theorem dX8_stateCount_7 : decode cX8_stateCount 7 = .ok (.ireturn, 1) := by decide +kernel
theorem dX8_traceLen_0 : decode cX8_traceLen 0 = .ok (.aload_n 0, 1) := by decide +kernel
theorem dX8_traceLen_1 : decode cX8_traceLen 1 = .ok (.getfield 93, 3) := by decide +kernel
theorem dX8_traceLen_4 : decode cX8_traceLen 4 = .ok (.ifCond .eq 13, 3) := by decide +kernel
theorem dX8_traceLen_7 : decode cX8_traceLen 7 = .ok (.aload_n 0, 1) := by decide +kernel
theorem dX8_traceLen_8 : decode cX8_traceLen 8 = .ok (.getfield 54, 3) := by decide +kernel
theorem dX8_traceLen_11 : decode cX8_traceLen 11 = .ok (.invokevirtual 167, 3) := by decide +kernel
theorem dX8_traceLen_14 : decode cX8_traceLen 14 = .ok (.goto 4, 3) := by decide +kernel
theorem dX8_traceLen_17 : decode cX8_traceLen 17 = .ok (.iconst (-1), 1) := by decide +kernel
theorem dX8_traceLen_18 : decode cX8_traceLen 18 = .ok (.ireturn, 1) := by decide +kernel
theorem dX8_traceRule_0 : decode cX8_traceRule 0 = .ok (.aload_n 0, 1) := by decide +kernel
theorem dX8_traceRule_1 : decode cX8_traceRule 1 = .ok (.getfield 93, 3) := by decide +kernel
theorem dX8_traceRule_4 : decode cX8_traceRule 4 = .ok (.ifCond .eq 14, 3) := by decide +kernel
theorem dX8_traceRule_7 : decode cX8_traceRule 7 = .ok (.aload_n 0, 1) := by decide +kernel
theorem dX8_traceRule_8 : decode cX8_traceRule 8 = .ok (.getfield 54, 3) := by decide +kernel
theorem dX8_traceRule_11 : decode cX8_traceRule 11 = .ok (.iload_n 1, 1) := by decide +kernel
theorem dX8_traceRule_12 : decode cX8_traceRule 12 = .ok (.invokevirtual 170, 3) := by decide +kernel
theorem dX8_traceRule_15 : decode cX8_traceRule 15 = .ok (.goto 4, 3) := by decide +kernel
theorem dX8_traceRule_18 : decode cX8_traceRule 18 = .ok (.iconst (-1), 1) := by decide +kernel
theorem dX8_traceRule_19 : decode cX8_traceRule 19 = .ok (.ireturn, 1) := by decide +kernel
theorem dX8_traceVar_0 : decode cX8_traceVar 0 = .ok (.aload_n 0, 1) := by decide +kernel
theorem dX8_traceVar_1 : decode cX8_traceVar 1 = .ok (.getfield 93, 3) := by decide +kernel
theorem dX8_traceVar_4 : decode cX8_traceVar 4 = .ok (.ifCond .eq 21, 3) := by decide +kernel
theorem dX8_traceVar_7 : decode cX8_traceVar 7 = .ok (.aload_n 0, 1) := by decide +kernel
theorem dX8_traceVar_8 : decode cX8_traceVar 8 = .ok (.getfield 54, 3) := by decide +kernel
theorem dX8_traceVar_11 : decode cX8_traceVar 11 = .ok (.iload_n 1, 1) := by decide +kernel
theorem dX8_traceVar_12 : decode cX8_traceVar 12 = .ok (.invokevirtual 174, 3) := by decide +kernel
theorem dX8_traceVar_15 : decode cX8_traceVar 15 = .ok (.ifCond .eq 10, 3) := by decide +kernel
theorem dX8_traceVar_18 : decode cX8_traceVar 18 = .ok (.iload_n 2, 1) := by decide +kernel
theorem dX8_traceVar_19 : decode cX8_traceVar 19 = .ok (.invokestatic 103, 3) := by decide +kernel
theorem dX8_traceVar_22 : decode cX8_traceVar 22 = .ok (.ifCond .ne 5, 3) := by decide +kernel
theorem dX8_traceVar_25 : decode cX8_traceVar 25 = .ok (.iconst 0, 1) := by decide +kernel
theorem dX8_traceVar_26 : decode cX8_traceVar 26 = .ok (.ireturn, 1) := by decide +kernel
theorem dX8_traceVar_27 : decode cX8_traceVar 27 = .ok (.aload_n 0, 1) := by decide +kernel
theorem dX8_traceVar_28 : decode cX8_traceVar 28 = .ok (.getfield 54, 3) := by decide +kernel
theorem dX8_traceVar_31 : decode cX8_traceVar 31 = .ok (.iload_n 1, 1) := by decide +kernel
theorem dX8_traceVar_32 : decode cX8_traceVar 32 = .ok (.aload_n 0, 1) := by decide +kernel
theorem dX8_traceVar_33 : decode cX8_traceVar 33 = .ok (.getfield 58, 3) := by decide +kernel
theorem dX8_traceVar_36 : decode cX8_traceVar 36 = .ok (.invokevirtual 177, 3) := by decide +kernel
theorem dX8_traceVar_39 : decode cX8_traceVar 39 = .ok (.aload_n 0, 1) := by decide +kernel
theorem dX8_traceVar_40 : decode cX8_traceVar 40 = .ok (.getfield 58, 3) := by decide +kernel
theorem dX8_traceVar_43 : decode cX8_traceVar 43 = .ok (.iload_n 2, 1) := by decide +kernel
theorem dX8_traceVar_44 : decode cX8_traceVar 44 = .ok (.iaload, 1) := by decide +kernel
theorem dX8_traceVar_45 : decode cX8_traceVar 45 = .ok (.ireturn, 1) := by decide +kernel
theorem dX8_replay_0 : decode cX8_replay 0 = .ok (.aload_n 0, 1) := by decide +kernel
theorem dX8_replay_1 : decode cX8_replay 1 = .ok (.getfield 93, 3) := by decide +kernel
theorem dX8_replay_4 : decode cX8_replay 4 = .ok (.ifCond .ne 5, 3) := by decide +kernel
theorem dX8_replay_7 : decode cX8_replay 7 = .ok (.iconst 0, 1) := by decide +kernel
theorem dX8_replay_8 : decode cX8_replay 8 = .ok (.ireturn, 1) := by decide +kernel
theorem dX8_replay_9 : decode cX8_replay 9 = .ok (.aload_n 0, 1) := by decide +kernel
theorem dX8_replay_10 : decode cX8_replay 10 = .ok (.getfield 54, 3) := by decide +kernel
theorem dX8_replay_13 : decode cX8_replay 13 = .ok (.aload_n 0, 1) := by decide +kernel
theorem dX8_replay_14 : decode cX8_replay 14 = .ok (.getfield 54, 3) := by decide +kernel
theorem dX8_replay_17 : decode cX8_replay 17 = .ok (.invokevirtual 167, 3) := by decide +kernel
theorem dX8_replay_20 : decode cX8_replay 20 = .ok (.aload_n 0, 1) := by decide +kernel
theorem dX8_replay_21 : decode cX8_replay 21 = .ok (.getfield 58, 3) := by decide +kernel
theorem dX8_replay_24 : decode cX8_replay 24 = .ok (.invokevirtual 177, 3) := by decide +kernel
theorem dX8_replay_27 : decode cX8_replay 27 = .ok (.aload_n 0, 1) := by decide +kernel
theorem dX8_replay_28 : decode cX8_replay 28 = .ok (.getfield 40, 3) := by decide +kernel
theorem dX8_replay_31 : decode cX8_replay 31 = .ok (.aload_n 0, 1) := by decide +kernel
theorem dX8_replay_32 : decode cX8_replay 32 = .ok (.getfield 33, 3) := by decide +kernel
theorem dX8_replay_35 : decode cX8_replay 35 = .ok (.aload_n 0, 1) := by decide +kernel
theorem dX8_replay_36 : decode cX8_replay 36 = .ok (.getfield 58, 3) := by decide +kernel
theorem dX8_replay_39 : decode cX8_replay 39 = .ok (.invokevirtual 181, 3) := by decide +kernel
theorem dX8_replay_42 : decode cX8_replay 42 = .ok (.ifCond .eq 7, 3) := by decide +kernel
theorem dX8_replay_45 : decode cX8_replay 45 = .ok (.iconst 0, 1) := by decide +kernel
theorem dX8_replay_46 : decode cX8_replay 46 = .ok (.goto 4, 3) := by decide +kernel
theorem dX8_replay_49 : decode cX8_replay 49 = .ok (.iconst 1, 1) := by decide +kernel
theorem dX8_replay_50 : decode cX8_replay 50 = .ok (.ireturn, 1) := by decide +kernel
theorem dX8_probeVar_0 : decode cX8_probeVar 0 = .ok (.iload_n 1, 1) := by decide +kernel
theorem dX8_probeVar_1 : decode cX8_probeVar 1 = .ok (.invokestatic 103, 3) := by decide +kernel
theorem dX8_probeVar_4 : decode cX8_probeVar 4 = .ok (.ifCond .ne 5, 3) := by decide +kernel
theorem dX8_probeVar_7 : decode cX8_probeVar 7 = .ok (.iconst (-1), 1) := by decide +kernel
theorem dX8_probeVar_8 : decode cX8_probeVar 8 = .ok (.ireturn, 1) := by decide +kernel
theorem dX8_probeVar_9 : decode cX8_probeVar 9 = .ok (.aload_n 0, 1) := by decide +kernel
theorem dX8_probeVar_10 : decode cX8_probeVar 10 = .ok (.getfield 13, 3) := by decide +kernel
theorem dX8_probeVar_13 : decode cX8_probeVar 13 = .ok (.iload_n 1, 1) := by decide +kernel
theorem dX8_probeVar_14 : decode cX8_probeVar 14 = .ok (.iload_n 2, 1) := by decide +kernel
theorem dX8_probeVar_15 : decode cX8_probeVar 15 = .ok (.iastore, 1) := by decide +kernel
theorem dX8_probeVar_16 : decode cX8_probeVar 16 = .ok (.iconst 0, 1) := by decide +kernel
theorem dX8_probeVar_17 : decode cX8_probeVar 17 = .ok (.ireturn, 1) := by decide +kernel
theorem dX8_isReachable_0 : decode cX8_isReachable 0 = .ok (.aload_n 0, 1) := by decide +kernel
theorem dX8_isReachable_1 : decode cX8_isReachable 1 = .ok (.invokevirtual 185, 3) := by decide +kernel
theorem dX8_isReachable_4 : decode cX8_isReachable 4 = .ok (.iconst 1, 1) := by decide +kernel
theorem dX8_isReachable_5 : decode cX8_isReachable 5 = .ok (.if_icmp .eq 6, 3) := by decide +kernel
theorem dX8_isReachable_8 : decode cX8_isReachable 8 = .ok (.bipush (-6), 2) := by decide +kernel
theorem dX8_isReachable_10 : decode cX8_isReachable 10 = .ok (.ireturn, 1) := by decide +kernel
theorem dX8_isReachable_11 : decode cX8_isReachable 11 = .ok (.aload_n 0, 1) := by decide +kernel
theorem dX8_isReachable_12 : decode cX8_isReachable 12 = .ok (.getfield 13, 3) := by decide +kernel
theorem dX8_isReachable_15 : decode cX8_isReachable 15 = .ok (.aload_n 0, 1) := by decide +kernel
theorem dX8_isReachable_16 : decode cX8_isReachable 16 = .ok (.getfield 64, 3) := by decide +kernel
theorem dX8_isReachable_19 : decode cX8_isReachable 19 = .ok (.invokestatic 139, 3) := by decide +kernel
theorem dX8_isReachable_22 : decode cX8_isReachable 22 = .ok (.aload_n 0, 1) := by decide +kernel
theorem dX8_isReachable_23 : decode cX8_isReachable 23 = .ok (.getfield 19, 3) := by decide +kernel
theorem dX8_isReachable_26 : decode cX8_isReachable 26 = .ok (.aload_n 0, 1) := by decide +kernel
theorem dX8_isReachable_27 : decode cX8_isReachable 27 = .ok (.getfield 64, 3) := by decide +kernel
theorem dX8_isReachable_30 : decode cX8_isReachable 30 = .ok (.invokevirtual 143, 3) := by decide +kernel
theorem dX8_isReachable_33 : decode cX8_isReachable 33 = .ok (.aload_n 0, 1) := by decide +kernel
theorem dX8_isReachable_34 : decode cX8_isReachable 34 = .ok (.getfield 47, 3) := by decide +kernel
theorem dX8_isReachable_37 : decode cX8_isReachable 37 = .ok (.aload_n 0, 1) := by decide +kernel
theorem dX8_isReachable_38 : decode cX8_isReachable 38 = .ok (.getfield 64, 3) := by decide +kernel
theorem dX8_isReachable_41 : decode cX8_isReachable 41 = .ok (.invokevirtual 188, 3) := by decide +kernel
theorem dX8_isReachable_44 : decode cX8_isReachable 44 = .ok (.iconst (-1), 1) := by decide +kernel
theorem dX8_isReachable_45 : decode cX8_isReachable 45 = .ok (.if_icmp .ne 7, 3) := by decide +kernel
theorem dX8_isReachable_48 : decode cX8_isReachable 48 = .ok (.iconst 0, 1) := by decide +kernel
theorem dX8_isReachable_49 : decode cX8_isReachable 49 = .ok (.goto 4, 3) := by decide +kernel
theorem dX8_isReachable_52 : decode cX8_isReachable 52 = .ok (.iconst 1, 1) := by decide +kernel
theorem dX8_isReachable_53 : decode cX8_isReachable 53 = .ok (.ireturn, 1) := by decide +kernel
theorem dX8_isVariable_0 : decode cX8_isVariable 0 = .ok (.iload_n 0, 1) := by decide +kernel
theorem dX8_isVariable_1 : decode cX8_isVariable 1 = .ok (.ifCond .lt 13, 3) := by decide +kernel
theorem dX8_isVariable_4 : decode cX8_isVariable 4 = .ok (.iload_n 0, 1) := by decide +kernel
theorem dX8_isVariable_5 : decode cX8_isVariable 5 = .ok (.bipush 6, 2) := by decide +kernel
theorem dX8_isVariable_7 : decode cX8_isVariable 7 = .ok (.if_icmp .ge 7, 3) := by decide +kernel
theorem dX8_isVariable_10 : decode cX8_isVariable 10 = .ok (.iconst 1, 1) := by decide +kernel
theorem dX8_isVariable_11 : decode cX8_isVariable 11 = .ok (.goto 4, 3) := by decide +kernel
theorem dX8_isVariable_14 : decode cX8_isVariable 14 = .ok (.iconst 0, 1) := by decide +kernel
theorem dX8_isVariable_15 : decode cX8_isVariable 15 = .ok (.ireturn, 1) := by decide +kernel
theorem dX8_copyState_0 : decode cX8_copyState 0 = .ok (.aload_n 0, 1) := by decide +kernel
theorem dX8_copyState_1 : decode cX8_copyState 1 = .ok (.iconst 0, 1) := by decide +kernel
theorem dX8_copyState_2 : decode cX8_copyState 2 = .ok (.aload_n 1, 1) := by decide +kernel
theorem dX8_copyState_3 : decode cX8_copyState 3 = .ok (.iconst 0, 1) := by decide +kernel
theorem dX8_copyState_4 : decode cX8_copyState 4 = .ok (.bipush 6, 2) := by decide +kernel
theorem dX8_copyState_6 : decode cX8_copyState 6 = .ok (.invokestatic 192, 3) := by decide +kernel
theorem dX8_copyState_9 : decode cX8_copyState 9 = .ok (.return_, 1) := by decide +kernel
theorem dX8_feed_0 : decode cX8_feed 0 = .ok (.iload_n 1, 1) := by decide +kernel
theorem dX8_feed_1 : decode cX8_feed 1 = .ok (.invokestatic 198, 3) := by decide +kernel
theorem dX8_feed_4 : decode cX8_feed 4 = .ok (.ifCond .ne 5, 3) := by decide +kernel
theorem dX8_feed_7 : decode cX8_feed 7 = .ok (.iconst (-1), 1) := by decide +kernel
theorem dX8_feed_8 : decode cX8_feed 8 = .ok (.ireturn, 1) := by decide +kernel
theorem dX8_feed_9 : decode cX8_feed 9 = .ok (.aload_n 0, 1) := by decide +kernel
theorem dX8_feed_10 : decode cX8_feed 10 = .ok (.invokevirtual 203, 3) := by decide +kernel
theorem dX8_feed_13 : decode cX8_feed 13 = .ok (.ifCond .eq 6, 3) := by decide +kernel
theorem dX8_feed_16 : decode cX8_feed 16 = .ok (.bipush (-3), 2) := by decide +kernel
theorem dX8_feed_18 : decode cX8_feed 18 = .ok (.ireturn, 1) := by decide +kernel
theorem dX8_feed_19 : decode cX8_feed 19 = .ok (.aload_n 0, 1) := by decide +kernel
theorem dX8_feed_20 : decode cX8_feed 20 = .ok (.iload_n 1, 1) := by decide +kernel
theorem dX8_feed_21 : decode cX8_feed 21 = .ok (.invokevirtual 204, 3) := by decide +kernel
theorem dX8_feed_24 : decode cX8_feed 24 = .ok (.iconst 0, 1) := by decide +kernel
theorem dX8_feed_25 : decode cX8_feed 25 = .ok (.ireturn, 1) := by decide +kernel
theorem dX8_blocksAreRight_0 : decode cX8_blocksAreRight 0 = .ok (.iconst 0, 1) := by decide +kernel
theorem dX8_blocksAreRight_1 : decode cX8_blocksAreRight 1 = .ok (.istore_n 1, 1) := by decide +kernel
theorem dX8_blocksAreRight_2 : decode cX8_blocksAreRight 2 = .ok (.iload_n 1, 1) := by decide +kernel
theorem dX8_blocksAreRight_3 : decode cX8_blocksAreRight 3 = .ok (.bipush 6, 2) := by decide +kernel
theorem dX8_blocksAreRight_5 : decode cX8_blocksAreRight 5 = .ok (.if_icmp .ge 63, 3) := by decide +kernel
theorem dX8_blocksAreRight_8 : decode cX8_blocksAreRight 8 = .ok (.iload_n 1, 1) := by decide +kernel
theorem dX8_blocksAreRight_9 : decode cX8_blocksAreRight 9 = .ok (.iconst 1, 1) := by decide +kernel
theorem dX8_blocksAreRight_10 : decode cX8_blocksAreRight 10 = .ok (.iadd, 1) := by decide +kernel
theorem dX8_blocksAreRight_11 : decode cX8_blocksAreRight 11 = .ok (.istore_n 2, 1) := by decide +kernel
theorem dX8_blocksAreRight_12 : decode cX8_blocksAreRight 12 = .ok (.iload_n 2, 1) := by decide +kernel
theorem dX8_blocksAreRight_13 : decode cX8_blocksAreRight 13 = .ok (.bipush 6, 2) := by decide +kernel
theorem dX8_blocksAreRight_15 : decode cX8_blocksAreRight 15 = .ok (.if_icmp .ge 47, 3) := by decide +kernel
theorem dX8_blocksAreRight_18 : decode cX8_blocksAreRight 18 = .ok (.aload_n 0, 1) := by decide +kernel
theorem dX8_blocksAreRight_19 : decode cX8_blocksAreRight 19 = .ok (.getfield 19, 3) := by decide +kernel
theorem dX8_blocksAreRight_22 : decode cX8_blocksAreRight 22 = .ok (.iload_n 1, 1) := by decide +kernel
theorem dX8_blocksAreRight_23 : decode cX8_blocksAreRight 23 = .ok (.iload_n 2, 1) := by decide +kernel
theorem dX8_blocksAreRight_24 : decode cX8_blocksAreRight 24 = .ok (.invokevirtual 207, 3) := by decide +kernel
theorem dX8_blocksAreRight_27 : decode cX8_blocksAreRight 27 = .ok (.ifCond .eq 29, 3) := by decide +kernel
theorem dX8_blocksAreRight_30 : decode cX8_blocksAreRight 30 = .ok (.aload_n 0, 1) := by decide +kernel
theorem dX8_blocksAreRight_31 : decode cX8_blocksAreRight 31 = .ok (.getfield 26, 3) := by decide +kernel
theorem dX8_blocksAreRight_34 : decode cX8_blocksAreRight 34 = .ok (.iload_n 1, 1) := by decide +kernel
theorem dX8_blocksAreRight_35 : decode cX8_blocksAreRight 35 = .ok (.iload_n 2, 1) := by decide +kernel
theorem dX8_blocksAreRight_36 : decode cX8_blocksAreRight 36 = .ok (.invokevirtual 211, 3) := by decide +kernel
theorem dX8_blocksAreRight_39 : decode cX8_blocksAreRight 39 = .ok (.ifCond .eq 15, 3) := by decide +kernel
theorem dX8_blocksAreRight_42 : decode cX8_blocksAreRight 42 = .ok (.aload_n 0, 1) := by decide +kernel
theorem dX8_blocksAreRight_43 : decode cX8_blocksAreRight 43 = .ok (.getfield 33, 3) := by decide +kernel
theorem dX8_blocksAreRight_46 : decode cX8_blocksAreRight 46 = .ok (.iload_n 1, 1) := by decide +kernel
theorem dX8_blocksAreRight_47 : decode cX8_blocksAreRight 47 = .ok (.iload_n 2, 1) := by decide +kernel
theorem dX8_blocksAreRight_48 : decode cX8_blocksAreRight 48 = .ok (.invokevirtual 214, 3) := by decide +kernel
theorem dX8_blocksAreRight_51 : decode cX8_blocksAreRight 51 = .ok (.ifCond .ne 5, 3) := by decide +kernel
theorem dX8_blocksAreRight_54 : decode cX8_blocksAreRight 54 = .ok (.iconst 0, 1) := by decide +kernel
theorem dX8_blocksAreRight_55 : decode cX8_blocksAreRight 55 = .ok (.ireturn, 1) := by decide +kernel
theorem dX8_blocksAreRight_56 : decode cX8_blocksAreRight 56 = .ok (.iinc 2 1, 3) := by decide +kernel
theorem dX8_blocksAreRight_59 : decode cX8_blocksAreRight 59 = .ok (.goto (-47), 3) := by decide +kernel
theorem dX8_blocksAreRight_62 : decode cX8_blocksAreRight 62 = .ok (.iinc 1 1, 3) := by decide +kernel
theorem dX8_blocksAreRight_65 : decode cX8_blocksAreRight 65 = .ok (.goto (-63), 3) := by decide +kernel
theorem dX8_blocksAreRight_68 : decode cX8_blocksAreRight 68 = .ok (.iconst 1, 1) := by decide +kernel
theorem dX8_blocksAreRight_69 : decode cX8_blocksAreRight 69 = .ok (.ireturn, 1) := by decide +kernel
theorem dX8_allExpanded_0 : decode cX8_allExpanded 0 = .ok (.aload_n 0, 1) := by decide +kernel
theorem dX8_allExpanded_1 : decode cX8_allExpanded 1 = .ok (.getfield 99, 3) := by decide +kernel
theorem dX8_allExpanded_4 : decode cX8_allExpanded 4 = .ok (.aload_n 0, 1) := by decide +kernel
theorem dX8_allExpanded_5 : decode cX8_allExpanded 5 = .ok (.getfield 47, 3) := by decide +kernel
theorem dX8_allExpanded_8 : decode cX8_allExpanded 8 = .ok (.invokevirtual 166, 3) := by decide +kernel
theorem dX8_allExpanded_11 : decode cX8_allExpanded 11 = .ok (.if_icmp .lt 7, 3) := by decide +kernel
theorem dX8_allExpanded_14 : decode cX8_allExpanded 14 = .ok (.iconst 1, 1) := by decide +kernel
theorem dX8_allExpanded_15 : decode cX8_allExpanded 15 = .ok (.goto 4, 3) := by decide +kernel
theorem dX8_allExpanded_18 : decode cX8_allExpanded 18 = .ok (.iconst 0, 1) := by decide +kernel
theorem dX8_allExpanded_19 : decode cX8_allExpanded 19 = .ok (.ireturn, 1) := by decide +kernel
theorem dX8_expandNext_0 : decode cX8_expandNext 0 = .ok (.aload_n 0, 1) := by decide +kernel
theorem dX8_expandNext_1 : decode cX8_expandNext 1 = .ok (.getfield 47, 3) := by decide +kernel
theorem dX8_expandNext_4 : decode cX8_expandNext 4 = .ok (.aload_n 0, 1) := by decide +kernel
theorem dX8_expandNext_5 : decode cX8_expandNext 5 = .ok (.getfield 99, 3) := by decide +kernel
theorem dX8_expandNext_8 : decode cX8_expandNext 8 = .ok (.aload_n 0, 1) := by decide +kernel
theorem dX8_expandNext_9 : decode cX8_expandNext 9 = .ok (.getfield 58, 3) := by decide +kernel
theorem dX8_expandNext_12 : decode cX8_expandNext 12 = .ok (.invokevirtual 217, 3) := by decide +kernel
theorem dX8_expandNext_15 : decode cX8_expandNext 15 = .ok (.iconst 0, 1) := by decide +kernel
theorem dX8_expandNext_16 : decode cX8_expandNext 16 = .ok (.istore_n 1, 1) := by decide +kernel
theorem dX8_expandNext_17 : decode cX8_expandNext 17 = .ok (.iload_n 1, 1) := by decide +kernel
theorem dX8_expandNext_18 : decode cX8_expandNext 18 = .ok (.aload_n 0, 1) := by decide +kernel
theorem dX8_expandNext_19 : decode cX8_expandNext 19 = .ok (.getfield 26, 3) := by decide +kernel
theorem dX8_expandNext_22 : decode cX8_expandNext 22 = .ok (.invokevirtual 119, 3) := by decide +kernel
theorem dX8_expandNext_25 : decode cX8_expandNext 25 = .ok (.if_icmp .ge 62, 3) := by decide +kernel
theorem dX8_expandNext_28 : decode cX8_expandNext 28 = .ok (.aload_n 0, 1) := by decide +kernel
theorem dX8_expandNext_29 : decode cX8_expandNext 29 = .ok (.aload_n 0, 1) := by decide +kernel
theorem dX8_expandNext_30 : decode cX8_expandNext 30 = .ok (.getfield 26, 3) := by decide +kernel
theorem dX8_expandNext_33 : decode cX8_expandNext 33 = .ok (.iload_n 1, 1) := by decide +kernel
theorem dX8_expandNext_34 : decode cX8_expandNext 34 = .ok (.invokevirtual 122, 3) := by decide +kernel
theorem dX8_expandNext_37 : decode cX8_expandNext 37 = .ok (.invokevirtual 218, 3) := by decide +kernel
theorem dX8_expandNext_40 : decode cX8_expandNext 40 = .ok (.ifCond .eq 26, 3) := by decide +kernel
theorem dX8_expandNext_43 : decode cX8_expandNext 43 = .ok (.aload_n 0, 1) := by decide +kernel
theorem dX8_expandNext_44 : decode cX8_expandNext 44 = .ok (.getfield 47, 3) := by decide +kernel
theorem dX8_expandNext_47 : decode cX8_expandNext 47 = .ok (.aload_n 0, 1) := by decide +kernel
theorem dX8_expandNext_48 : decode cX8_expandNext 48 = .ok (.getfield 64, 3) := by decide +kernel
theorem dX8_expandNext_51 : decode cX8_expandNext 51 = .ok (.invokevirtual 188, 3) := by decide +kernel
theorem dX8_expandNext_54 : decode cX8_expandNext 54 = .ok (.iconst (-1), 1) := by decide +kernel
theorem dX8_expandNext_55 : decode cX8_expandNext 55 = .ok (.if_icmp .ne 11, 3) := by decide +kernel
theorem dX8_expandNext_58 : decode cX8_expandNext 58 = .ok (.aload_n 0, 1) := by decide +kernel
theorem dX8_expandNext_59 : decode cX8_expandNext 59 = .ok (.aload_n 0, 1) := by decide +kernel
theorem dX8_expandNext_60 : decode cX8_expandNext 60 = .ok (.getfield 99, 3) := by decide +kernel
theorem dX8_expandNext_63 : decode cX8_expandNext 63 = .ok (.invokevirtual 147, 3) := by decide +kernel
theorem dX8_expandNext_66 : decode cX8_expandNext 66 = .ok (.aload_n 0, 1) := by decide +kernel
theorem dX8_expandNext_67 : decode cX8_expandNext 67 = .ok (.getfield 93, 3) := by decide +kernel
theorem dX8_expandNext_70 : decode cX8_expandNext 70 = .ok (.ifCond .ne 10, 3) := by decide +kernel
theorem dX8_expandNext_73 : decode cX8_expandNext 73 = .ok (.aload_n 0, 1) := by decide +kernel
theorem dX8_expandNext_74 : decode cX8_expandNext 74 = .ok (.getfield 96, 3) := by decide +kernel
theorem dX8_expandNext_77 : decode cX8_expandNext 77 = .ok (.ifCond .eq 4, 3) := by decide +kernel
theorem dX8_expandNext_80 : decode cX8_expandNext 80 = .ok (.return_, 1) := by decide +kernel
theorem dX8_expandNext_81 : decode cX8_expandNext 81 = .ok (.iinc 1 1, 3) := by decide +kernel
theorem dX8_expandNext_84 : decode cX8_expandNext 84 = .ok (.goto (-67), 3) := by decide +kernel
theorem dX8_expandNext_87 : decode cX8_expandNext 87 = .ok (.aload_n 0, 1) := by decide +kernel
theorem dX8_expandNext_88 : decode cX8_expandNext 88 = .ok (.dup, 1) := by decide +kernel
theorem dX8_expandNext_89 : decode cX8_expandNext 89 = .ok (.getfield 99, 3) := by decide +kernel
theorem dX8_expandNext_92 : decode cX8_expandNext 92 = .ok (.iconst 1, 1) := by decide +kernel
theorem dX8_expandNext_93 : decode cX8_expandNext 93 = .ok (.iadd, 1) := by decide +kernel
theorem dX8_expandNext_94 : decode cX8_expandNext 94 = .ok (.putfield 99, 3) := by decide +kernel
theorem dX8_expandNext_97 : decode cX8_expandNext 97 = .ok (.return_, 1) := by decide +kernel
theorem dX8_fires_0 : decode cX8_fires 0 = .ok (.aload_n 0, 1) := by decide +kernel
theorem dX8_fires_1 : decode cX8_fires 1 = .ok (.getfield 40, 3) := by decide +kernel
theorem dX8_fires_4 : decode cX8_fires 4 = .ok (.aload_n 1, 1) := by decide +kernel
theorem dX8_fires_5 : decode cX8_fires 5 = .ok (.aload_n 0, 1) := by decide +kernel
theorem dX8_fires_6 : decode cX8_fires 6 = .ok (.getfield 58, 3) := by decide +kernel
theorem dX8_fires_9 : decode cX8_fires 9 = .ok (.invokevirtual 222, 3) := by decide +kernel
theorem dX8_fires_12 : decode cX8_fires 12 = .ok (.ifCond .ne 5, 3) := by decide +kernel
theorem dX8_fires_15 : decode cX8_fires 15 = .ok (.iconst 0, 1) := by decide +kernel
theorem dX8_fires_16 : decode cX8_fires 16 = .ok (.ireturn, 1) := by decide +kernel
theorem dX8_fires_17 : decode cX8_fires 17 = .ok (.aload_n 0, 1) := by decide +kernel
theorem dX8_fires_18 : decode cX8_fires 18 = .ok (.getfield 40, 3) := by decide +kernel
theorem dX8_fires_21 : decode cX8_fires 21 = .ok (.aload_n 1, 1) := by decide +kernel
theorem dX8_fires_22 : decode cX8_fires 22 = .ok (.aload_n 0, 1) := by decide +kernel
theorem dX8_fires_23 : decode cX8_fires 23 = .ok (.getfield 58, 3) := by decide +kernel
theorem dX8_fires_26 : decode cX8_fires 26 = .ok (.aload_n 0, 1) := by decide +kernel
theorem dX8_fires_27 : decode cX8_fires 27 = .ok (.getfield 61, 3) := by decide +kernel
theorem dX8_fires_30 : decode cX8_fires 30 = .ok (.invokevirtual 226, 3) := by decide +kernel
theorem dX8_fires_33 : decode cX8_fires 33 = .ok (.aload_n 0, 1) := by decide +kernel
theorem dX8_fires_34 : decode cX8_fires 34 = .ok (.getfield 61, 3) := by decide +kernel
theorem dX8_fires_37 : decode cX8_fires 37 = .ok (.aload_n 0, 1) := by decide +kernel
theorem dX8_fires_38 : decode cX8_fires 38 = .ok (.getfield 64, 3) := by decide +kernel
theorem dX8_fires_41 : decode cX8_fires 41 = .ok (.invokestatic 139, 3) := by decide +kernel
theorem dX8_fires_44 : decode cX8_fires 44 = .ok (.aload_n 0, 1) := by decide +kernel
theorem dX8_fires_45 : decode cX8_fires 45 = .ok (.getfield 19, 3) := by decide +kernel
theorem dX8_fires_48 : decode cX8_fires 48 = .ok (.aload_n 0, 1) := by decide +kernel
theorem dX8_fires_49 : decode cX8_fires 49 = .ok (.getfield 64, 3) := by decide +kernel
theorem dX8_fires_52 : decode cX8_fires 52 = .ok (.invokevirtual 143, 3) := by decide +kernel
theorem dX8_fires_55 : decode cX8_fires 55 = .ok (.iconst 1, 1) := by decide +kernel
theorem dX8_fires_56 : decode cX8_fires 56 = .ok (.ireturn, 1) := by decide +kernel
theorem dX8_storeForm_0 : decode cX8_storeForm 0 = .ok (.aload_n 0, 1) := by decide +kernel
theorem dX8_storeForm_1 : decode cX8_storeForm 1 = .ok (.getfield 47, 3) := by decide +kernel
theorem dX8_storeForm_4 : decode cX8_storeForm 4 = .ok (.invokevirtual 230, 3) := by decide +kernel
theorem dX8_storeForm_7 : decode cX8_storeForm 7 = .ok (.ifCond .eq 9, 3) := by decide +kernel
theorem dX8_storeForm_10 : decode cX8_storeForm 10 = .ok (.aload_n 0, 1) := by decide +kernel
theorem dX8_storeForm_11 : decode cX8_storeForm 11 = .ok (.iconst 1, 1) := by decide +kernel
theorem dX8_storeForm_12 : decode cX8_storeForm 12 = .ok (.putfield 96, 3) := by decide +kernel
theorem dX8_storeForm_15 : decode cX8_storeForm 15 = .ok (.return_, 1) := by decide +kernel
theorem dX8_storeForm_16 : decode cX8_storeForm 16 = .ok (.aload_n 0, 1) := by decide +kernel
theorem dX8_storeForm_17 : decode cX8_storeForm 17 = .ok (.getfield 47, 3) := by decide +kernel
theorem dX8_storeForm_20 : decode cX8_storeForm 20 = .ok (.aload_n 0, 1) := by decide +kernel
theorem dX8_storeForm_21 : decode cX8_storeForm 21 = .ok (.getfield 64, 3) := by decide +kernel
theorem dX8_storeForm_24 : decode cX8_storeForm 24 = .ok (.iload_n 1, 1) := by decide +kernel
theorem dX8_storeForm_25 : decode cX8_storeForm 25 = .ok (.invokevirtual 231, 3) := by decide +kernel
theorem dX8_storeForm_28 : decode cX8_storeForm 28 = .ok (.aload_n 0, 1) := by decide +kernel
theorem dX8_storeForm_29 : decode cX8_storeForm 29 = .ok (.aload_n 0, 1) := by decide +kernel
theorem dX8_storeForm_30 : decode cX8_storeForm 30 = .ok (.getfield 40, 3) := by decide +kernel
theorem dX8_storeForm_33 : decode cX8_storeForm 33 = .ok (.aload_n 0, 1) := by decide +kernel
theorem dX8_storeForm_34 : decode cX8_storeForm 34 = .ok (.getfield 33, 3) := by decide +kernel
theorem dX8_storeForm_37 : decode cX8_storeForm 37 = .ok (.aload_n 0, 1) := by decide +kernel
theorem dX8_storeForm_38 : decode cX8_storeForm 38 = .ok (.getfield 64, 3) := by decide +kernel
theorem dX8_storeForm_41 : decode cX8_storeForm 41 = .ok (.invokevirtual 181, 3) := by decide +kernel
theorem dX8_storeForm_44 : decode cX8_storeForm 44 = .ok (.ifCond .ne 7, 3) := by decide +kernel
theorem dX8_storeForm_47 : decode cX8_storeForm 47 = .ok (.iconst 1, 1) := by decide +kernel
theorem dX8_storeForm_48 : decode cX8_storeForm 48 = .ok (.goto 4, 3) := by decide +kernel
theorem dX8_storeForm_51 : decode cX8_storeForm 51 = .ok (.iconst 0, 1) := by decide +kernel
theorem dX8_storeForm_52 : decode cX8_storeForm 52 = .ok (.putfield 93, 3) := by decide +kernel
theorem dX8_storeForm_55 : decode cX8_storeForm 55 = .ok (.return_, 1) := by decide +kernel
theorem dX8_layTrace_0 : decode cX8_layTrace 0 = .ok (.aload_n 0, 1) := by decide +kernel
theorem dX8_layTrace_1 : decode cX8_layTrace 1 = .ok (.getfield 54, 3) := by decide +kernel
theorem dX8_layTrace_4 : decode cX8_layTrace 4 = .ok (.aload_n 0, 1) := by decide +kernel
theorem dX8_layTrace_5 : decode cX8_layTrace 5 = .ok (.getfield 9, 3) := by decide +kernel
theorem dX8_layTrace_8 : decode cX8_layTrace 8 = .ok (.aload_n 0, 1) := by decide +kernel
theorem dX8_layTrace_9 : decode cX8_layTrace 9 = .ok (.getfield 47, 3) := by decide +kernel
theorem dX8_layTrace_12 : decode cX8_layTrace 12 = .ok (.invokevirtual 233, 3) := by decide +kernel
theorem dX8_layTrace_15 : decode cX8_layTrace 15 = .ok (.iconst 0, 1) := by decide +kernel
theorem dX8_layTrace_16 : decode cX8_layTrace 16 = .ok (.istore_n 1, 1) := by decide +kernel
theorem dX8_layTrace_17 : decode cX8_layTrace 17 = .ok (.iload_n 1, 1) := by decide +kernel
theorem dX8_layTrace_18 : decode cX8_layTrace 18 = .ok (.aload_n 0, 1) := by decide +kernel
theorem dX8_layTrace_19 : decode cX8_layTrace 19 = .ok (.getfield 54, 3) := by decide +kernel
theorem dX8_layTrace_22 : decode cX8_layTrace 22 = .ok (.invokevirtual 167, 3) := by decide +kernel
theorem dX8_layTrace_25 : decode cX8_layTrace 25 = .ok (.if_icmp .ge 108, 3) := by decide +kernel
theorem dX8_layTrace_28 : decode cX8_layTrace 28 = .ok (.aload_n 0, 1) := by decide +kernel
theorem dX8_layTrace_29 : decode cX8_layTrace 29 = .ok (.getfield 54, 3) := by decide +kernel
theorem dX8_layTrace_32 : decode cX8_layTrace 32 = .ok (.iload_n 1, 1) := by decide +kernel
theorem dX8_layTrace_33 : decode cX8_layTrace 33 = .ok (.aload_n 0, 1) := by decide +kernel
theorem dX8_layTrace_34 : decode cX8_layTrace 34 = .ok (.getfield 58, 3) := by decide +kernel
theorem dX8_layTrace_37 : decode cX8_layTrace 37 = .ok (.invokevirtual 177, 3) := by decide +kernel
theorem dX8_layTrace_40 : decode cX8_layTrace 40 = .ok (.iconst 0, 1) := by decide +kernel
theorem dX8_layTrace_41 : decode cX8_layTrace 41 = .ok (.istore_n 2, 1) := by decide +kernel
theorem dX8_layTrace_42 : decode cX8_layTrace 42 = .ok (.iconst 0, 1) := by decide +kernel
theorem dX8_layTrace_43 : decode cX8_layTrace 43 = .ok (.istore_n 3, 1) := by decide +kernel
theorem dX8_layTrace_44 : decode cX8_layTrace 44 = .ok (.iload_n 3, 1) := by decide +kernel
theorem dX8_layTrace_45 : decode cX8_layTrace 45 = .ok (.aload_n 0, 1) := by decide +kernel
theorem dX8_layTrace_46 : decode cX8_layTrace 46 = .ok (.getfield 26, 3) := by decide +kernel
theorem dX8_layTrace_49 : decode cX8_layTrace 49 = .ok (.invokevirtual 119, 3) := by decide +kernel
theorem dX8_layTrace_52 : decode cX8_layTrace 52 = .ok (.if_icmp .ge 75, 3) := by decide +kernel
theorem dX8_layTrace_55 : decode cX8_layTrace 55 = .ok (.iload_n 2, 1) := by decide +kernel
theorem dX8_layTrace_56 : decode cX8_layTrace 56 = .ok (.ifCond .ne 71, 3) := by decide +kernel
theorem dX8_layTrace_59 : decode cX8_layTrace 59 = .ok (.aload_n 0, 1) := by decide +kernel
theorem dX8_layTrace_60 : decode cX8_layTrace 60 = .ok (.aload_n 0, 1) := by decide +kernel
theorem dX8_layTrace_61 : decode cX8_layTrace 61 = .ok (.getfield 26, 3) := by decide +kernel
theorem dX8_layTrace_64 : decode cX8_layTrace 64 = .ok (.iload_n 3, 1) := by decide +kernel
theorem dX8_layTrace_65 : decode cX8_layTrace 65 = .ok (.invokevirtual 122, 3) := by decide +kernel
theorem dX8_layTrace_68 : decode cX8_layTrace 68 = .ok (.invokevirtual 218, 3) := by decide +kernel
theorem dX8_layTrace_71 : decode cX8_layTrace 71 = .ok (.ifCond .eq 31, 3) := by decide +kernel
theorem dX8_layTrace_74 : decode cX8_layTrace 74 = .ok (.aload_n 0, 1) := by decide +kernel
theorem dX8_layTrace_75 : decode cX8_layTrace 75 = .ok (.getfield 47, 3) := by decide +kernel
theorem dX8_layTrace_78 : decode cX8_layTrace 78 = .ok (.aload_n 0, 1) := by decide +kernel
theorem dX8_layTrace_79 : decode cX8_layTrace 79 = .ok (.getfield 64, 3) := by decide +kernel
theorem dX8_layTrace_82 : decode cX8_layTrace 82 = .ok (.invokevirtual 188, 3) := by decide +kernel
theorem dX8_layTrace_85 : decode cX8_layTrace 85 = .ok (.aload_n 0, 1) := by decide +kernel
theorem dX8_layTrace_86 : decode cX8_layTrace 86 = .ok (.getfield 54, 3) := by decide +kernel
theorem dX8_layTrace_89 : decode cX8_layTrace 89 = .ok (.iload_n 1, 1) := by decide +kernel
theorem dX8_layTrace_90 : decode cX8_layTrace 90 = .ok (.iconst 1, 1) := by decide +kernel
theorem dX8_layTrace_91 : decode cX8_layTrace 91 = .ok (.iadd, 1) := by decide +kernel
theorem dX8_layTrace_92 : decode cX8_layTrace 92 = .ok (.invokevirtual 236, 3) := by decide +kernel
theorem dX8_layTrace_95 : decode cX8_layTrace 95 = .ok (.if_icmp .ne 7, 3) := by decide +kernel
theorem dX8_layTrace_98 : decode cX8_layTrace 98 = .ok (.iconst 1, 1) := by decide +kernel
theorem dX8_layTrace_99 : decode cX8_layTrace 99 = .ok (.goto 4, 3) := by decide +kernel
theorem dX8_layTrace_102 : decode cX8_layTrace 102 = .ok (.iconst 0, 1) := by decide +kernel
theorem dX8_layTrace_103 : decode cX8_layTrace 103 = .ok (.istore_n 2, 1) := by decide +kernel
theorem dX8_layTrace_104 : decode cX8_layTrace 104 = .ok (.iload_n 2, 1) := by decide +kernel
theorem dX8_layTrace_105 : decode cX8_layTrace 105 = .ok (.ifCond .eq 16, 3) := by decide +kernel
theorem dX8_layTrace_108 : decode cX8_layTrace 108 = .ok (.aload_n 0, 1) := by decide +kernel
theorem dX8_layTrace_109 : decode cX8_layTrace 109 = .ok (.getfield 54, 3) := by decide +kernel
theorem dX8_layTrace_112 : decode cX8_layTrace 112 = .ok (.iload_n 1, 1) := by decide +kernel
theorem dX8_layTrace_113 : decode cX8_layTrace 113 = .ok (.iload_n 3, 1) := by decide +kernel
theorem dX8_layTrace_114 : decode cX8_layTrace 114 = .ok (.aload_n 0, 1) := by decide +kernel
theorem dX8_layTrace_115 : decode cX8_layTrace 115 = .ok (.getfield 61, 3) := by decide +kernel
theorem dX8_layTrace_118 : decode cX8_layTrace 118 = .ok (.invokevirtual 239, 3) := by decide +kernel
theorem dX8_layTrace_121 : decode cX8_layTrace 121 = .ok (.iinc 3 1, 3) := by decide +kernel
theorem dX8_layTrace_124 : decode cX8_layTrace 124 = .ok (.goto (-80), 3) := by decide +kernel
theorem dX8_layTrace_127 : decode cX8_layTrace 127 = .ok (.iinc 1 1, 3) := by decide +kernel
theorem dX8_layTrace_130 : decode cX8_layTrace 130 = .ok (.goto (-113), 3) := by decide +kernel
theorem dX8_layTrace_133 : decode cX8_layTrace 133 = .ok (.return_, 1) := by decide +kernel
end
section
theorem dX9_init_0 : decode cX9_init 0 = .ok (.aload_n 0, 1) := by decide +kernel
theorem dX9_init_1 : decode cX9_init 1 = .ok (.invokespecial 1, 3) := by decide +kernel
theorem dX9_init_4 : decode cX9_init 4 = .ok (.aload_n 0, 1) := by decide +kernel
theorem dX9_init_5 : decode cX9_init 5 = .ok (.bipush 6, 2) := by decide +kernel
theorem dX9_init_7 : decode cX9_init 7 = .ok (.newarray .int, 2) := by decide +kernel
theorem dX9_init_9 : decode cX9_init 9 = .ok (.putfield 7, 3) := by decide +kernel
theorem dX9_init_12 : decode cX9_init 12 = .ok (.aload_n 0, 1) := by decide +kernel
theorem dX9_init_13 : decode cX9_init 13 = .ok (.bipush 6, 2) := by decide +kernel
theorem dX9_init_15 : decode cX9_init 15 = .ok (.newarray .int, 2) := by decide +kernel
theorem dX9_init_17 : decode cX9_init 17 = .ok (.putfield 13, 3) := by decide +kernel
theorem dX9_init_20 : decode cX9_init 20 = .ok (.aload_n 0, 1) := by decide +kernel
theorem dX9_init_21 : decode cX9_init 21 = .ok (.bipush 6, 2) := by decide +kernel
theorem dX9_init_23 : decode cX9_init 23 = .ok (.newarray .int, 2) := by decide +kernel
theorem dX9_init_25 : decode cX9_init 25 = .ok (.putfield 16, 3) := by decide +kernel
theorem dX9_init_28 : decode cX9_init 28 = .ok (.aload_n 0, 1) := by decide +kernel
theorem dX9_init_29 : decode cX9_init 29 = .ok (.sipush 384, 3) := by decide +kernel
theorem dX9_init_32 : decode cX9_init 32 = .ok (.newarray .int, 2) := by decide +kernel
theorem dX9_init_34 : decode cX9_init 34 = .ok (.putfield 19, 3) := by decide +kernel
theorem dX9_init_37 : decode cX9_init 37 = .ok (.aload_n 0, 1) := by decide +kernel
theorem dX9_init_38 : decode cX9_init 38 = .ok (.bipush 12, 2) := by decide +kernel
theorem dX9_init_40 : decode cX9_init 40 = .ok (.newarray .int, 2) := by decide +kernel
theorem dX9_init_42 : decode cX9_init 42 = .ok (.putfield 22, 3) := by decide +kernel
theorem dX9_init_45 : decode cX9_init 45 = .ok (.aload_n 0, 1) := by decide +kernel
theorem dX9_init_46 : decode cX9_init 46 = .ok (.bipush 32, 2) := by decide +kernel
theorem dX9_init_48 : decode cX9_init 48 = .ok (.newarray .int, 2) := by decide +kernel
theorem dX9_init_50 : decode cX9_init 50 = .ok (.putfield 25, 3) := by decide +kernel
theorem dX9_init_53 : decode cX9_init 53 = .ok (.aload_n 0, 1) := by decide +kernel
theorem dX9_init_54 : decode cX9_init 54 = .ok (.sipush 2400, 3) := by decide +kernel
theorem dX9_init_57 : decode cX9_init 57 = .ok (.newarray .int, 2) := by decide +kernel
theorem dX9_init_59 : decode cX9_init 59 = .ok (.putfield 28, 3) := by decide +kernel
theorem dX9_init_62 : decode cX9_init 62 = .ok (.aload_n 0, 1) := by decide +kernel
theorem dX9_init_63 : decode cX9_init 63 = .ok (.sipush 400, 3) := by decide +kernel
theorem dX9_init_66 : decode cX9_init 66 = .ok (.newarray .int, 2) := by decide +kernel
theorem dX9_init_68 : decode cX9_init 68 = .ok (.putfield 31, 3) := by decide +kernel
theorem dX9_init_71 : decode cX9_init 71 = .ok (.aload_n 0, 1) := by decide +kernel
theorem dX9_init_72 : decode cX9_init 72 = .ok (.bipush 6, 2) := by decide +kernel
theorem dX9_init_74 : decode cX9_init 74 = .ok (.newarray .int, 2) := by decide +kernel
theorem dX9_init_76 : decode cX9_init 76 = .ok (.putfield 34, 3) := by decide +kernel
theorem dX9_init_79 : decode cX9_init 79 = .ok (.aload_n 0, 1) := by decide +kernel
theorem dX9_init_80 : decode cX9_init 80 = .ok (.bipush 6, 2) := by decide +kernel
theorem dX9_init_82 : decode cX9_init 82 = .ok (.newarray .int, 2) := by decide +kernel
theorem dX9_init_84 : decode cX9_init 84 = .ok (.putfield 37, 3) := by decide +kernel
theorem dX9_init_87 : decode cX9_init 87 = .ok (.aload_n 0, 1) := by decide +kernel
theorem dX9_init_88 : decode cX9_init 88 = .ok (.bipush 6, 2) := by decide +kernel
theorem dX9_init_90 : decode cX9_init 90 = .ok (.newarray .int, 2) := by decide +kernel
theorem dX9_init_92 : decode cX9_init 92 = .ok (.putfield 40, 3) := by decide +kernel
theorem dX9_init_95 : decode cX9_init 95 = .ok (.aload_n 0, 1) := by decide +kernel
theorem dX9_init_96 : decode cX9_init 96 = .ok (.bipush 9, 2) := by decide +kernel
theorem dX9_init_98 : decode cX9_init 98 = .ok (.newarray .int, 2) := by decide +kernel
theorem dX9_init_100 : decode cX9_init 100 = .ok (.putfield 43, 3) := by decide +kernel
theorem dX9_init_103 : decode cX9_init 103 = .ok (.aload_n 0, 1) := by decide +kernel
theorem dX9_init_104 : decode cX9_init 104 = .ok (.iconst (-1), 1) := by decide +kernel
theorem dX9_init_105 : decode cX9_init 105 = .ok (.putfield 46, 3) := by decide +kernel
theorem dX9_init_108 : decode cX9_init 108 = .ok (.return_, 1) := by decide +kernel
theorem dX9_init__0 : decode cX9_init_ 0 = .ok (.iconst 0, 1) := by decide +kernel
theorem dX9_init__1 : decode cX9_init_ 1 = .ok (.istore_n 1, 1) := by decide +kernel
theorem dX9_init__2 : decode cX9_init_ 2 = .ok (.iload_n 1, 1) := by decide +kernel
theorem dX9_init__3 : decode cX9_init_ 3 = .ok (.bipush 6, 2) := by decide +kernel
theorem dX9_init__5 : decode cX9_init_ 5 = .ok (.if_icmp .ge 30, 3) := by decide +kernel
theorem dX9_init__8 : decode cX9_init_ 8 = .ok (.aload_n 0, 1) := by decide +kernel
theorem dX9_init__9 : decode cX9_init_ 9 = .ok (.getfield 7, 3) := by decide +kernel
theorem dX9_init__12 : decode cX9_init_ 12 = .ok (.iload_n 1, 1) := by decide +kernel
theorem dX9_init__13 : decode cX9_init_ 13 = .ok (.iconst 0, 1) := by decide +kernel
theorem dX9_init__14 : decode cX9_init_ 14 = .ok (.iastore, 1) := by decide +kernel
theorem dX9_init__15 : decode cX9_init_ 15 = .ok (.aload_n 0, 1) := by decide +kernel
theorem dX9_init__16 : decode cX9_init_ 16 = .ok (.getfield 13, 3) := by decide +kernel
theorem dX9_init__19 : decode cX9_init_ 19 = .ok (.iload_n 1, 1) := by decide +kernel
theorem dX9_init__20 : decode cX9_init_ 20 = .ok (.iconst 0, 1) := by decide +kernel
theorem dX9_init__21 : decode cX9_init_ 21 = .ok (.iastore, 1) := by decide +kernel
theorem dX9_init__22 : decode cX9_init_ 22 = .ok (.aload_n 0, 1) := by decide +kernel
theorem dX9_init__23 : decode cX9_init_ 23 = .ok (.getfield 16, 3) := by decide +kernel
theorem dX9_init__26 : decode cX9_init_ 26 = .ok (.iload_n 1, 1) := by decide +kernel
theorem dX9_init__27 : decode cX9_init_ 27 = .ok (.iconst 0, 1) := by decide +kernel
theorem dX9_init__28 : decode cX9_init_ 28 = .ok (.iastore, 1) := by decide +kernel
theorem dX9_init__29 : decode cX9_init_ 29 = .ok (.iinc 1 1, 3) := by decide +kernel
theorem dX9_init__32 : decode cX9_init_ 32 = .ok (.goto (-30), 3) := by decide +kernel
theorem dX9_init__35 : decode cX9_init_ 35 = .ok (.aload_n 0, 1) := by decide +kernel
theorem dX9_init__36 : decode cX9_init_ 36 = .ok (.iconst 0, 1) := by decide +kernel
theorem dX9_init__37 : decode cX9_init_ 37 = .ok (.putfield 50, 3) := by decide +kernel
theorem dX9_init__40 : decode cX9_init_ 40 = .ok (.aload_n 0, 1) := by decide +kernel
theorem dX9_init__41 : decode cX9_init_ 41 = .ok (.iconst 0, 1) := by decide +kernel
theorem dX9_init__42 : decode cX9_init_ 42 = .ok (.putfield 53, 3) := by decide +kernel
theorem dX9_init__45 : decode cX9_init_ 45 = .ok (.aload_n 0, 1) := by decide +kernel
theorem dX9_init__46 : decode cX9_init_ 46 = .ok (.iconst 0, 1) := by decide +kernel
theorem dX9_init__47 : decode cX9_init_ 47 = .ok (.putfield 56, 3) := by decide +kernel
theorem dX9_init__50 : decode cX9_init_ 50 = .ok (.aload_n 0, 1) := by decide +kernel
theorem dX9_init__51 : decode cX9_init_ 51 = .ok (.iconst 0, 1) := by decide +kernel
theorem dX9_init__52 : decode cX9_init_ 52 = .ok (.putfield 59, 3) := by decide +kernel
theorem dX9_init__55 : decode cX9_init_ 55 = .ok (.aload_n 0, 1) := by decide +kernel
theorem dX9_init__56 : decode cX9_init_ 56 = .ok (.iconst (-1), 1) := by decide +kernel
theorem dX9_init__57 : decode cX9_init_ 57 = .ok (.putfield 46, 3) := by decide +kernel
theorem dX9_init__60 : decode cX9_init_ 60 = .ok (.aload_n 0, 1) := by decide +kernel
theorem dX9_init__61 : decode cX9_init_ 61 = .ok (.iconst 0, 1) := by decide +kernel
theorem dX9_init__62 : decode cX9_init_ 62 = .ok (.putfield 62, 3) := by decide +kernel
theorem dX9_init__65 : decode cX9_init_ 65 = .ok (.aload_n 0, 1) := by decide +kernel
theorem dX9_init__66 : decode cX9_init_ 66 = .ok (.iconst 0, 1) := by decide +kernel
theorem dX9_init__67 : decode cX9_init_ 67 = .ok (.putfield 66, 3) := by decide +kernel
theorem dX9_init__70 : decode cX9_init_ 70 = .ok (.return_, 1) := by decide +kernel
theorem dX9_isVariable_0 : decode cX9_isVariable 0 = .ok (.iload_n 0, 1) := by decide +kernel
theorem dX9_isVariable_1 : decode cX9_isVariable 1 = .ok (.ifCond .lt 13, 3) := by decide +kernel
theorem dX9_isVariable_4 : decode cX9_isVariable 4 = .ok (.iload_n 0, 1) := by decide +kernel
theorem dX9_isVariable_5 : decode cX9_isVariable 5 = .ok (.bipush 6, 2) := by decide +kernel
theorem dX9_isVariable_7 : decode cX9_isVariable 7 = .ok (.if_icmp .ge 7, 3) := by decide +kernel
theorem dX9_isVariable_10 : decode cX9_isVariable 10 = .ok (.iconst 1, 1) := by decide +kernel
theorem dX9_isVariable_11 : decode cX9_isVariable 11 = .ok (.goto 4, 3) := by decide +kernel
theorem dX9_isVariable_14 : decode cX9_isVariable 14 = .ok (.iconst 0, 1) := by decide +kernel
theorem dX9_isVariable_15 : decode cX9_isVariable 15 = .ok (.ireturn, 1) := by decide +kernel
theorem dX9_setInit_0 : decode cX9_setInit 0 = .ok (.iload_n 1, 1) := by decide +kernel
theorem dX9_setInit_1 : decode cX9_setInit 1 = .ok (.invokestatic 69, 3) := by decide +kernel
theorem dX9_setInit_4 : decode cX9_setInit 4 = .ok (.ifCond .ne 5, 3) := by decide +kernel
theorem dX9_setInit_7 : decode cX9_setInit 7 = .ok (.iconst (-1), 1) := by decide +kernel
theorem dX9_setInit_8 : decode cX9_setInit 8 = .ok (.ireturn, 1) := by decide +kernel
theorem dX9_setInit_9 : decode cX9_setInit 9 = .ok (.aload_n 0, 1) := by decide +kernel
theorem dX9_setInit_10 : decode cX9_setInit 10 = .ok (.getfield 62, 3) := by decide +kernel
theorem dX9_setInit_13 : decode cX9_setInit 13 = .ok (.ifCond .eq 6, 3) := by decide +kernel
theorem dX9_setInit_16 : decode cX9_setInit 16 = .ok (.bipush (-2), 2) := by decide +kernel
theorem dX9_setInit_18 : decode cX9_setInit 18 = .ok (.ireturn, 1) := by decide +kernel
theorem dX9_setInit_19 : decode cX9_setInit 19 = .ok (.aload_n 0, 1) := by decide +kernel
theorem dX9_setInit_20 : decode cX9_setInit 20 = .ok (.getfield 7, 3) := by decide +kernel
theorem dX9_setInit_23 : decode cX9_setInit 23 = .ok (.iload_n 1, 1) := by decide +kernel
theorem dX9_setInit_24 : decode cX9_setInit 24 = .ok (.iload_n 2, 1) := by decide +kernel
theorem dX9_setInit_25 : decode cX9_setInit 25 = .ok (.iastore, 1) := by decide +kernel
theorem dX9_setInit_26 : decode cX9_setInit 26 = .ok (.iconst 0, 1) := by decide +kernel
theorem dX9_setInit_27 : decode cX9_setInit 27 = .ok (.ireturn, 1) := by decide +kernel
theorem dX9_setSymGroup_0 : decode cX9_setSymGroup 0 = .ok (.iload_n 1, 1) := by decide +kernel
theorem dX9_setSymGroup_1 : decode cX9_setSymGroup 1 = .ok (.invokestatic 69, 3) := by decide +kernel
theorem dX9_setSymGroup_4 : decode cX9_setSymGroup 4 = .ok (.ifCond .eq 12, 3) := by decide +kernel
theorem dX9_setSymGroup_7 : decode cX9_setSymGroup 7 = .ok (.iload_n 2, 1) := by decide +kernel
theorem dX9_setSymGroup_8 : decode cX9_setSymGroup 8 = .ok (.ifCond .lt 8, 3) := by decide +kernel
theorem dX9_setSymGroup_11 : decode cX9_setSymGroup 11 = .ok (.iload_n 2, 1) := by decide +kernel
theorem dX9_setSymGroup_12 : decode cX9_setSymGroup 12 = .ok (.iconst 3, 1) := by decide +kernel
theorem dX9_setSymGroup_13 : decode cX9_setSymGroup 13 = .ok (.if_icmp .le 5, 3) := by decide +kernel
theorem dX9_setSymGroup_16 : decode cX9_setSymGroup 16 = .ok (.iconst (-1), 1) := by decide +kernel
theorem dX9_setSymGroup_17 : decode cX9_setSymGroup 17 = .ok (.ireturn, 1) := by decide +kernel
theorem dX9_setSymGroup_18 : decode cX9_setSymGroup 18 = .ok (.aload_n 0, 1) := by decide +kernel
theorem dX9_setSymGroup_19 : decode cX9_setSymGroup 19 = .ok (.getfield 62, 3) := by decide +kernel
theorem dX9_setSymGroup_22 : decode cX9_setSymGroup 22 = .ok (.ifCond .eq 6, 3) := by decide +kernel
theorem dX9_setSymGroup_25 : decode cX9_setSymGroup 25 = .ok (.bipush (-2), 2) := by decide +kernel
theorem dX9_setSymGroup_27 : decode cX9_setSymGroup 27 = .ok (.ireturn, 1) := by decide +kernel
theorem dX9_setSymGroup_28 : decode cX9_setSymGroup 28 = .ok (.aload_n 0, 1) := by decide +kernel
theorem dX9_setSymGroup_29 : decode cX9_setSymGroup 29 = .ok (.getfield 13, 3) := by decide +kernel
theorem dX9_setSymGroup_32 : decode cX9_setSymGroup 32 = .ok (.iload_n 1, 1) := by decide +kernel
theorem dX9_setSymGroup_33 : decode cX9_setSymGroup 33 = .ok (.iload_n 2, 1) := by decide +kernel
theorem dX9_setSymGroup_34 : decode cX9_setSymGroup 34 = .ok (.iastore, 1) := by decide +kernel
theorem dX9_setSymGroup_35 : decode cX9_setSymGroup 35 = .ok (.iconst 0, 1) := by decide +kernel
theorem dX9_setSymGroup_36 : decode cX9_setSymGroup 36 = .ok (.ireturn, 1) := by decide +kernel
theorem dX9_beginRule_0 : decode cX9_beginRule 0 = .ok (.aload_n 0, 1) := by decide +kernel
theorem dX9_beginRule_1 : decode cX9_beginRule 1 = .ok (.getfield 62, 3) := by decide +kernel
theorem dX9_beginRule_4 : decode cX9_beginRule 4 = .ok (.ifCond .eq 6, 3) := by decide +kernel
theorem dX9_beginRule_7 : decode cX9_beginRule 7 = .ok (.bipush (-2), 2) := by decide +kernel
theorem dX9_beginRule_9 : decode cX9_beginRule 9 = .ok (.ireturn, 1) := by decide +kernel
theorem dX9_beginRule_10 : decode cX9_beginRule 10 = .ok (.aload_n 0, 1) := by decide +kernel
theorem dX9_beginRule_11 : decode cX9_beginRule 11 = .ok (.getfield 50, 3) := by decide +kernel
theorem dX9_beginRule_14 : decode cX9_beginRule 14 = .ok (.bipush 12, 2) := by decide +kernel
theorem dX9_beginRule_16 : decode cX9_beginRule 16 = .ok (.if_icmp .ne 6, 3) := by decide +kernel
theorem dX9_beginRule_19 : decode cX9_beginRule 19 = .ok (.bipush (-3), 2) := by decide +kernel
theorem dX9_beginRule_21 : decode cX9_beginRule 21 = .ok (.ireturn, 1) := by decide +kernel
theorem dX9_beginRule_22 : decode cX9_beginRule 22 = .ok (.aload_n 0, 1) := by decide +kernel
theorem dX9_beginRule_23 : decode cX9_beginRule 23 = .ok (.getfield 22, 3) := by decide +kernel
theorem dX9_beginRule_26 : decode cX9_beginRule 26 = .ok (.aload_n 0, 1) := by decide +kernel
theorem dX9_beginRule_27 : decode cX9_beginRule 27 = .ok (.getfield 50, 3) := by decide +kernel
theorem dX9_beginRule_30 : decode cX9_beginRule 30 = .ok (.iconst 0, 1) := by decide +kernel
theorem dX9_beginRule_31 : decode cX9_beginRule 31 = .ok (.iastore, 1) := by decide +kernel
theorem dX9_beginRule_32 : decode cX9_beginRule 32 = .ok (.aload_n 0, 1) := by decide +kernel
theorem dX9_beginRule_33 : decode cX9_beginRule 33 = .ok (.dup, 1) := by decide +kernel
theorem dX9_beginRule_34 : decode cX9_beginRule 34 = .ok (.getfield 50, 3) := by decide +kernel
theorem dX9_beginRule_37 : decode cX9_beginRule 37 = .ok (.iconst 1, 1) := by decide +kernel
theorem dX9_beginRule_38 : decode cX9_beginRule 38 = .ok (.iadd, 1) := by decide +kernel
theorem dX9_beginRule_39 : decode cX9_beginRule 39 = .ok (.putfield 50, 3) := by decide +kernel
theorem dX9_beginRule_42 : decode cX9_beginRule 42 = .ok (.aload_n 0, 1) := by decide +kernel
theorem dX9_beginRule_43 : decode cX9_beginRule 43 = .ok (.getfield 50, 3) := by decide +kernel
theorem dX9_beginRule_46 : decode cX9_beginRule 46 = .ok (.iconst 1, 1) := by decide +kernel
theorem dX9_beginRule_47 : decode cX9_beginRule 47 = .ok (.isub, 1) := by decide +kernel
theorem dX9_beginRule_48 : decode cX9_beginRule 48 = .ok (.ireturn, 1) := by decide +kernel
theorem dX9_isWord_0 : decode cX9_isWord 0 = .ok (.iload_n 0, 1) := by decide +kernel
theorem dX9_isWord_1 : decode cX9_isWord 1 = .ok (.sipush 255, 3) := by decide +kernel
theorem dX9_isWord_4 : decode cX9_isWord 4 = .ok (.iand, 1) := by decide +kernel
theorem dX9_isWord_5 : decode cX9_isWord 5 = .ok (.istore_n 1, 1) := by decide +kernel
theorem dX9_isWord_6 : decode cX9_isWord 6 = .ok (.iload_n 0, 1) := by decide +kernel
theorem dX9_isWord_7 : decode cX9_isWord 7 = .ok (.bipush 8, 2) := by decide +kernel
theorem dX9_isWord_9 : decode cX9_isWord 9 = .ok (.ishr, 1) := by decide +kernel
theorem dX9_isWord_10 : decode cX9_isWord 10 = .ok (.istore_n 2, 1) := by decide +kernel
theorem dX9_isWord_11 : decode cX9_isWord 11 = .ok (.iload_n 1, 1) := by decide +kernel
theorem dX9_isWord_12 : decode cX9_isWord 12 = .ok (.ifCond .ne 5, 3) := by decide +kernel
theorem dX9_isWord_15 : decode cX9_isWord 15 = .ok (.iconst 1, 1) := by decide +kernel
theorem dX9_isWord_16 : decode cX9_isWord 16 = .ok (.ireturn, 1) := by decide +kernel
theorem dX9_isWord_17 : decode cX9_isWord 17 = .ok (.iload_n 1, 1) := by decide +kernel
theorem dX9_isWord_18 : decode cX9_isWord 18 = .ok (.iconst 1, 1) := by decide +kernel
theorem dX9_isWord_19 : decode cX9_isWord 19 = .ok (.if_icmp .eq 9, 3) := by decide +kernel
theorem dX9_isWord_22 : decode cX9_isWord 22 = .ok (.iload_n 1, 1) := by decide +kernel
theorem dX9_isWord_23 : decode cX9_isWord 23 = .ok (.bipush 11, 2) := by decide +kernel
theorem dX9_isWord_25 : decode cX9_isWord 25 = .ok (.if_icmp .ne 8, 3) := by decide +kernel
theorem dX9_isWord_28 : decode cX9_isWord 28 = .ok (.iload_n 2, 1) := by decide +kernel
theorem dX9_isWord_29 : decode cX9_isWord 29 = .ok (.invokestatic 69, 3) := by decide +kernel
theorem dX9_isWord_32 : decode cX9_isWord 32 = .ok (.ireturn, 1) := by decide +kernel
theorem dX9_isWord_33 : decode cX9_isWord 33 = .ok (.iload_n 1, 1) := by decide +kernel
theorem dX9_isWord_34 : decode cX9_isWord 34 = .ok (.bipush 12, 2) := by decide +kernel
theorem dX9_isWord_36 : decode cX9_isWord 36 = .ok (.if_icmp .gt 11, 3) := by decide +kernel
theorem dX9_isWord_39 : decode cX9_isWord 39 = .ok (.iload_n 2, 1) := by decide +kernel
theorem dX9_isWord_40 : decode cX9_isWord 40 = .ok (.ifCond .ne 7, 3) := by decide +kernel
theorem dX9_isWord_43 : decode cX9_isWord 43 = .ok (.iconst 1, 1) := by decide +kernel
theorem dX9_isWord_44 : decode cX9_isWord 44 = .ok (.goto 4, 3) := by decide +kernel
theorem dX9_isWord_47 : decode cX9_isWord 47 = .ok (.iconst 0, 1) := by decide +kernel
theorem dX9_isWord_48 : decode cX9_isWord 48 = .ok (.ireturn, 1) := by decide +kernel
theorem dX9_feedRule_0 : decode cX9_feedRule 0 = .ok (.aload_n 0, 1) := by decide +kernel
theorem dX9_feedRule_1 : decode cX9_feedRule 1 = .ok (.getfield 62, 3) := by decide +kernel
theorem dX9_feedRule_4 : decode cX9_feedRule 4 = .ok (.ifCond .eq 6, 3) := by decide +kernel
theorem dX9_feedRule_7 : decode cX9_feedRule 7 = .ok (.bipush (-2), 2) := by decide +kernel
theorem dX9_feedRule_9 : decode cX9_feedRule 9 = .ok (.ireturn, 1) := by decide +kernel
theorem dX9_feedRule_10 : decode cX9_feedRule 10 = .ok (.aload_n 0, 1) := by decide +kernel
theorem dX9_feedRule_11 : decode cX9_feedRule 11 = .ok (.getfield 50, 3) := by decide +kernel
theorem dX9_feedRule_14 : decode cX9_feedRule 14 = .ok (.ifCond .ne 6, 3) := by decide +kernel
theorem dX9_feedRule_17 : decode cX9_feedRule 17 = .ok (.bipush (-4), 2) := by decide +kernel
theorem dX9_feedRule_19 : decode cX9_feedRule 19 = .ok (.ireturn, 1) := by decide +kernel
theorem dX9_feedRule_20 : decode cX9_feedRule 20 = .ok (.iload_n 1, 1) := by decide +kernel
theorem dX9_feedRule_21 : decode cX9_feedRule 21 = .ok (.invokestatic 73, 3) := by decide +kernel
theorem dX9_feedRule_24 : decode cX9_feedRule 24 = .ok (.ifCond .ne 5, 3) := by decide +kernel
theorem dX9_feedRule_27 : decode cX9_feedRule 27 = .ok (.iconst (-1), 1) := by decide +kernel
theorem dX9_feedRule_28 : decode cX9_feedRule 28 = .ok (.ireturn, 1) := by decide +kernel
theorem dX9_feedRule_29 : decode cX9_feedRule 29 = .ok (.aload_n 0, 1) := by decide +kernel
theorem dX9_feedRule_30 : decode cX9_feedRule 30 = .ok (.getfield 50, 3) := by decide +kernel
theorem dX9_feedRule_33 : decode cX9_feedRule 33 = .ok (.iconst 1, 1) := by decide +kernel
theorem dX9_feedRule_34 : decode cX9_feedRule 34 = .ok (.isub, 1) := by decide +kernel
theorem dX9_feedRule_35 : decode cX9_feedRule 35 = .ok (.istore_n 2, 1) := by decide +kernel
theorem dX9_feedRule_36 : decode cX9_feedRule 36 = .ok (.aload_n 0, 1) := by decide +kernel
theorem dX9_feedRule_37 : decode cX9_feedRule 37 = .ok (.getfield 22, 3) := by decide +kernel
theorem dX9_feedRule_40 : decode cX9_feedRule 40 = .ok (.iload_n 2, 1) := by decide +kernel
theorem dX9_feedRule_41 : decode cX9_feedRule 41 = .ok (.iaload, 1) := by decide +kernel
theorem dX9_feedRule_42 : decode cX9_feedRule 42 = .ok (.bipush 32, 2) := by decide +kernel
theorem dX9_feedRule_44 : decode cX9_feedRule 44 = .ok (.if_icmp .ne 6, 3) := by decide +kernel
theorem dX9_feedRule_47 : decode cX9_feedRule 47 = .ok (.bipush (-3), 2) := by decide +kernel
theorem dX9_feedRule_49 : decode cX9_feedRule 49 = .ok (.ireturn, 1) := by decide +kernel
theorem dX9_feedRule_50 : decode cX9_feedRule 50 = .ok (.aload_n 0, 1) := by decide +kernel
theorem dX9_feedRule_51 : decode cX9_feedRule 51 = .ok (.getfield 19, 3) := by decide +kernel
theorem dX9_feedRule_54 : decode cX9_feedRule 54 = .ok (.bipush 32, 2) := by decide +kernel
theorem dX9_feedRule_56 : decode cX9_feedRule 56 = .ok (.iload_n 2, 1) := by decide +kernel
theorem dX9_feedRule_57 : decode cX9_feedRule 57 = .ok (.imul, 1) := by decide +kernel
theorem dX9_feedRule_58 : decode cX9_feedRule 58 = .ok (.aload_n 0, 1) := by decide +kernel
theorem dX9_feedRule_59 : decode cX9_feedRule 59 = .ok (.getfield 22, 3) := by decide +kernel
theorem dX9_feedRule_62 : decode cX9_feedRule 62 = .ok (.iload_n 2, 1) := by decide +kernel
theorem dX9_feedRule_63 : decode cX9_feedRule 63 = .ok (.iaload, 1) := by decide +kernel
theorem dX9_feedRule_64 : decode cX9_feedRule 64 = .ok (.iadd, 1) := by decide +kernel
theorem dX9_feedRule_65 : decode cX9_feedRule 65 = .ok (.iload_n 1, 1) := by decide +kernel
theorem dX9_feedRule_66 : decode cX9_feedRule 66 = .ok (.iastore, 1) := by decide +kernel
theorem dX9_feedRule_67 : decode cX9_feedRule 67 = .ok (.aload_n 0, 1) := by decide +kernel
theorem dX9_feedRule_68 : decode cX9_feedRule 68 = .ok (.getfield 22, 3) := by decide +kernel
theorem dX9_feedRule_71 : decode cX9_feedRule 71 = .ok (.iload_n 2, 1) := by decide +kernel
theorem dX9_feedRule_72 : decode cX9_feedRule 72 = .ok (.dup2, 1) := by decide +kernel
theorem dX9_feedRule_73 : decode cX9_feedRule 73 = .ok (.iaload, 1) := by decide +kernel
theorem dX9_feedRule_74 : decode cX9_feedRule 74 = .ok (.iconst 1, 1) := by decide +kernel
theorem dX9_feedRule_75 : decode cX9_feedRule 75 = .ok (.iadd, 1) := by decide +kernel
theorem dX9_feedRule_76 : decode cX9_feedRule 76 = .ok (.iastore, 1) := by decide +kernel
theorem dX9_feedRule_77 : decode cX9_feedRule 77 = .ok (.iconst 0, 1) := by decide +kernel
theorem dX9_feedRule_78 : decode cX9_feedRule 78 = .ok (.ireturn, 1) := by decide +kernel
theorem dX9_feedInvariant_0 : decode cX9_feedInvariant 0 = .ok (.aload_n 0, 1) := by decide +kernel
theorem dX9_feedInvariant_1 : decode cX9_feedInvariant 1 = .ok (.getfield 62, 3) := by decide +kernel
theorem dX9_feedInvariant_4 : decode cX9_feedInvariant 4 = .ok (.ifCond .eq 6, 3) := by decide +kernel
theorem dX9_feedInvariant_7 : decode cX9_feedInvariant 7 = .ok (.bipush (-2), 2) := by decide +kernel
theorem dX9_feedInvariant_9 : decode cX9_feedInvariant 9 = .ok (.ireturn, 1) := by decide +kernel
theorem dX9_feedInvariant_10 : decode cX9_feedInvariant 10 = .ok (.iload_n 1, 1) := by decide +kernel
theorem dX9_feedInvariant_11 : decode cX9_feedInvariant 11 = .ok (.invokestatic 73, 3) := by decide +kernel
theorem dX9_feedInvariant_14 : decode cX9_feedInvariant 14 = .ok (.ifCond .ne 5, 3) := by decide +kernel
theorem dX9_feedInvariant_17 : decode cX9_feedInvariant 17 = .ok (.iconst (-1), 1) := by decide +kernel
theorem dX9_feedInvariant_18 : decode cX9_feedInvariant 18 = .ok (.ireturn, 1) := by decide +kernel
theorem dX9_feedInvariant_19 : decode cX9_feedInvariant 19 = .ok (.aload_n 0, 1) := by decide +kernel
theorem dX9_feedInvariant_20 : decode cX9_feedInvariant 20 = .ok (.getfield 53, 3) := by decide +kernel
theorem dX9_feedInvariant_23 : decode cX9_feedInvariant 23 = .ok (.bipush 32, 2) := by decide +kernel
theorem dX9_feedInvariant_25 : decode cX9_feedInvariant 25 = .ok (.if_icmp .ne 6, 3) := by decide +kernel
theorem dX9_feedInvariant_28 : decode cX9_feedInvariant 28 = .ok (.bipush (-3), 2) := by decide +kernel
theorem dX9_feedInvariant_30 : decode cX9_feedInvariant 30 = .ok (.ireturn, 1) := by decide +kernel
theorem dX9_feedInvariant_31 : decode cX9_feedInvariant 31 = .ok (.aload_n 0, 1) := by decide +kernel
theorem dX9_feedInvariant_32 : decode cX9_feedInvariant 32 = .ok (.getfield 25, 3) := by decide +kernel
theorem dX9_feedInvariant_35 : decode cX9_feedInvariant 35 = .ok (.aload_n 0, 1) := by decide +kernel
theorem dX9_feedInvariant_36 : decode cX9_feedInvariant 36 = .ok (.getfield 53, 3) := by decide +kernel
theorem dX9_feedInvariant_39 : decode cX9_feedInvariant 39 = .ok (.iload_n 1, 1) := by decide +kernel
theorem dX9_feedInvariant_40 : decode cX9_feedInvariant 40 = .ok (.iastore, 1) := by decide +kernel
theorem dX9_feedInvariant_41 : decode cX9_feedInvariant 41 = .ok (.aload_n 0, 1) := by decide +kernel
theorem dX9_feedInvariant_42 : decode cX9_feedInvariant 42 = .ok (.dup, 1) := by decide +kernel
theorem dX9_feedInvariant_43 : decode cX9_feedInvariant 43 = .ok (.getfield 53, 3) := by decide +kernel
theorem dX9_feedInvariant_46 : decode cX9_feedInvariant 46 = .ok (.iconst 1, 1) := by decide +kernel
theorem dX9_feedInvariant_47 : decode cX9_feedInvariant 47 = .ok (.iadd, 1) := by decide +kernel
theorem dX9_feedInvariant_48 : decode cX9_feedInvariant 48 = .ok (.putfield 53, 3) := by decide +kernel
theorem dX9_feedInvariant_51 : decode cX9_feedInvariant 51 = .ok (.iconst 0, 1) := by decide +kernel
theorem dX9_feedInvariant_52 : decode cX9_feedInvariant 52 = .ok (.ireturn, 1) := by decide +kernel
theorem dX9_height_0 : decode cX9_height 0 = .ok (.iload_n 0, 1) := by decide +kernel
theorem dX9_height_1 : decode cX9_height 1 = .ok (.iconst 1, 1) := by decide +kernel
theorem dX9_height_2 : decode cX9_height 2 = .ok (.if_icmp .gt 17, 3) := by decide +kernel
theorem dX9_height_5 : decode cX9_height 5 = .ok (.iload_n 1, 1) := by decide +kernel
theorem dX9_height_6 : decode cX9_height 6 = .ok (.bipush 8, 2) := by decide +kernel
theorem dX9_height_8 : decode cX9_height 8 = .ok (.if_icmp .ge 9, 3) := by decide +kernel
theorem dX9_height_11 : decode cX9_height 11 = .ok (.iload_n 1, 1) := by decide +kernel
theorem dX9_height_12 : decode cX9_height 12 = .ok (.iconst 1, 1) := by decide +kernel
theorem dX9_height_13 : decode cX9_height 13 = .ok (.iadd, 1) := by decide +kernel
theorem dX9_height_14 : decode cX9_height 14 = .ok (.goto 4, 3) := by decide +kernel
theorem dX9_height_17 : decode cX9_height 17 = .ok (.iconst (-1), 1) := by decide +kernel
theorem dX9_height_18 : decode cX9_height 18 = .ok (.ireturn, 1) := by decide +kernel
theorem dX9_height_19 : decode cX9_height 19 = .ok (.iload_n 0, 1) := by decide +kernel
theorem dX9_height_20 : decode cX9_height 20 = .ok (.bipush 8, 2) := by decide +kernel
theorem dX9_height_22 : decode cX9_height 22 = .ok (.if_icmp .gt 16, 3) := by decide +kernel
theorem dX9_height_25 : decode cX9_height 25 = .ok (.iload_n 1, 1) := by decide +kernel
theorem dX9_height_26 : decode cX9_height 26 = .ok (.iconst 2, 1) := by decide +kernel
theorem dX9_height_27 : decode cX9_height 27 = .ok (.if_icmp .lt 9, 3) := by decide +kernel
theorem dX9_height_30 : decode cX9_height 30 = .ok (.iload_n 1, 1) := by decide +kernel
theorem dX9_height_31 : decode cX9_height 31 = .ok (.iconst 1, 1) := by decide +kernel
theorem dX9_height_32 : decode cX9_height 32 = .ok (.isub, 1) := by decide +kernel
theorem dX9_height_33 : decode cX9_height 33 = .ok (.goto 4, 3) := by decide +kernel
theorem dX9_height_36 : decode cX9_height 36 = .ok (.iconst (-1), 1) := by decide +kernel
theorem dX9_height_37 : decode cX9_height 37 = .ok (.ireturn, 1) := by decide +kernel
theorem dX9_height_38 : decode cX9_height 38 = .ok (.iload_n 0, 1) := by decide +kernel
theorem dX9_height_39 : decode cX9_height 39 = .ok (.bipush 9, 2) := by decide +kernel
theorem dX9_height_41 : decode cX9_height 41 = .ok (.if_icmp .ne 12, 3) := by decide +kernel
theorem dX9_height_44 : decode cX9_height 44 = .ok (.iload_n 1, 1) := by decide +kernel
theorem dX9_height_45 : decode cX9_height 45 = .ok (.iconst 1, 1) := by decide +kernel
theorem dX9_height_46 : decode cX9_height 46 = .ok (.if_icmp .lt 7, 3) := by decide +kernel
theorem dX9_height_49 : decode cX9_height 49 = .ok (.iload_n 1, 1) := by decide +kernel
theorem dX9_height_50 : decode cX9_height 50 = .ok (.goto 4, 3) := by decide +kernel
theorem dX9_height_53 : decode cX9_height 53 = .ok (.iconst (-1), 1) := by decide +kernel
theorem dX9_height_54 : decode cX9_height 54 = .ok (.ireturn, 1) := by decide +kernel
theorem dX9_ruleIsRight_0 : decode cX9_ruleIsRight 0 = .ok (.iconst 0, 1) := by decide +kernel
theorem dX9_ruleIsRight_1 : decode cX9_ruleIsRight 1 = .ok (.istore_n 2, 1) := by decide +kernel
theorem dX9_ruleIsRight_2 : decode cX9_ruleIsRight 2 = .ok (.iconst 0, 1) := by decide +kernel
theorem dX9_ruleIsRight_3 : decode cX9_ruleIsRight 3 = .ok (.istore_n 3, 1) := by decide +kernel
theorem dX9_ruleIsRight_4 : decode cX9_ruleIsRight 4 = .ok (.iconst 0, 1) := by decide +kernel
theorem dX9_ruleIsRight_5 : decode cX9_ruleIsRight 5 = .ok (.istore 4, 2) := by decide +kernel
theorem dX9_ruleIsRight_7 : decode cX9_ruleIsRight 7 = .ok (.iload 4, 2) := by decide +kernel
theorem dX9_ruleIsRight_9 : decode cX9_ruleIsRight 9 = .ok (.aload_n 0, 1) := by decide +kernel
theorem dX9_ruleIsRight_10 : decode cX9_ruleIsRight 10 = .ok (.getfield 22, 3) := by decide +kernel
theorem dX9_ruleIsRight_13 : decode cX9_ruleIsRight 13 = .ok (.iload_n 1, 1) := by decide +kernel
theorem dX9_ruleIsRight_14 : decode cX9_ruleIsRight 14 = .ok (.iaload, 1) := by decide +kernel
theorem dX9_ruleIsRight_15 : decode cX9_ruleIsRight 15 = .ok (.if_icmp .ge 90, 3) := by decide +kernel
theorem dX9_ruleIsRight_18 : decode cX9_ruleIsRight 18 = .ok (.aload_n 0, 1) := by decide +kernel
theorem dX9_ruleIsRight_19 : decode cX9_ruleIsRight 19 = .ok (.getfield 19, 3) := by decide +kernel
theorem dX9_ruleIsRight_22 : decode cX9_ruleIsRight 22 = .ok (.bipush 32, 2) := by decide +kernel
theorem dX9_ruleIsRight_24 : decode cX9_ruleIsRight 24 = .ok (.iload_n 1, 1) := by decide +kernel
theorem dX9_ruleIsRight_25 : decode cX9_ruleIsRight 25 = .ok (.imul, 1) := by decide +kernel
theorem dX9_ruleIsRight_26 : decode cX9_ruleIsRight 26 = .ok (.iload 4, 2) := by decide +kernel
theorem dX9_ruleIsRight_28 : decode cX9_ruleIsRight 28 = .ok (.iadd, 1) := by decide +kernel
theorem dX9_ruleIsRight_29 : decode cX9_ruleIsRight 29 = .ok (.iaload, 1) := by decide +kernel
theorem dX9_ruleIsRight_30 : decode cX9_ruleIsRight 30 = .ok (.sipush 255, 3) := by decide +kernel
theorem dX9_ruleIsRight_33 : decode cX9_ruleIsRight 33 = .ok (.iand, 1) := by decide +kernel
theorem dX9_ruleIsRight_34 : decode cX9_ruleIsRight 34 = .ok (.istore 5, 2) := by decide +kernel
theorem dX9_ruleIsRight_36 : decode cX9_ruleIsRight 36 = .ok (.iload 5, 2) := by decide +kernel
theorem dX9_ruleIsRight_38 : decode cX9_ruleIsRight 38 = .ok (.bipush 10, 2) := by decide +kernel
theorem dX9_ruleIsRight_40 : decode cX9_ruleIsRight 40 = .ok (.if_icmp .ne 22, 3) := by decide +kernel
theorem dX9_ruleIsRight_43 : decode cX9_ruleIsRight 43 = .ok (.iload_n 3, 1) := by decide +kernel
theorem dX9_ruleIsRight_44 : decode cX9_ruleIsRight 44 = .ok (.iconst 1, 1) := by decide +kernel
theorem dX9_ruleIsRight_45 : decode cX9_ruleIsRight 45 = .ok (.if_icmp .eq 8, 3) := by decide +kernel
theorem dX9_ruleIsRight_48 : decode cX9_ruleIsRight 48 = .ok (.iload_n 2, 1) := by decide +kernel
theorem dX9_ruleIsRight_49 : decode cX9_ruleIsRight 49 = .ok (.iconst 1, 1) := by decide +kernel
theorem dX9_ruleIsRight_50 : decode cX9_ruleIsRight 50 = .ok (.if_icmp .eq 5, 3) := by decide +kernel
theorem dX9_ruleIsRight_53 : decode cX9_ruleIsRight 53 = .ok (.iconst 0, 1) := by decide +kernel
theorem dX9_ruleIsRight_54 : decode cX9_ruleIsRight 54 = .ok (.ireturn, 1) := by decide +kernel
theorem dX9_ruleIsRight_55 : decode cX9_ruleIsRight 55 = .ok (.iconst 1, 1) := by decide +kernel
theorem dX9_ruleIsRight_56 : decode cX9_ruleIsRight 56 = .ok (.istore_n 3, 1) := by decide +kernel
theorem dX9_ruleIsRight_57 : decode cX9_ruleIsRight 57 = .ok (.iconst 0, 1) := by decide +kernel
theorem dX9_ruleIsRight_58 : decode cX9_ruleIsRight 58 = .ok (.istore_n 2, 1) := by decide +kernel
theorem dX9_ruleIsRight_59 : decode cX9_ruleIsRight 59 = .ok (.goto 40, 3) := by decide +kernel
theorem dX9_ruleIsRight_62 : decode cX9_ruleIsRight 62 = .ok (.iload 5, 2) := by decide +kernel
theorem dX9_ruleIsRight_64 : decode cX9_ruleIsRight 64 = .ok (.bipush 11, 2) := by decide +kernel
theorem dX9_ruleIsRight_66 : decode cX9_ruleIsRight 66 = .ok (.if_icmp .ne 20, 3) := by decide +kernel
theorem dX9_ruleIsRight_69 : decode cX9_ruleIsRight 69 = .ok (.iload_n 3, 1) := by decide +kernel
theorem dX9_ruleIsRight_70 : decode cX9_ruleIsRight 70 = .ok (.ifCond .eq 8, 3) := by decide +kernel
theorem dX9_ruleIsRight_73 : decode cX9_ruleIsRight 73 = .ok (.iload_n 2, 1) := by decide +kernel
theorem dX9_ruleIsRight_74 : decode cX9_ruleIsRight 74 = .ok (.iconst 1, 1) := by decide +kernel
theorem dX9_ruleIsRight_75 : decode cX9_ruleIsRight 75 = .ok (.if_icmp .ge 5, 3) := by decide +kernel
theorem dX9_ruleIsRight_78 : decode cX9_ruleIsRight 78 = .ok (.iconst 0, 1) := by decide +kernel
theorem dX9_ruleIsRight_79 : decode cX9_ruleIsRight 79 = .ok (.ireturn, 1) := by decide +kernel
theorem dX9_ruleIsRight_80 : decode cX9_ruleIsRight 80 = .ok (.iinc 2 (-1), 3) := by decide +kernel
theorem dX9_ruleIsRight_83 : decode cX9_ruleIsRight 83 = .ok (.goto 16, 3) := by decide +kernel
theorem dX9_ruleIsRight_86 : decode cX9_ruleIsRight 86 = .ok (.iload 5, 2) := by decide +kernel
theorem dX9_ruleIsRight_88 : decode cX9_ruleIsRight 88 = .ok (.iload_n 2, 1) := by decide +kernel
theorem dX9_ruleIsRight_89 : decode cX9_ruleIsRight 89 = .ok (.invokestatic 76, 3) := by decide +kernel
theorem dX9_ruleIsRight_92 : decode cX9_ruleIsRight 92 = .ok (.istore_n 2, 1) := by decide +kernel
theorem dX9_ruleIsRight_93 : decode cX9_ruleIsRight 93 = .ok (.iload_n 2, 1) := by decide +kernel
theorem dX9_ruleIsRight_94 : decode cX9_ruleIsRight 94 = .ok (.ifCond .ge 5, 3) := by decide +kernel
theorem dX9_ruleIsRight_97 : decode cX9_ruleIsRight 97 = .ok (.iconst 0, 1) := by decide +kernel
theorem dX9_ruleIsRight_98 : decode cX9_ruleIsRight 98 = .ok (.ireturn, 1) := by decide +kernel
theorem dX9_ruleIsRight_99 : decode cX9_ruleIsRight 99 = .ok (.iinc 4 1, 3) := by decide +kernel
theorem dX9_ruleIsRight_102 : decode cX9_ruleIsRight 102 = .ok (.goto (-95), 3) := by decide +kernel
theorem dX9_ruleIsRight_105 : decode cX9_ruleIsRight 105 = .ok (.iload_n 3, 1) := by decide +kernel
theorem dX9_ruleIsRight_106 : decode cX9_ruleIsRight 106 = .ok (.iconst 1, 1) := by decide +kernel
theorem dX9_ruleIsRight_107 : decode cX9_ruleIsRight 107 = .ok (.if_icmp .ne 11, 3) := by decide +kernel
theorem dX9_ruleIsRight_110 : decode cX9_ruleIsRight 110 = .ok (.iload_n 2, 1) := by decide +kernel
theorem dX9_ruleIsRight_111 : decode cX9_ruleIsRight 111 = .ok (.ifCond .ne 7, 3) := by decide +kernel
theorem dX9_ruleIsRight_114 : decode cX9_ruleIsRight 114 = .ok (.iconst 1, 1) := by decide +kernel
theorem dX9_ruleIsRight_115 : decode cX9_ruleIsRight 115 = .ok (.goto 4, 3) := by decide +kernel
theorem dX9_ruleIsRight_118 : decode cX9_ruleIsRight 118 = .ok (.iconst 0, 1) := by decide +kernel
theorem dX9_ruleIsRight_119 : decode cX9_ruleIsRight 119 = .ok (.ireturn, 1) := by decide +kernel
theorem dX9_invariantIsRight_0 : decode cX9_invariantIsRight 0 = .ok (.iconst 0, 1) := by decide +kernel
theorem dX9_invariantIsRight_1 : decode cX9_invariantIsRight 1 = .ok (.istore_n 1, 1) := by decide +kernel
theorem dX9_invariantIsRight_2 : decode cX9_invariantIsRight 2 = .ok (.iconst 0, 1) := by decide +kernel
theorem dX9_invariantIsRight_3 : decode cX9_invariantIsRight 3 = .ok (.istore_n 2, 1) := by decide +kernel
theorem dX9_invariantIsRight_4 : decode cX9_invariantIsRight 4 = .ok (.iload_n 2, 1) := by decide +kernel
theorem dX9_invariantIsRight_5 : decode cX9_invariantIsRight 5 = .ok (.aload_n 0, 1) := by decide +kernel
theorem dX9_invariantIsRight_6 : decode cX9_invariantIsRight 6 = .ok (.getfield 53, 3) := by decide +kernel
theorem dX9_invariantIsRight_9 : decode cX9_invariantIsRight 9 = .ok (.if_icmp .ge 50, 3) := by decide +kernel
theorem dX9_invariantIsRight_12 : decode cX9_invariantIsRight 12 = .ok (.aload_n 0, 1) := by decide +kernel
theorem dX9_invariantIsRight_13 : decode cX9_invariantIsRight 13 = .ok (.getfield 25, 3) := by decide +kernel
theorem dX9_invariantIsRight_16 : decode cX9_invariantIsRight 16 = .ok (.iload_n 2, 1) := by decide +kernel
theorem dX9_invariantIsRight_17 : decode cX9_invariantIsRight 17 = .ok (.iaload, 1) := by decide +kernel
theorem dX9_invariantIsRight_18 : decode cX9_invariantIsRight 18 = .ok (.sipush 255, 3) := by decide +kernel
theorem dX9_invariantIsRight_21 : decode cX9_invariantIsRight 21 = .ok (.iand, 1) := by decide +kernel
theorem dX9_invariantIsRight_22 : decode cX9_invariantIsRight 22 = .ok (.istore_n 3, 1) := by decide +kernel
theorem dX9_invariantIsRight_23 : decode cX9_invariantIsRight 23 = .ok (.iload_n 3, 1) := by decide +kernel
theorem dX9_invariantIsRight_24 : decode cX9_invariantIsRight 24 = .ok (.bipush 12, 2) := by decide +kernel
theorem dX9_invariantIsRight_26 : decode cX9_invariantIsRight 26 = .ok (.if_icmp .ne 15, 3) := by decide +kernel
theorem dX9_invariantIsRight_29 : decode cX9_invariantIsRight 29 = .ok (.iload_n 1, 1) := by decide +kernel
theorem dX9_invariantIsRight_30 : decode cX9_invariantIsRight 30 = .ok (.iconst 1, 1) := by decide +kernel
theorem dX9_invariantIsRight_31 : decode cX9_invariantIsRight 31 = .ok (.if_icmp .eq 5, 3) := by decide +kernel
theorem dX9_invariantIsRight_34 : decode cX9_invariantIsRight 34 = .ok (.iconst 0, 1) := by decide +kernel
theorem dX9_invariantIsRight_35 : decode cX9_invariantIsRight 35 = .ok (.ireturn, 1) := by decide +kernel
theorem dX9_invariantIsRight_36 : decode cX9_invariantIsRight 36 = .ok (.iconst 0, 1) := by decide +kernel
theorem dX9_invariantIsRight_37 : decode cX9_invariantIsRight 37 = .ok (.istore_n 1, 1) := by decide +kernel
theorem dX9_invariantIsRight_38 : decode cX9_invariantIsRight 38 = .ok (.goto 15, 3) := by decide +kernel
theorem dX9_invariantIsRight_41 : decode cX9_invariantIsRight 41 = .ok (.iload_n 3, 1) := by decide +kernel
theorem dX9_invariantIsRight_42 : decode cX9_invariantIsRight 42 = .ok (.iload_n 1, 1) := by decide +kernel
theorem dX9_invariantIsRight_43 : decode cX9_invariantIsRight 43 = .ok (.invokestatic 76, 3) := by decide +kernel
theorem dX9_invariantIsRight_46 : decode cX9_invariantIsRight 46 = .ok (.istore_n 1, 1) := by decide +kernel
theorem dX9_invariantIsRight_47 : decode cX9_invariantIsRight 47 = .ok (.iload_n 1, 1) := by decide +kernel
theorem dX9_invariantIsRight_48 : decode cX9_invariantIsRight 48 = .ok (.ifCond .ge 5, 3) := by decide +kernel
theorem dX9_invariantIsRight_51 : decode cX9_invariantIsRight 51 = .ok (.iconst 0, 1) := by decide +kernel
theorem dX9_invariantIsRight_52 : decode cX9_invariantIsRight 52 = .ok (.ireturn, 1) := by decide +kernel
theorem dX9_invariantIsRight_53 : decode cX9_invariantIsRight 53 = .ok (.iinc 2 1, 3) := by decide +kernel
theorem dX9_invariantIsRight_56 : decode cX9_invariantIsRight 56 = .ok (.goto (-52), 3) := by decide +kernel
theorem dX9_invariantIsRight_59 : decode cX9_invariantIsRight 59 = .ok (.iload_n 1, 1) := by decide +kernel
theorem dX9_invariantIsRight_60 : decode cX9_invariantIsRight 60 = .ok (.iconst 1, 1) := by decide +kernel
theorem dX9_invariantIsRight_61 : decode cX9_invariantIsRight 61 = .ok (.if_icmp .ne 7, 3) := by decide +kernel
theorem dX9_invariantIsRight_64 : decode cX9_invariantIsRight 64 = .ok (.iconst 1, 1) := by decide +kernel
theorem dX9_invariantIsRight_65 : decode cX9_invariantIsRight 65 = .ok (.goto 4, 3) := by decide +kernel
theorem dX9_invariantIsRight_68 : decode cX9_invariantIsRight 68 = .ok (.iconst 0, 1) := by decide +kernel
theorem dX9_invariantIsRight_69 : decode cX9_invariantIsRight 69 = .ok (.ireturn, 1) := by decide +kernel
theorem dX9_exchanged_0 : decode cX9_exchanged 0 = .ok (.iload_n 0, 1) := by decide +kernel
theorem dX9_exchanged_1 : decode cX9_exchanged 1 = .ok (.sipush 255, 3) := by decide +kernel
theorem dX9_exchanged_4 : decode cX9_exchanged 4 = .ok (.iand, 1) := by decide +kernel
theorem dX9_exchanged_5 : decode cX9_exchanged 5 = .ok (.istore_n 3, 1) := by decide +kernel
theorem dX9_exchanged_6 : decode cX9_exchanged 6 = .ok (.iload_n 3, 1) := by decide +kernel
theorem dX9_exchanged_7 : decode cX9_exchanged 7 = .ok (.iconst 1, 1) := by decide +kernel
theorem dX9_exchanged_8 : decode cX9_exchanged 8 = .ok (.if_icmp .eq 11, 3) := by decide +kernel
theorem dX9_exchanged_11 : decode cX9_exchanged 11 = .ok (.iload_n 3, 1) := by decide +kernel
theorem dX9_exchanged_12 : decode cX9_exchanged 12 = .ok (.bipush 11, 2) := by decide +kernel
theorem dX9_exchanged_14 : decode cX9_exchanged 14 = .ok (.if_icmp .eq 5, 3) := by decide +kernel
theorem dX9_exchanged_17 : decode cX9_exchanged 17 = .ok (.iload_n 0, 1) := by decide +kernel
theorem dX9_exchanged_18 : decode cX9_exchanged 18 = .ok (.ireturn, 1) := by decide +kernel
theorem dX9_exchanged_19 : decode cX9_exchanged 19 = .ok (.iload_n 0, 1) := by decide +kernel
theorem dX9_exchanged_20 : decode cX9_exchanged 20 = .ok (.bipush 8, 2) := by decide +kernel
theorem dX9_exchanged_22 : decode cX9_exchanged 22 = .ok (.ishr, 1) := by decide +kernel
theorem dX9_exchanged_23 : decode cX9_exchanged 23 = .ok (.istore 4, 2) := by decide +kernel
theorem dX9_exchanged_25 : decode cX9_exchanged 25 = .ok (.iload 4, 2) := by decide +kernel
theorem dX9_exchanged_27 : decode cX9_exchanged 27 = .ok (.iload_n 1, 1) := by decide +kernel
theorem dX9_exchanged_28 : decode cX9_exchanged 28 = .ok (.if_icmp .ne 12, 3) := by decide +kernel
theorem dX9_exchanged_31 : decode cX9_exchanged 31 = .ok (.iload_n 2, 1) := by decide +kernel
theorem dX9_exchanged_32 : decode cX9_exchanged 32 = .ok (.bipush 8, 2) := by decide +kernel
theorem dX9_exchanged_34 : decode cX9_exchanged 34 = .ok (.ishl, 1) := by decide +kernel
theorem dX9_exchanged_35 : decode cX9_exchanged 35 = .ok (.iload_n 3, 1) := by decide +kernel
theorem dX9_exchanged_36 : decode cX9_exchanged 36 = .ok (.ior, 1) := by decide +kernel
theorem dX9_exchanged_37 : decode cX9_exchanged 37 = .ok (.goto 19, 3) := by decide +kernel
theorem dX9_exchanged_40 : decode cX9_exchanged 40 = .ok (.iload 4, 2) := by decide +kernel
theorem dX9_exchanged_42 : decode cX9_exchanged 42 = .ok (.iload_n 2, 1) := by decide +kernel
theorem dX9_exchanged_43 : decode cX9_exchanged 43 = .ok (.if_icmp .ne 12, 3) := by decide +kernel
theorem dX9_exchanged_46 : decode cX9_exchanged 46 = .ok (.iload_n 1, 1) := by decide +kernel
theorem dX9_exchanged_47 : decode cX9_exchanged 47 = .ok (.bipush 8, 2) := by decide +kernel
theorem dX9_exchanged_49 : decode cX9_exchanged 49 = .ok (.ishl, 1) := by decide +kernel
theorem dX9_exchanged_50 : decode cX9_exchanged 50 = .ok (.iload_n 3, 1) := by decide +kernel
theorem dX9_exchanged_51 : decode cX9_exchanged 51 = .ok (.ior, 1) := by decide +kernel
theorem dX9_exchanged_52 : decode cX9_exchanged 52 = .ok (.goto 4, 3) := by decide +kernel
theorem dX9_exchanged_55 : decode cX9_exchanged 55 = .ok (.iload_n 0, 1) := by decide +kernel
theorem dX9_exchanged_56 : decode cX9_exchanged 56 = .ok (.ireturn, 1) := by decide +kernel
theorem dX9_becomesRule_0 : decode cX9_becomesRule 0 = .ok (.aload_n 0, 1) := by decide +kernel
theorem dX9_becomesRule_1 : decode cX9_becomesRule 1 = .ok (.getfield 22, 3) := by decide +kernel
theorem dX9_becomesRule_4 : decode cX9_becomesRule 4 = .ok (.iload_n 1, 1) := by decide +kernel
theorem dX9_becomesRule_5 : decode cX9_becomesRule 5 = .ok (.iaload, 1) := by decide +kernel
theorem dX9_becomesRule_6 : decode cX9_becomesRule 6 = .ok (.aload_n 0, 1) := by decide +kernel
theorem dX9_becomesRule_7 : decode cX9_becomesRule 7 = .ok (.getfield 22, 3) := by decide +kernel
theorem dX9_becomesRule_10 : decode cX9_becomesRule 10 = .ok (.iload_n 2, 1) := by decide +kernel
theorem dX9_becomesRule_11 : decode cX9_becomesRule 11 = .ok (.iaload, 1) := by decide +kernel
theorem dX9_becomesRule_12 : decode cX9_becomesRule 12 = .ok (.if_icmp .eq 5, 3) := by decide +kernel
theorem dX9_becomesRule_15 : decode cX9_becomesRule 15 = .ok (.iconst 0, 1) := by decide +kernel
theorem dX9_becomesRule_16 : decode cX9_becomesRule 16 = .ok (.ireturn, 1) := by decide +kernel
theorem dX9_becomesRule_17 : decode cX9_becomesRule 17 = .ok (.iconst 0, 1) := by decide +kernel
theorem dX9_becomesRule_18 : decode cX9_becomesRule 18 = .ok (.istore 5, 2) := by decide +kernel
theorem dX9_becomesRule_20 : decode cX9_becomesRule 20 = .ok (.iload 5, 2) := by decide +kernel
theorem dX9_becomesRule_22 : decode cX9_becomesRule 22 = .ok (.aload_n 0, 1) := by decide +kernel
theorem dX9_becomesRule_23 : decode cX9_becomesRule 23 = .ok (.getfield 22, 3) := by decide +kernel
theorem dX9_becomesRule_26 : decode cX9_becomesRule 26 = .ok (.iload_n 1, 1) := by decide +kernel
theorem dX9_becomesRule_27 : decode cX9_becomesRule 27 = .ok (.iaload, 1) := by decide +kernel
theorem dX9_becomesRule_28 : decode cX9_becomesRule 28 = .ok (.if_icmp .ge 44, 3) := by decide +kernel
theorem dX9_becomesRule_31 : decode cX9_becomesRule 31 = .ok (.aload_n 0, 1) := by decide +kernel
theorem dX9_becomesRule_32 : decode cX9_becomesRule 32 = .ok (.getfield 19, 3) := by decide +kernel
theorem dX9_becomesRule_35 : decode cX9_becomesRule 35 = .ok (.bipush 32, 2) := by decide +kernel
theorem dX9_becomesRule_37 : decode cX9_becomesRule 37 = .ok (.iload_n 1, 1) := by decide +kernel
theorem dX9_becomesRule_38 : decode cX9_becomesRule 38 = .ok (.imul, 1) := by decide +kernel
theorem dX9_becomesRule_39 : decode cX9_becomesRule 39 = .ok (.iload 5, 2) := by decide +kernel
theorem dX9_becomesRule_41 : decode cX9_becomesRule 41 = .ok (.iadd, 1) := by decide +kernel
theorem dX9_becomesRule_42 : decode cX9_becomesRule 42 = .ok (.iaload, 1) := by decide +kernel
theorem dX9_becomesRule_43 : decode cX9_becomesRule 43 = .ok (.iload_n 3, 1) := by decide +kernel
theorem dX9_becomesRule_44 : decode cX9_becomesRule 44 = .ok (.iload 4, 2) := by decide +kernel
theorem dX9_becomesRule_46 : decode cX9_becomesRule 46 = .ok (.invokestatic 80, 3) := by decide +kernel
theorem dX9_becomesRule_49 : decode cX9_becomesRule 49 = .ok (.aload_n 0, 1) := by decide +kernel
theorem dX9_becomesRule_50 : decode cX9_becomesRule 50 = .ok (.getfield 19, 3) := by decide +kernel
theorem dX9_becomesRule_53 : decode cX9_becomesRule 53 = .ok (.bipush 32, 2) := by decide +kernel
theorem dX9_becomesRule_55 : decode cX9_becomesRule 55 = .ok (.iload_n 2, 1) := by decide +kernel
theorem dX9_becomesRule_56 : decode cX9_becomesRule 56 = .ok (.imul, 1) := by decide +kernel
theorem dX9_becomesRule_57 : decode cX9_becomesRule 57 = .ok (.iload 5, 2) := by decide +kernel
theorem dX9_becomesRule_59 : decode cX9_becomesRule 59 = .ok (.iadd, 1) := by decide +kernel
theorem dX9_becomesRule_60 : decode cX9_becomesRule 60 = .ok (.iaload, 1) := by decide +kernel
theorem dX9_becomesRule_61 : decode cX9_becomesRule 61 = .ok (.if_icmp .eq 5, 3) := by decide +kernel
theorem dX9_becomesRule_64 : decode cX9_becomesRule 64 = .ok (.iconst 0, 1) := by decide +kernel
theorem dX9_becomesRule_65 : decode cX9_becomesRule 65 = .ok (.ireturn, 1) := by decide +kernel
theorem dX9_becomesRule_66 : decode cX9_becomesRule 66 = .ok (.iinc 5 1, 3) := by decide +kernel
theorem dX9_becomesRule_69 : decode cX9_becomesRule 69 = .ok (.goto (-49), 3) := by decide +kernel
theorem dX9_becomesRule_72 : decode cX9_becomesRule 72 = .ok (.iconst 1, 1) := by decide +kernel
theorem dX9_becomesRule_73 : decode cX9_becomesRule 73 = .ok (.ireturn, 1) := by decide +kernel
theorem dX9_isRuleAgain_0 : decode cX9_isRuleAgain 0 = .ok (.iconst 0, 1) := by decide +kernel
theorem dX9_isRuleAgain_1 : decode cX9_isRuleAgain 1 = .ok (.istore 4, 2) := by decide +kernel
theorem dX9_isRuleAgain_3 : decode cX9_isRuleAgain 3 = .ok (.iload 4, 2) := by decide +kernel
theorem dX9_isRuleAgain_5 : decode cX9_isRuleAgain 5 = .ok (.aload_n 0, 1) := by decide +kernel
theorem dX9_isRuleAgain_6 : decode cX9_isRuleAgain 6 = .ok (.getfield 50, 3) := by decide +kernel
theorem dX9_isRuleAgain_9 : decode cX9_isRuleAgain 9 = .ok (.if_icmp .ge 23, 3) := by decide +kernel
theorem dX9_isRuleAgain_12 : decode cX9_isRuleAgain 12 = .ok (.aload_n 0, 1) := by decide +kernel
theorem dX9_isRuleAgain_13 : decode cX9_isRuleAgain 13 = .ok (.iload_n 1, 1) := by decide +kernel
theorem dX9_isRuleAgain_14 : decode cX9_isRuleAgain 14 = .ok (.iload 4, 2) := by decide +kernel
theorem dX9_isRuleAgain_16 : decode cX9_isRuleAgain 16 = .ok (.iload_n 2, 1) := by decide +kernel
theorem dX9_isRuleAgain_17 : decode cX9_isRuleAgain 17 = .ok (.iload_n 3, 1) := by decide +kernel
theorem dX9_isRuleAgain_18 : decode cX9_isRuleAgain 18 = .ok (.invokevirtual 84, 3) := by decide +kernel
theorem dX9_isRuleAgain_21 : decode cX9_isRuleAgain 21 = .ok (.ifCond .eq 5, 3) := by decide +kernel
theorem dX9_isRuleAgain_24 : decode cX9_isRuleAgain 24 = .ok (.iconst 1, 1) := by decide +kernel
theorem dX9_isRuleAgain_25 : decode cX9_isRuleAgain 25 = .ok (.ireturn, 1) := by decide +kernel
theorem dX9_isRuleAgain_26 : decode cX9_isRuleAgain 26 = .ok (.iinc 4 1, 3) := by decide +kernel
theorem dX9_isRuleAgain_29 : decode cX9_isRuleAgain 29 = .ok (.goto (-26), 3) := by decide +kernel
theorem dX9_isRuleAgain_32 : decode cX9_isRuleAgain 32 = .ok (.iconst 0, 1) := by decide +kernel
theorem dX9_isRuleAgain_33 : decode cX9_isRuleAgain 33 = .ok (.ireturn, 1) := by decide +kernel
theorem dX9_end_0 : decode cX9_end 0 = .ok (.iload_n 1, 1) := by decide +kernel
theorem dX9_end_1 : decode cX9_end 1 = .ok (.istore_n 2, 1) := by decide +kernel
theorem dX9_end_2 : decode cX9_end 2 = .ok (.iload_n 2, 1) := by decide +kernel
theorem dX9_end_3 : decode cX9_end 3 = .ok (.aload_n 0, 1) := by decide +kernel
theorem dX9_end_4 : decode cX9_end 4 = .ok (.getfield 53, 3) := by decide +kernel
theorem dX9_end_7 : decode cX9_end 7 = .ok (.if_icmp .ge 26, 3) := by decide +kernel
theorem dX9_end_10 : decode cX9_end 10 = .ok (.aload_n 0, 1) := by decide +kernel
theorem dX9_end_11 : decode cX9_end 11 = .ok (.getfield 25, 3) := by decide +kernel
theorem dX9_end_14 : decode cX9_end 14 = .ok (.iload_n 2, 1) := by decide +kernel
theorem dX9_end_15 : decode cX9_end 15 = .ok (.iaload, 1) := by decide +kernel
theorem dX9_end_16 : decode cX9_end 16 = .ok (.sipush 255, 3) := by decide +kernel
theorem dX9_end_19 : decode cX9_end 19 = .ok (.iand, 1) := by decide +kernel
theorem dX9_end_20 : decode cX9_end 20 = .ok (.bipush 12, 2) := by decide +kernel
theorem dX9_end_22 : decode cX9_end 22 = .ok (.if_icmp .ne 5, 3) := by decide +kernel
theorem dX9_end_25 : decode cX9_end 25 = .ok (.iload_n 2, 1) := by decide +kernel
theorem dX9_end_26 : decode cX9_end 26 = .ok (.ireturn, 1) := by decide +kernel
theorem dX9_end_27 : decode cX9_end 27 = .ok (.iinc 2 1, 3) := by decide +kernel
theorem dX9_end_30 : decode cX9_end 30 = .ok (.goto (-28), 3) := by decide +kernel
theorem dX9_end_33 : decode cX9_end 33 = .ok (.aload_n 0, 1) := by decide +kernel
theorem dX9_end_34 : decode cX9_end 34 = .ok (.getfield 53, 3) := by decide +kernel
theorem dX9_end_37 : decode cX9_end 37 = .ok (.ireturn, 1) := by decide +kernel
theorem dX9_begins_0 : decode cX9_begins 0 = .ok (.iload_n 1, 1) := by decide +kernel
theorem dX9_begins_1 : decode cX9_begins 1 = .ok (.ifCond .eq 20, 3) := by decide +kernel
theorem dX9_begins_4 : decode cX9_begins 4 = .ok (.aload_n 0, 1) := by decide +kernel
theorem dX9_begins_5 : decode cX9_begins 5 = .ok (.getfield 25, 3) := by decide +kernel
theorem dX9_begins_8 : decode cX9_begins 8 = .ok (.iload_n 1, 1) := by decide +kernel
theorem dX9_begins_9 : decode cX9_begins 9 = .ok (.iconst 1, 1) := by decide +kernel
theorem dX9_begins_10 : decode cX9_begins 10 = .ok (.isub, 1) := by decide +kernel
theorem dX9_begins_11 : decode cX9_begins 11 = .ok (.iaload, 1) := by decide +kernel
theorem dX9_begins_12 : decode cX9_begins 12 = .ok (.sipush 255, 3) := by decide +kernel
theorem dX9_begins_15 : decode cX9_begins 15 = .ok (.iand, 1) := by decide +kernel
theorem dX9_begins_16 : decode cX9_begins 16 = .ok (.bipush 12, 2) := by decide +kernel
theorem dX9_begins_18 : decode cX9_begins 18 = .ok (.if_icmp .ne 7, 3) := by decide +kernel
theorem dX9_begins_21 : decode cX9_begins 21 = .ok (.iconst 1, 1) := by decide +kernel
theorem dX9_begins_22 : decode cX9_begins 22 = .ok (.goto 4, 3) := by decide +kernel
theorem dX9_begins_25 : decode cX9_begins 25 = .ok (.iconst 0, 1) := by decide +kernel
theorem dX9_begins_26 : decode cX9_begins 26 = .ok (.ireturn, 1) := by decide +kernel
theorem dX9_becomesPart_0 : decode cX9_becomesPart 0 = .ok (.aload_n 0, 1) := by decide +kernel
theorem dX9_becomesPart_1 : decode cX9_becomesPart 1 = .ok (.iload_n 1, 1) := by decide +kernel
theorem dX9_becomesPart_2 : decode cX9_becomesPart 2 = .ok (.invokevirtual 88, 3) := by decide +kernel
theorem dX9_becomesPart_5 : decode cX9_becomesPart 5 = .ok (.iload_n 1, 1) := by decide +kernel
theorem dX9_becomesPart_6 : decode cX9_becomesPart 6 = .ok (.isub, 1) := by decide +kernel
theorem dX9_becomesPart_7 : decode cX9_becomesPart 7 = .ok (.istore 5, 2) := by decide +kernel
theorem dX9_becomesPart_9 : decode cX9_becomesPart 9 = .ok (.aload_n 0, 1) := by decide +kernel
theorem dX9_becomesPart_10 : decode cX9_becomesPart 10 = .ok (.iload_n 2, 1) := by decide +kernel
theorem dX9_becomesPart_11 : decode cX9_becomesPart 11 = .ok (.invokevirtual 88, 3) := by decide +kernel
theorem dX9_becomesPart_14 : decode cX9_becomesPart 14 = .ok (.iload_n 2, 1) := by decide +kernel
theorem dX9_becomesPart_15 : decode cX9_becomesPart 15 = .ok (.isub, 1) := by decide +kernel
theorem dX9_becomesPart_16 : decode cX9_becomesPart 16 = .ok (.iload 5, 2) := by decide +kernel
theorem dX9_becomesPart_18 : decode cX9_becomesPart 18 = .ok (.if_icmp .eq 5, 3) := by decide +kernel
theorem dX9_becomesPart_21 : decode cX9_becomesPart 21 = .ok (.iconst 0, 1) := by decide +kernel
theorem dX9_becomesPart_22 : decode cX9_becomesPart 22 = .ok (.ireturn, 1) := by decide +kernel
theorem dX9_becomesPart_23 : decode cX9_becomesPart 23 = .ok (.iconst 0, 1) := by decide +kernel
theorem dX9_becomesPart_24 : decode cX9_becomesPart 24 = .ok (.istore 6, 2) := by decide +kernel
theorem dX9_becomesPart_26 : decode cX9_becomesPart 26 = .ok (.iload 6, 2) := by decide +kernel
theorem dX9_becomesPart_28 : decode cX9_becomesPart 28 = .ok (.iload 5, 2) := by decide +kernel
theorem dX9_becomesPart_30 : decode cX9_becomesPart 30 = .ok (.if_icmp .ge 38, 3) := by decide +kernel
theorem dX9_becomesPart_33 : decode cX9_becomesPart 33 = .ok (.aload_n 0, 1) := by decide +kernel
theorem dX9_becomesPart_34 : decode cX9_becomesPart 34 = .ok (.getfield 25, 3) := by decide +kernel
theorem dX9_becomesPart_37 : decode cX9_becomesPart 37 = .ok (.iload_n 1, 1) := by decide +kernel
theorem dX9_becomesPart_38 : decode cX9_becomesPart 38 = .ok (.iload 6, 2) := by decide +kernel
theorem dX9_becomesPart_40 : decode cX9_becomesPart 40 = .ok (.iadd, 1) := by decide +kernel
theorem dX9_becomesPart_41 : decode cX9_becomesPart 41 = .ok (.iaload, 1) := by decide +kernel
theorem dX9_becomesPart_42 : decode cX9_becomesPart 42 = .ok (.iload_n 3, 1) := by decide +kernel
theorem dX9_becomesPart_43 : decode cX9_becomesPart 43 = .ok (.iload 4, 2) := by decide +kernel
theorem dX9_becomesPart_45 : decode cX9_becomesPart 45 = .ok (.invokestatic 80, 3) := by decide +kernel
theorem dX9_becomesPart_48 : decode cX9_becomesPart 48 = .ok (.aload_n 0, 1) := by decide +kernel
theorem dX9_becomesPart_49 : decode cX9_becomesPart 49 = .ok (.getfield 25, 3) := by decide +kernel
theorem dX9_becomesPart_52 : decode cX9_becomesPart 52 = .ok (.iload_n 2, 1) := by decide +kernel
theorem dX9_becomesPart_53 : decode cX9_becomesPart 53 = .ok (.iload 6, 2) := by decide +kernel
theorem dX9_becomesPart_55 : decode cX9_becomesPart 55 = .ok (.iadd, 1) := by decide +kernel
theorem dX9_becomesPart_56 : decode cX9_becomesPart 56 = .ok (.iaload, 1) := by decide +kernel
theorem dX9_becomesPart_57 : decode cX9_becomesPart 57 = .ok (.if_icmp .eq 5, 3) := by decide +kernel
theorem dX9_becomesPart_60 : decode cX9_becomesPart 60 = .ok (.iconst 0, 1) := by decide +kernel
theorem dX9_becomesPart_61 : decode cX9_becomesPart 61 = .ok (.ireturn, 1) := by decide +kernel
theorem dX9_becomesPart_62 : decode cX9_becomesPart 62 = .ok (.iinc 6 1, 3) := by decide +kernel
theorem dX9_becomesPart_65 : decode cX9_becomesPart 65 = .ok (.goto (-39), 3) := by decide +kernel
theorem dX9_becomesPart_68 : decode cX9_becomesPart 68 = .ok (.iconst 1, 1) := by decide +kernel
theorem dX9_becomesPart_69 : decode cX9_becomesPart 69 = .ok (.ireturn, 1) := by decide +kernel
theorem dX9_isPartAgain_0 : decode cX9_isPartAgain 0 = .ok (.iconst 0, 1) := by decide +kernel
theorem dX9_isPartAgain_1 : decode cX9_isPartAgain 1 = .ok (.istore 4, 2) := by decide +kernel
theorem dX9_isPartAgain_3 : decode cX9_isPartAgain 3 = .ok (.iload 4, 2) := by decide +kernel
theorem dX9_isPartAgain_5 : decode cX9_isPartAgain 5 = .ok (.aload_n 0, 1) := by decide +kernel
theorem dX9_isPartAgain_6 : decode cX9_isPartAgain 6 = .ok (.getfield 53, 3) := by decide +kernel
theorem dX9_isPartAgain_9 : decode cX9_isPartAgain 9 = .ok (.if_icmp .ge 32, 3) := by decide +kernel
theorem dX9_isPartAgain_12 : decode cX9_isPartAgain 12 = .ok (.aload_n 0, 1) := by decide +kernel
theorem dX9_isPartAgain_13 : decode cX9_isPartAgain 13 = .ok (.iload 4, 2) := by decide +kernel
theorem dX9_isPartAgain_15 : decode cX9_isPartAgain 15 = .ok (.invokevirtual 92, 3) := by decide +kernel
theorem dX9_isPartAgain_18 : decode cX9_isPartAgain 18 = .ok (.ifCond .eq 17, 3) := by decide +kernel
theorem dX9_isPartAgain_21 : decode cX9_isPartAgain 21 = .ok (.aload_n 0, 1) := by decide +kernel
theorem dX9_isPartAgain_22 : decode cX9_isPartAgain 22 = .ok (.iload_n 1, 1) := by decide +kernel
theorem dX9_isPartAgain_23 : decode cX9_isPartAgain 23 = .ok (.iload 4, 2) := by decide +kernel
theorem dX9_isPartAgain_25 : decode cX9_isPartAgain 25 = .ok (.iload_n 2, 1) := by decide +kernel
theorem dX9_isPartAgain_26 : decode cX9_isPartAgain 26 = .ok (.iload_n 3, 1) := by decide +kernel
theorem dX9_isPartAgain_27 : decode cX9_isPartAgain 27 = .ok (.invokevirtual 95, 3) := by decide +kernel
theorem dX9_isPartAgain_30 : decode cX9_isPartAgain 30 = .ok (.ifCond .eq 5, 3) := by decide +kernel
theorem dX9_isPartAgain_33 : decode cX9_isPartAgain 33 = .ok (.iconst 1, 1) := by decide +kernel
theorem dX9_isPartAgain_34 : decode cX9_isPartAgain 34 = .ok (.ireturn, 1) := by decide +kernel
theorem dX9_isPartAgain_35 : decode cX9_isPartAgain 35 = .ok (.iinc 4 1, 3) := by decide +kernel
theorem dX9_isPartAgain_38 : decode cX9_isPartAgain 38 = .ok (.goto (-35), 3) := by decide +kernel
theorem dX9_isPartAgain_41 : decode cX9_isPartAgain 41 = .ok (.iconst 0, 1) := by decide +kernel
theorem dX9_isPartAgain_42 : decode cX9_isPartAgain 42 = .ok (.ireturn, 1) := by decide +kernel
theorem dX9_mayExchange_0 : decode cX9_mayExchange 0 = .ok (.iconst 0, 1) := by decide +kernel
theorem dX9_mayExchange_1 : decode cX9_mayExchange 1 = .ok (.istore_n 3, 1) := by decide +kernel
theorem dX9_mayExchange_2 : decode cX9_mayExchange 2 = .ok (.iload_n 3, 1) := by decide +kernel
theorem dX9_mayExchange_3 : decode cX9_mayExchange 3 = .ok (.aload_n 0, 1) := by decide +kernel
theorem dX9_mayExchange_4 : decode cX9_mayExchange 4 = .ok (.getfield 50, 3) := by decide +kernel
theorem dX9_mayExchange_7 : decode cX9_mayExchange 7 = .ok (.if_icmp .ge 21, 3) := by decide +kernel
theorem dX9_mayExchange_10 : decode cX9_mayExchange 10 = .ok (.aload_n 0, 1) := by decide +kernel
theorem dX9_mayExchange_11 : decode cX9_mayExchange 11 = .ok (.iload_n 3, 1) := by decide +kernel
theorem dX9_mayExchange_12 : decode cX9_mayExchange 12 = .ok (.iload_n 1, 1) := by decide +kernel
theorem dX9_mayExchange_13 : decode cX9_mayExchange 13 = .ok (.iload_n 2, 1) := by decide +kernel
theorem dX9_mayExchange_14 : decode cX9_mayExchange 14 = .ok (.invokevirtual 98, 3) := by decide +kernel
theorem dX9_mayExchange_17 : decode cX9_mayExchange 17 = .ok (.ifCond .ne 5, 3) := by decide +kernel
theorem dX9_mayExchange_20 : decode cX9_mayExchange 20 = .ok (.iconst 0, 1) := by decide +kernel
theorem dX9_mayExchange_21 : decode cX9_mayExchange 21 = .ok (.ireturn, 1) := by decide +kernel
theorem dX9_mayExchange_22 : decode cX9_mayExchange 22 = .ok (.iinc 3 1, 3) := by decide +kernel
theorem dX9_mayExchange_25 : decode cX9_mayExchange 25 = .ok (.goto (-23), 3) := by decide +kernel
theorem dX9_mayExchange_28 : decode cX9_mayExchange 28 = .ok (.iconst 0, 1) := by decide +kernel
theorem dX9_mayExchange_29 : decode cX9_mayExchange 29 = .ok (.istore_n 3, 1) := by decide +kernel
theorem dX9_mayExchange_30 : decode cX9_mayExchange 30 = .ok (.iload_n 3, 1) := by decide +kernel
theorem dX9_mayExchange_31 : decode cX9_mayExchange 31 = .ok (.aload_n 0, 1) := by decide +kernel
theorem dX9_mayExchange_32 : decode cX9_mayExchange 32 = .ok (.getfield 53, 3) := by decide +kernel
theorem dX9_mayExchange_35 : decode cX9_mayExchange 35 = .ok (.if_icmp .ge 29, 3) := by decide +kernel
theorem dX9_mayExchange_38 : decode cX9_mayExchange 38 = .ok (.aload_n 0, 1) := by decide +kernel
theorem dX9_mayExchange_39 : decode cX9_mayExchange 39 = .ok (.iload_n 3, 1) := by decide +kernel
theorem dX9_mayExchange_40 : decode cX9_mayExchange 40 = .ok (.invokevirtual 92, 3) := by decide +kernel
theorem dX9_mayExchange_43 : decode cX9_mayExchange 43 = .ok (.ifCond .eq 15, 3) := by decide +kernel
theorem dX9_mayExchange_46 : decode cX9_mayExchange 46 = .ok (.aload_n 0, 1) := by decide +kernel
theorem dX9_mayExchange_47 : decode cX9_mayExchange 47 = .ok (.iload_n 3, 1) := by decide +kernel
theorem dX9_mayExchange_48 : decode cX9_mayExchange 48 = .ok (.iload_n 1, 1) := by decide +kernel
theorem dX9_mayExchange_49 : decode cX9_mayExchange 49 = .ok (.iload_n 2, 1) := by decide +kernel
theorem dX9_mayExchange_50 : decode cX9_mayExchange 50 = .ok (.invokevirtual 102, 3) := by decide +kernel
theorem dX9_mayExchange_53 : decode cX9_mayExchange 53 = .ok (.ifCond .ne 5, 3) := by decide +kernel
theorem dX9_mayExchange_56 : decode cX9_mayExchange 56 = .ok (.iconst 0, 1) := by decide +kernel
theorem dX9_mayExchange_57 : decode cX9_mayExchange 57 = .ok (.ireturn, 1) := by decide +kernel
theorem dX9_mayExchange_58 : decode cX9_mayExchange 58 = .ok (.iinc 3 1, 3) := by decide +kernel
theorem dX9_mayExchange_61 : decode cX9_mayExchange 61 = .ok (.goto (-31), 3) := by decide +kernel
theorem dX9_mayExchange_64 : decode cX9_mayExchange 64 = .ok (.iconst 1, 1) := by decide +kernel
theorem dX9_mayExchange_65 : decode cX9_mayExchange 65 = .ok (.ireturn, 1) := by decide +kernel
theorem dX9_blocksAreRight_0 : decode cX9_blocksAreRight 0 = .ok (.iconst 0, 1) := by decide +kernel
theorem dX9_blocksAreRight_1 : decode cX9_blocksAreRight 1 = .ok (.istore_n 1, 1) := by decide +kernel
theorem dX9_blocksAreRight_2 : decode cX9_blocksAreRight 2 = .ok (.iload_n 1, 1) := by decide +kernel
theorem dX9_blocksAreRight_3 : decode cX9_blocksAreRight 3 = .ok (.bipush 6, 2) := by decide +kernel
theorem dX9_blocksAreRight_5 : decode cX9_blocksAreRight 5 = .ok (.if_icmp .ge 60, 3) := by decide +kernel
theorem dX9_blocksAreRight_8 : decode cX9_blocksAreRight 8 = .ok (.iload_n 1, 1) := by decide +kernel
theorem dX9_blocksAreRight_9 : decode cX9_blocksAreRight 9 = .ok (.iconst 1, 1) := by decide +kernel
theorem dX9_blocksAreRight_10 : decode cX9_blocksAreRight 10 = .ok (.iadd, 1) := by decide +kernel
theorem dX9_blocksAreRight_11 : decode cX9_blocksAreRight 11 = .ok (.istore_n 2, 1) := by decide +kernel
theorem dX9_blocksAreRight_12 : decode cX9_blocksAreRight 12 = .ok (.iload_n 2, 1) := by decide +kernel
theorem dX9_blocksAreRight_13 : decode cX9_blocksAreRight 13 = .ok (.bipush 6, 2) := by decide +kernel
theorem dX9_blocksAreRight_15 : decode cX9_blocksAreRight 15 = .ok (.if_icmp .ge 44, 3) := by decide +kernel
theorem dX9_blocksAreRight_18 : decode cX9_blocksAreRight 18 = .ok (.aload_n 0, 1) := by decide +kernel
theorem dX9_blocksAreRight_19 : decode cX9_blocksAreRight 19 = .ok (.getfield 13, 3) := by decide +kernel
theorem dX9_blocksAreRight_22 : decode cX9_blocksAreRight 22 = .ok (.iload_n 1, 1) := by decide +kernel
theorem dX9_blocksAreRight_23 : decode cX9_blocksAreRight 23 = .ok (.iaload, 1) := by decide +kernel
theorem dX9_blocksAreRight_24 : decode cX9_blocksAreRight 24 = .ok (.ifCond .eq 29, 3) := by decide +kernel
theorem dX9_blocksAreRight_27 : decode cX9_blocksAreRight 27 = .ok (.aload_n 0, 1) := by decide +kernel
theorem dX9_blocksAreRight_28 : decode cX9_blocksAreRight 28 = .ok (.getfield 13, 3) := by decide +kernel
theorem dX9_blocksAreRight_31 : decode cX9_blocksAreRight 31 = .ok (.iload_n 1, 1) := by decide +kernel
theorem dX9_blocksAreRight_32 : decode cX9_blocksAreRight 32 = .ok (.iaload, 1) := by decide +kernel
theorem dX9_blocksAreRight_33 : decode cX9_blocksAreRight 33 = .ok (.aload_n 0, 1) := by decide +kernel
theorem dX9_blocksAreRight_34 : decode cX9_blocksAreRight 34 = .ok (.getfield 13, 3) := by decide +kernel
theorem dX9_blocksAreRight_37 : decode cX9_blocksAreRight 37 = .ok (.iload_n 2, 1) := by decide +kernel
theorem dX9_blocksAreRight_38 : decode cX9_blocksAreRight 38 = .ok (.iaload, 1) := by decide +kernel
theorem dX9_blocksAreRight_39 : decode cX9_blocksAreRight 39 = .ok (.if_icmp .ne 14, 3) := by decide +kernel
theorem dX9_blocksAreRight_42 : decode cX9_blocksAreRight 42 = .ok (.aload_n 0, 1) := by decide +kernel
theorem dX9_blocksAreRight_43 : decode cX9_blocksAreRight 43 = .ok (.iload_n 1, 1) := by decide +kernel
theorem dX9_blocksAreRight_44 : decode cX9_blocksAreRight 44 = .ok (.iload_n 2, 1) := by decide +kernel
theorem dX9_blocksAreRight_45 : decode cX9_blocksAreRight 45 = .ok (.invokevirtual 105, 3) := by decide +kernel
theorem dX9_blocksAreRight_48 : decode cX9_blocksAreRight 48 = .ok (.ifCond .ne 5, 3) := by decide +kernel
theorem dX9_blocksAreRight_51 : decode cX9_blocksAreRight 51 = .ok (.iconst 0, 1) := by decide +kernel
theorem dX9_blocksAreRight_52 : decode cX9_blocksAreRight 52 = .ok (.ireturn, 1) := by decide +kernel
theorem dX9_blocksAreRight_53 : decode cX9_blocksAreRight 53 = .ok (.iinc 2 1, 3) := by decide +kernel
theorem dX9_blocksAreRight_56 : decode cX9_blocksAreRight 56 = .ok (.goto (-44), 3) := by decide +kernel
theorem dX9_blocksAreRight_59 : decode cX9_blocksAreRight 59 = .ok (.iinc 1 1, 3) := by decide +kernel
theorem dX9_blocksAreRight_62 : decode cX9_blocksAreRight 62 = .ok (.goto (-60), 3) := by decide +kernel
theorem dX9_blocksAreRight_65 : decode cX9_blocksAreRight 65 = .ok (.iconst 1, 1) := by decide +kernel
theorem dX9_blocksAreRight_66 : decode cX9_blocksAreRight 66 = .ok (.ireturn, 1) := by decide +kernel
theorem dX9_two_0 : decode cX9_two 0 = .ok (.iload_n 0, 1) := by decide +kernel
theorem dX9_two_1 : decode cX9_two 1 = .ok (.tableswitch 77 2 7 #[39, 43, 47, 51, 62, 73], 39) := by decide +kernel
theorem dX9_two_40 : decode cX9_two 40 = .ok (.iload_n 1, 1) := by decide +kernel
theorem dX9_two_41 : decode cX9_two 41 = .ok (.iload_n 2, 1) := by decide +kernel
theorem dX9_two_42 : decode cX9_two 42 = .ok (.iadd, 1) := by decide +kernel
theorem dX9_two_43 : decode cX9_two 43 = .ok (.ireturn, 1) := by decide +kernel
theorem dX9_two_44 : decode cX9_two 44 = .ok (.iload_n 1, 1) := by decide +kernel
theorem dX9_two_45 : decode cX9_two 45 = .ok (.iload_n 2, 1) := by decide +kernel
theorem dX9_two_46 : decode cX9_two 46 = .ok (.isub, 1) := by decide +kernel
theorem dX9_two_47 : decode cX9_two 47 = .ok (.ireturn, 1) := by decide +kernel
theorem dX9_two_48 : decode cX9_two 48 = .ok (.iload_n 1, 1) := by decide +kernel
theorem dX9_two_49 : decode cX9_two 49 = .ok (.iload_n 2, 1) := by decide +kernel
theorem dX9_two_50 : decode cX9_two 50 = .ok (.imul, 1) := by decide +kernel
theorem dX9_two_51 : decode cX9_two 51 = .ok (.ireturn, 1) := by decide +kernel
theorem dX9_two_52 : decode cX9_two 52 = .ok (.iload_n 1, 1) := by decide +kernel
theorem dX9_two_53 : decode cX9_two 53 = .ok (.iload_n 2, 1) := by decide +kernel
theorem dX9_two_54 : decode cX9_two 54 = .ok (.if_icmp .ne 7, 3) := by decide +kernel
theorem dX9_two_57 : decode cX9_two 57 = .ok (.iconst 1, 1) := by decide +kernel
theorem dX9_two_58 : decode cX9_two 58 = .ok (.goto 4, 3) := by decide +kernel
theorem dX9_two_61 : decode cX9_two 61 = .ok (.iconst 0, 1) := by decide +kernel
theorem dX9_two_62 : decode cX9_two 62 = .ok (.ireturn, 1) := by decide +kernel
theorem dX9_two_63 : decode cX9_two 63 = .ok (.iload_n 1, 1) := by decide +kernel
theorem dX9_two_64 : decode cX9_two 64 = .ok (.iload_n 2, 1) := by decide +kernel
theorem dX9_two_65 : decode cX9_two 65 = .ok (.if_icmp .ge 7, 3) := by decide +kernel
theorem dX9_two_68 : decode cX9_two 68 = .ok (.iconst 1, 1) := by decide +kernel
theorem dX9_two_69 : decode cX9_two 69 = .ok (.goto 4, 3) := by decide +kernel
theorem dX9_two_72 : decode cX9_two 72 = .ok (.iconst 0, 1) := by decide +kernel
theorem dX9_two_73 : decode cX9_two 73 = .ok (.ireturn, 1) := by decide +kernel
theorem dX9_two_74 : decode cX9_two 74 = .ok (.iload_n 1, 1) := by decide +kernel
theorem dX9_two_75 : decode cX9_two 75 = .ok (.iload_n 2, 1) := by decide +kernel
theorem dX9_two_76 : decode cX9_two 76 = .ok (.iand, 1) := by decide +kernel
theorem dX9_two_77 : decode cX9_two 77 = .ok (.ireturn, 1) := by decide +kernel
theorem dX9_two_78 : decode cX9_two 78 = .ok (.iload_n 1, 1) := by decide +kernel
theorem dX9_two_79 : decode cX9_two 79 = .ok (.iload_n 2, 1) := by decide +kernel
theorem dX9_two_80 : decode cX9_two 80 = .ok (.ior, 1) := by decide +kernel
theorem dX9_two_81 : decode cX9_two 81 = .ok (.ireturn, 1) := by decide +kernel
theorem dX9_done_0 : decode cX9_done 0 = .ok (.iload_n 1, 1) := by decide +kernel
theorem dX9_done_1 : decode cX9_done 1 = .ok (.sipush 255, 3) := by decide +kernel
theorem dX9_done_4 : decode cX9_done 4 = .ok (.iand, 1) := by decide +kernel
theorem dX9_done_5 : decode cX9_done 5 = .ok (.istore_n 3, 1) := by decide +kernel
theorem dX9_done_6 : decode cX9_done 6 = .ok (.iload_n 3, 1) := by decide +kernel
theorem dX9_done_7 : decode cX9_done 7 = .ok (.ifCond .eq 8, 3) := by decide +kernel
theorem dX9_done_10 : decode cX9_done 10 = .ok (.iload_n 3, 1) := by decide +kernel
theorem dX9_done_11 : decode cX9_done 11 = .ok (.iconst 1, 1) := by decide +kernel
theorem dX9_done_12 : decode cX9_done 12 = .ok (.if_icmp .ne 33, 3) := by decide +kernel
theorem dX9_done_15 : decode cX9_done 15 = .ok (.aload_n 0, 1) := by decide +kernel
theorem dX9_done_16 : decode cX9_done 16 = .ok (.getfield 43, 3) := by decide +kernel
theorem dX9_done_19 : decode cX9_done 19 = .ok (.iload_n 2, 1) := by decide +kernel
theorem dX9_done_20 : decode cX9_done 20 = .ok (.iload_n 3, 1) := by decide +kernel
theorem dX9_done_21 : decode cX9_done 21 = .ok (.ifCond .ne 10, 3) := by decide +kernel
theorem dX9_done_24 : decode cX9_done 24 = .ok (.iload_n 1, 1) := by decide +kernel
theorem dX9_done_25 : decode cX9_done 25 = .ok (.bipush 8, 2) := by decide +kernel
theorem dX9_done_27 : decode cX9_done 27 = .ok (.ishr, 1) := by decide +kernel
theorem dX9_done_28 : decode cX9_done 28 = .ok (.goto 12, 3) := by decide +kernel
theorem dX9_done_31 : decode cX9_done 31 = .ok (.aload_n 0, 1) := by decide +kernel
theorem dX9_done_32 : decode cX9_done 32 = .ok (.getfield 34, 3) := by decide +kernel
theorem dX9_done_35 : decode cX9_done 35 = .ok (.iload_n 1, 1) := by decide +kernel
theorem dX9_done_36 : decode cX9_done 36 = .ok (.bipush 8, 2) := by decide +kernel
theorem dX9_done_38 : decode cX9_done 38 = .ok (.ishr, 1) := by decide +kernel
theorem dX9_done_39 : decode cX9_done 39 = .ok (.iaload, 1) := by decide +kernel
theorem dX9_done_40 : decode cX9_done 40 = .ok (.iastore, 1) := by decide +kernel
theorem dX9_done_41 : decode cX9_done 41 = .ok (.iload_n 2, 1) := by decide +kernel
theorem dX9_done_42 : decode cX9_done 42 = .ok (.iconst 1, 1) := by decide +kernel
theorem dX9_done_43 : decode cX9_done 43 = .ok (.iadd, 1) := by decide +kernel
theorem dX9_done_44 : decode cX9_done 44 = .ok (.ireturn, 1) := by decide +kernel
theorem dX9_done_45 : decode cX9_done 45 = .ok (.iload_n 3, 1) := by decide +kernel
theorem dX9_done_46 : decode cX9_done 46 = .ok (.bipush 9, 2) := by decide +kernel
end
section
theorem dX9_done_48 : decode cX9_done 48 = .ok (.if_icmp .ne 29, 3) := by decide +kernel
theorem dX9_done_51 : decode cX9_done 51 = .ok (.aload_n 0, 1) := by decide +kernel
theorem dX9_done_52 : decode cX9_done 52 = .ok (.getfield 43, 3) := by decide +kernel
theorem dX9_done_55 : decode cX9_done 55 = .ok (.iload_n 2, 1) := by decide +kernel
theorem dX9_done_56 : decode cX9_done 56 = .ok (.iconst 1, 1) := by decide +kernel
theorem dX9_done_57 : decode cX9_done 57 = .ok (.isub, 1) := by decide +kernel
theorem dX9_done_58 : decode cX9_done 58 = .ok (.aload_n 0, 1) := by decide +kernel
theorem dX9_done_59 : decode cX9_done 59 = .ok (.getfield 43, 3) := by decide +kernel
theorem dX9_done_62 : decode cX9_done 62 = .ok (.iload_n 2, 1) := by decide +kernel
theorem dX9_done_63 : decode cX9_done 63 = .ok (.iconst 1, 1) := by decide +kernel
theorem dX9_done_64 : decode cX9_done 64 = .ok (.isub, 1) := by decide +kernel
theorem dX9_done_65 : decode cX9_done 65 = .ok (.iaload, 1) := by decide +kernel
theorem dX9_done_66 : decode cX9_done 66 = .ok (.ifCond .ne 7, 3) := by decide +kernel
theorem dX9_done_69 : decode cX9_done 69 = .ok (.iconst 1, 1) := by decide +kernel
theorem dX9_done_70 : decode cX9_done 70 = .ok (.goto 4, 3) := by decide +kernel
theorem dX9_done_73 : decode cX9_done 73 = .ok (.iconst 0, 1) := by decide +kernel
theorem dX9_done_74 : decode cX9_done 74 = .ok (.iastore, 1) := by decide +kernel
theorem dX9_done_75 : decode cX9_done 75 = .ok (.iload_n 2, 1) := by decide +kernel
theorem dX9_done_76 : decode cX9_done 76 = .ok (.ireturn, 1) := by decide +kernel
theorem dX9_done_77 : decode cX9_done 77 = .ok (.aload_n 0, 1) := by decide +kernel
theorem dX9_done_78 : decode cX9_done 78 = .ok (.getfield 43, 3) := by decide +kernel
theorem dX9_done_81 : decode cX9_done 81 = .ok (.iload_n 2, 1) := by decide +kernel
theorem dX9_done_82 : decode cX9_done 82 = .ok (.iconst 2, 1) := by decide +kernel
theorem dX9_done_83 : decode cX9_done 83 = .ok (.isub, 1) := by decide +kernel
theorem dX9_done_84 : decode cX9_done 84 = .ok (.iload_n 3, 1) := by decide +kernel
theorem dX9_done_85 : decode cX9_done 85 = .ok (.aload_n 0, 1) := by decide +kernel
theorem dX9_done_86 : decode cX9_done 86 = .ok (.getfield 43, 3) := by decide +kernel
theorem dX9_done_89 : decode cX9_done 89 = .ok (.iload_n 2, 1) := by decide +kernel
theorem dX9_done_90 : decode cX9_done 90 = .ok (.iconst 2, 1) := by decide +kernel
theorem dX9_done_91 : decode cX9_done 91 = .ok (.isub, 1) := by decide +kernel
theorem dX9_done_92 : decode cX9_done 92 = .ok (.iaload, 1) := by decide +kernel
theorem dX9_done_93 : decode cX9_done 93 = .ok (.aload_n 0, 1) := by decide +kernel
theorem dX9_done_94 : decode cX9_done 94 = .ok (.getfield 43, 3) := by decide +kernel
theorem dX9_done_97 : decode cX9_done 97 = .ok (.iload_n 2, 1) := by decide +kernel
theorem dX9_done_98 : decode cX9_done 98 = .ok (.iconst 1, 1) := by decide +kernel
theorem dX9_done_99 : decode cX9_done 99 = .ok (.isub, 1) := by decide +kernel
theorem dX9_done_100 : decode cX9_done 100 = .ok (.iaload, 1) := by decide +kernel
theorem dX9_done_101 : decode cX9_done 101 = .ok (.invokestatic 109, 3) := by decide +kernel
theorem dX9_done_104 : decode cX9_done 104 = .ok (.iastore, 1) := by decide +kernel
theorem dX9_done_105 : decode cX9_done 105 = .ok (.iload_n 2, 1) := by decide +kernel
theorem dX9_done_106 : decode cX9_done 106 = .ok (.iconst 1, 1) := by decide +kernel
theorem dX9_done_107 : decode cX9_done 107 = .ok (.isub, 1) := by decide +kernel
theorem dX9_done_108 : decode cX9_done 108 = .ok (.ireturn, 1) := by decide +kernel
theorem dX9_holds_0 : decode cX9_holds 0 = .ok (.iconst 0, 1) := by decide +kernel
theorem dX9_holds_1 : decode cX9_holds 1 = .ok (.istore_n 1, 1) := by decide +kernel
theorem dX9_holds_2 : decode cX9_holds 2 = .ok (.iconst 0, 1) := by decide +kernel
theorem dX9_holds_3 : decode cX9_holds 3 = .ok (.istore_n 2, 1) := by decide +kernel
theorem dX9_holds_4 : decode cX9_holds 4 = .ok (.iload_n 2, 1) := by decide +kernel
theorem dX9_holds_5 : decode cX9_holds 5 = .ok (.aload_n 0, 1) := by decide +kernel
theorem dX9_holds_6 : decode cX9_holds 6 = .ok (.getfield 53, 3) := by decide +kernel
theorem dX9_holds_9 : decode cX9_holds 9 = .ok (.if_icmp .ge 52, 3) := by decide +kernel
theorem dX9_holds_12 : decode cX9_holds 12 = .ok (.aload_n 0, 1) := by decide +kernel
theorem dX9_holds_13 : decode cX9_holds 13 = .ok (.getfield 25, 3) := by decide +kernel
theorem dX9_holds_16 : decode cX9_holds 16 = .ok (.iload_n 2, 1) := by decide +kernel
theorem dX9_holds_17 : decode cX9_holds 17 = .ok (.iaload, 1) := by decide +kernel
theorem dX9_holds_18 : decode cX9_holds 18 = .ok (.sipush 255, 3) := by decide +kernel
theorem dX9_holds_21 : decode cX9_holds 21 = .ok (.iand, 1) := by decide +kernel
theorem dX9_holds_22 : decode cX9_holds 22 = .ok (.bipush 12, 2) := by decide +kernel
theorem dX9_holds_24 : decode cX9_holds 24 = .ok (.if_icmp .ne 19, 3) := by decide +kernel
theorem dX9_holds_27 : decode cX9_holds 27 = .ok (.aload_n 0, 1) := by decide +kernel
theorem dX9_holds_28 : decode cX9_holds 28 = .ok (.getfield 43, 3) := by decide +kernel
theorem dX9_holds_31 : decode cX9_holds 31 = .ok (.iconst 0, 1) := by decide +kernel
theorem dX9_holds_32 : decode cX9_holds 32 = .ok (.iaload, 1) := by decide +kernel
theorem dX9_holds_33 : decode cX9_holds 33 = .ok (.ifCond .ne 5, 3) := by decide +kernel
theorem dX9_holds_36 : decode cX9_holds 36 = .ok (.iconst 0, 1) := by decide +kernel
theorem dX9_holds_37 : decode cX9_holds 37 = .ok (.ireturn, 1) := by decide +kernel
theorem dX9_holds_38 : decode cX9_holds 38 = .ok (.iconst 0, 1) := by decide +kernel
theorem dX9_holds_39 : decode cX9_holds 39 = .ok (.istore_n 1, 1) := by decide +kernel
theorem dX9_holds_40 : decode cX9_holds 40 = .ok (.goto 15, 3) := by decide +kernel
theorem dX9_holds_43 : decode cX9_holds 43 = .ok (.aload_n 0, 1) := by decide +kernel
theorem dX9_holds_44 : decode cX9_holds 44 = .ok (.aload_n 0, 1) := by decide +kernel
theorem dX9_holds_45 : decode cX9_holds 45 = .ok (.getfield 25, 3) := by decide +kernel
theorem dX9_holds_48 : decode cX9_holds 48 = .ok (.iload_n 2, 1) := by decide +kernel
theorem dX9_holds_49 : decode cX9_holds 49 = .ok (.iaload, 1) := by decide +kernel
theorem dX9_holds_50 : decode cX9_holds 50 = .ok (.iload_n 1, 1) := by decide +kernel
theorem dX9_holds_51 : decode cX9_holds 51 = .ok (.invokevirtual 112, 3) := by decide +kernel
theorem dX9_holds_54 : decode cX9_holds 54 = .ok (.istore_n 1, 1) := by decide +kernel
theorem dX9_holds_55 : decode cX9_holds 55 = .ok (.iinc 2 1, 3) := by decide +kernel
theorem dX9_holds_58 : decode cX9_holds 58 = .ok (.goto (-54), 3) := by decide +kernel
theorem dX9_holds_61 : decode cX9_holds 61 = .ok (.aload_n 0, 1) := by decide +kernel
theorem dX9_holds_62 : decode cX9_holds 62 = .ok (.getfield 43, 3) := by decide +kernel
theorem dX9_holds_65 : decode cX9_holds 65 = .ok (.iconst 0, 1) := by decide +kernel
theorem dX9_holds_66 : decode cX9_holds 66 = .ok (.iaload, 1) := by decide +kernel
theorem dX9_holds_67 : decode cX9_holds 67 = .ok (.ifCond .eq 7, 3) := by decide +kernel
theorem dX9_holds_70 : decode cX9_holds 70 = .ok (.iconst 1, 1) := by decide +kernel
theorem dX9_holds_71 : decode cX9_holds 71 = .ok (.goto 4, 3) := by decide +kernel
theorem dX9_holds_74 : decode cX9_holds 74 = .ok (.iconst 0, 1) := by decide +kernel
theorem dX9_holds_75 : decode cX9_holds 75 = .ok (.ireturn, 1) := by decide +kernel
theorem dX9_fires_0 : decode cX9_fires 0 = .ok (.iconst 0, 1) := by decide +kernel
theorem dX9_fires_1 : decode cX9_fires 1 = .ok (.istore_n 2, 1) := by decide +kernel
theorem dX9_fires_2 : decode cX9_fires 2 = .ok (.iconst 0, 1) := by decide +kernel
theorem dX9_fires_3 : decode cX9_fires 3 = .ok (.istore_n 3, 1) := by decide +kernel
theorem dX9_fires_4 : decode cX9_fires 4 = .ok (.iconst 0, 1) := by decide +kernel
theorem dX9_fires_5 : decode cX9_fires 5 = .ok (.istore 4, 2) := by decide +kernel
theorem dX9_fires_7 : decode cX9_fires 7 = .ok (.iload 4, 2) := by decide +kernel
theorem dX9_fires_9 : decode cX9_fires 9 = .ok (.aload_n 0, 1) := by decide +kernel
theorem dX9_fires_10 : decode cX9_fires 10 = .ok (.getfield 22, 3) := by decide +kernel
theorem dX9_fires_13 : decode cX9_fires 13 = .ok (.iload_n 1, 1) := by decide +kernel
theorem dX9_fires_14 : decode cX9_fires 14 = .ok (.iaload, 1) := by decide +kernel
theorem dX9_fires_15 : decode cX9_fires 15 = .ok (.if_icmp .ge 54, 3) := by decide +kernel
theorem dX9_fires_18 : decode cX9_fires 18 = .ok (.iload_n 3, 1) := by decide +kernel
theorem dX9_fires_19 : decode cX9_fires 19 = .ok (.ifCond .ne 50, 3) := by decide +kernel
theorem dX9_fires_22 : decode cX9_fires 22 = .ok (.aload_n 0, 1) := by decide +kernel
theorem dX9_fires_23 : decode cX9_fires 23 = .ok (.getfield 19, 3) := by decide +kernel
theorem dX9_fires_26 : decode cX9_fires 26 = .ok (.bipush 32, 2) := by decide +kernel
theorem dX9_fires_28 : decode cX9_fires 28 = .ok (.iload_n 1, 1) := by decide +kernel
theorem dX9_fires_29 : decode cX9_fires 29 = .ok (.imul, 1) := by decide +kernel
theorem dX9_fires_30 : decode cX9_fires 30 = .ok (.iload 4, 2) := by decide +kernel
theorem dX9_fires_32 : decode cX9_fires 32 = .ok (.iadd, 1) := by decide +kernel
theorem dX9_fires_33 : decode cX9_fires 33 = .ok (.iaload, 1) := by decide +kernel
theorem dX9_fires_34 : decode cX9_fires 34 = .ok (.istore 5, 2) := by decide +kernel
theorem dX9_fires_36 : decode cX9_fires 36 = .ok (.iload 5, 2) := by decide +kernel
theorem dX9_fires_38 : decode cX9_fires 38 = .ok (.sipush 255, 3) := by decide +kernel
theorem dX9_fires_41 : decode cX9_fires 41 = .ok (.iand, 1) := by decide +kernel
theorem dX9_fires_42 : decode cX9_fires 42 = .ok (.bipush 10, 2) := by decide +kernel
theorem dX9_fires_44 : decode cX9_fires 44 = .ok (.if_icmp .ne 11, 3) := by decide +kernel
theorem dX9_fires_47 : decode cX9_fires 47 = .ok (.iload 4, 2) := by decide +kernel
theorem dX9_fires_49 : decode cX9_fires 49 = .ok (.iconst 1, 1) := by decide +kernel
theorem dX9_fires_50 : decode cX9_fires 50 = .ok (.iadd, 1) := by decide +kernel
theorem dX9_fires_51 : decode cX9_fires 51 = .ok (.istore_n 3, 1) := by decide +kernel
theorem dX9_fires_52 : decode cX9_fires 52 = .ok (.goto 11, 3) := by decide +kernel
theorem dX9_fires_55 : decode cX9_fires 55 = .ok (.aload_n 0, 1) := by decide +kernel
theorem dX9_fires_56 : decode cX9_fires 56 = .ok (.iload 5, 2) := by decide +kernel
theorem dX9_fires_58 : decode cX9_fires 58 = .ok (.iload_n 2, 1) := by decide +kernel
theorem dX9_fires_59 : decode cX9_fires 59 = .ok (.invokevirtual 112, 3) := by decide +kernel
theorem dX9_fires_62 : decode cX9_fires 62 = .ok (.istore_n 2, 1) := by decide +kernel
theorem dX9_fires_63 : decode cX9_fires 63 = .ok (.iinc 4 1, 3) := by decide +kernel
theorem dX9_fires_66 : decode cX9_fires 66 = .ok (.goto (-59), 3) := by decide +kernel
theorem dX9_fires_69 : decode cX9_fires 69 = .ok (.aload_n 0, 1) := by decide +kernel
theorem dX9_fires_70 : decode cX9_fires 70 = .ok (.getfield 43, 3) := by decide +kernel
theorem dX9_fires_73 : decode cX9_fires 73 = .ok (.iconst 0, 1) := by decide +kernel
theorem dX9_fires_74 : decode cX9_fires 74 = .ok (.iaload, 1) := by decide +kernel
theorem dX9_fires_75 : decode cX9_fires 75 = .ok (.ifCond .ne 5, 3) := by decide +kernel
theorem dX9_fires_78 : decode cX9_fires 78 = .ok (.iconst 0, 1) := by decide +kernel
theorem dX9_fires_79 : decode cX9_fires 79 = .ok (.ireturn, 1) := by decide +kernel
theorem dX9_fires_80 : decode cX9_fires 80 = .ok (.iconst 0, 1) := by decide +kernel
theorem dX9_fires_81 : decode cX9_fires 81 = .ok (.istore 4, 2) := by decide +kernel
theorem dX9_fires_83 : decode cX9_fires 83 = .ok (.iload 4, 2) := by decide +kernel
theorem dX9_fires_85 : decode cX9_fires 85 = .ok (.bipush 6, 2) := by decide +kernel
theorem dX9_fires_87 : decode cX9_fires 87 = .ok (.if_icmp .ge 23, 3) := by decide +kernel
theorem dX9_fires_90 : decode cX9_fires 90 = .ok (.aload_n 0, 1) := by decide +kernel
theorem dX9_fires_91 : decode cX9_fires 91 = .ok (.getfield 37, 3) := by decide +kernel
theorem dX9_fires_94 : decode cX9_fires 94 = .ok (.iload 4, 2) := by decide +kernel
theorem dX9_fires_96 : decode cX9_fires 96 = .ok (.aload_n 0, 1) := by decide +kernel
theorem dX9_fires_97 : decode cX9_fires 97 = .ok (.getfield 34, 3) := by decide +kernel
theorem dX9_fires_100 : decode cX9_fires 100 = .ok (.iload 4, 2) := by decide +kernel
theorem dX9_fires_102 : decode cX9_fires 102 = .ok (.iaload, 1) := by decide +kernel
theorem dX9_fires_103 : decode cX9_fires 103 = .ok (.iastore, 1) := by decide +kernel
theorem dX9_fires_104 : decode cX9_fires 104 = .ok (.iinc 4 1, 3) := by decide +kernel
theorem dX9_fires_107 : decode cX9_fires 107 = .ok (.goto (-24), 3) := by decide +kernel
theorem dX9_fires_110 : decode cX9_fires 110 = .ok (.iconst 0, 1) := by decide +kernel
theorem dX9_fires_111 : decode cX9_fires 111 = .ok (.istore_n 2, 1) := by decide +kernel
theorem dX9_fires_112 : decode cX9_fires 112 = .ok (.iload_n 3, 1) := by decide +kernel
theorem dX9_fires_113 : decode cX9_fires 113 = .ok (.istore 4, 2) := by decide +kernel
theorem dX9_fires_115 : decode cX9_fires 115 = .ok (.iload 4, 2) := by decide +kernel
theorem dX9_fires_117 : decode cX9_fires 117 = .ok (.aload_n 0, 1) := by decide +kernel
theorem dX9_fires_118 : decode cX9_fires 118 = .ok (.getfield 22, 3) := by decide +kernel
theorem dX9_fires_121 : decode cX9_fires 121 = .ok (.iload_n 1, 1) := by decide +kernel
theorem dX9_fires_122 : decode cX9_fires 122 = .ok (.iaload, 1) := by decide +kernel
theorem dX9_fires_123 : decode cX9_fires 123 = .ok (.if_icmp .ge 64, 3) := by decide +kernel
theorem dX9_fires_126 : decode cX9_fires 126 = .ok (.aload_n 0, 1) := by decide +kernel
theorem dX9_fires_127 : decode cX9_fires 127 = .ok (.getfield 19, 3) := by decide +kernel
theorem dX9_fires_130 : decode cX9_fires 130 = .ok (.bipush 32, 2) := by decide +kernel
theorem dX9_fires_132 : decode cX9_fires 132 = .ok (.iload_n 1, 1) := by decide +kernel
theorem dX9_fires_133 : decode cX9_fires 133 = .ok (.imul, 1) := by decide +kernel
theorem dX9_fires_134 : decode cX9_fires 134 = .ok (.iload 4, 2) := by decide +kernel
theorem dX9_fires_136 : decode cX9_fires 136 = .ok (.iadd, 1) := by decide +kernel
theorem dX9_fires_137 : decode cX9_fires 137 = .ok (.iaload, 1) := by decide +kernel
theorem dX9_fires_138 : decode cX9_fires 138 = .ok (.istore 5, 2) := by decide +kernel
theorem dX9_fires_140 : decode cX9_fires 140 = .ok (.iload 5, 2) := by decide +kernel
theorem dX9_fires_142 : decode cX9_fires 142 = .ok (.sipush 255, 3) := by decide +kernel
theorem dX9_fires_145 : decode cX9_fires 145 = .ok (.iand, 1) := by decide +kernel
theorem dX9_fires_146 : decode cX9_fires 146 = .ok (.bipush 11, 2) := by decide +kernel
theorem dX9_fires_148 : decode cX9_fires 148 = .ok (.if_icmp .ne 25, 3) := by decide +kernel
theorem dX9_fires_151 : decode cX9_fires 151 = .ok (.iinc 2 (-1), 3) := by decide +kernel
theorem dX9_fires_154 : decode cX9_fires 154 = .ok (.aload_n 0, 1) := by decide +kernel
theorem dX9_fires_155 : decode cX9_fires 155 = .ok (.getfield 37, 3) := by decide +kernel
theorem dX9_fires_158 : decode cX9_fires 158 = .ok (.iload 5, 2) := by decide +kernel
theorem dX9_fires_160 : decode cX9_fires 160 = .ok (.bipush 8, 2) := by decide +kernel
theorem dX9_fires_162 : decode cX9_fires 162 = .ok (.ishr, 1) := by decide +kernel
theorem dX9_fires_163 : decode cX9_fires 163 = .ok (.aload_n 0, 1) := by decide +kernel
theorem dX9_fires_164 : decode cX9_fires 164 = .ok (.getfield 43, 3) := by decide +kernel
theorem dX9_fires_167 : decode cX9_fires 167 = .ok (.iload_n 2, 1) := by decide +kernel
theorem dX9_fires_168 : decode cX9_fires 168 = .ok (.iaload, 1) := by decide +kernel
theorem dX9_fires_169 : decode cX9_fires 169 = .ok (.iastore, 1) := by decide +kernel
theorem dX9_fires_170 : decode cX9_fires 170 = .ok (.goto 11, 3) := by decide +kernel
theorem dX9_fires_173 : decode cX9_fires 173 = .ok (.aload_n 0, 1) := by decide +kernel
theorem dX9_fires_174 : decode cX9_fires 174 = .ok (.iload 5, 2) := by decide +kernel
theorem dX9_fires_176 : decode cX9_fires 176 = .ok (.iload_n 2, 1) := by decide +kernel
theorem dX9_fires_177 : decode cX9_fires 177 = .ok (.invokevirtual 112, 3) := by decide +kernel
theorem dX9_fires_180 : decode cX9_fires 180 = .ok (.istore_n 2, 1) := by decide +kernel
theorem dX9_fires_181 : decode cX9_fires 181 = .ok (.iinc 4 1, 3) := by decide +kernel
theorem dX9_fires_184 : decode cX9_fires 184 = .ok (.goto (-69), 3) := by decide +kernel
theorem dX9_fires_187 : decode cX9_fires 187 = .ok (.iconst 1, 1) := by decide +kernel
theorem dX9_fires_188 : decode cX9_fires 188 = .ok (.ireturn, 1) := by decide +kernel
theorem dX9_place_0 : decode cX9_place 0 = .ok (.iconst 0, 1) := by decide +kernel
theorem dX9_place_1 : decode cX9_place 1 = .ok (.istore_n 2, 1) := by decide +kernel
theorem dX9_place_2 : decode cX9_place 2 = .ok (.iconst 0, 1) := by decide +kernel
theorem dX9_place_3 : decode cX9_place 3 = .ok (.istore_n 3, 1) := by decide +kernel
theorem dX9_place_4 : decode cX9_place 4 = .ok (.iload_n 3, 1) := by decide +kernel
theorem dX9_place_5 : decode cX9_place 5 = .ok (.bipush 6, 2) := by decide +kernel
theorem dX9_place_7 : decode cX9_place 7 = .ok (.if_icmp .ge 67, 3) := by decide +kernel
theorem dX9_place_10 : decode cX9_place 10 = .ok (.iload_n 3, 1) := by decide +kernel
theorem dX9_place_11 : decode cX9_place 11 = .ok (.iload_n 1, 1) := by decide +kernel
theorem dX9_place_12 : decode cX9_place 12 = .ok (.if_icmp .eq 56, 3) := by decide +kernel
theorem dX9_place_15 : decode cX9_place 15 = .ok (.aload_n 0, 1) := by decide +kernel
theorem dX9_place_16 : decode cX9_place 16 = .ok (.getfield 13, 3) := by decide +kernel
theorem dX9_place_19 : decode cX9_place 19 = .ok (.iload_n 3, 1) := by decide +kernel
theorem dX9_place_20 : decode cX9_place 20 = .ok (.iaload, 1) := by decide +kernel
theorem dX9_place_21 : decode cX9_place 21 = .ok (.aload_n 0, 1) := by decide +kernel
theorem dX9_place_22 : decode cX9_place 22 = .ok (.getfield 13, 3) := by decide +kernel
theorem dX9_place_25 : decode cX9_place 25 = .ok (.iload_n 1, 1) := by decide +kernel
theorem dX9_place_26 : decode cX9_place 26 = .ok (.iaload, 1) := by decide +kernel
theorem dX9_place_27 : decode cX9_place 27 = .ok (.if_icmp .ne 41, 3) := by decide +kernel
theorem dX9_place_30 : decode cX9_place 30 = .ok (.aload_n 0, 1) := by decide +kernel
theorem dX9_place_31 : decode cX9_place 31 = .ok (.getfield 37, 3) := by decide +kernel
theorem dX9_place_34 : decode cX9_place 34 = .ok (.iload_n 3, 1) := by decide +kernel
theorem dX9_place_35 : decode cX9_place 35 = .ok (.iaload, 1) := by decide +kernel
theorem dX9_place_36 : decode cX9_place 36 = .ok (.aload_n 0, 1) := by decide +kernel
theorem dX9_place_37 : decode cX9_place 37 = .ok (.getfield 37, 3) := by decide +kernel
theorem dX9_place_40 : decode cX9_place 40 = .ok (.iload_n 1, 1) := by decide +kernel
theorem dX9_place_41 : decode cX9_place 41 = .ok (.iaload, 1) := by decide +kernel
theorem dX9_place_42 : decode cX9_place 42 = .ok (.if_icmp .lt 23, 3) := by decide +kernel
theorem dX9_place_45 : decode cX9_place 45 = .ok (.aload_n 0, 1) := by decide +kernel
theorem dX9_place_46 : decode cX9_place 46 = .ok (.getfield 37, 3) := by decide +kernel
theorem dX9_place_49 : decode cX9_place 49 = .ok (.iload_n 3, 1) := by decide +kernel
theorem dX9_place_50 : decode cX9_place 50 = .ok (.iaload, 1) := by decide +kernel
theorem dX9_place_51 : decode cX9_place 51 = .ok (.aload_n 0, 1) := by decide +kernel
theorem dX9_place_52 : decode cX9_place 52 = .ok (.getfield 37, 3) := by decide +kernel
theorem dX9_place_55 : decode cX9_place 55 = .ok (.iload_n 1, 1) := by decide +kernel
theorem dX9_place_56 : decode cX9_place 56 = .ok (.iaload, 1) := by decide +kernel
theorem dX9_place_57 : decode cX9_place 57 = .ok (.if_icmp .ne 11, 3) := by decide +kernel
theorem dX9_place_60 : decode cX9_place 60 = .ok (.iload_n 3, 1) := by decide +kernel
theorem dX9_place_61 : decode cX9_place 61 = .ok (.iload_n 1, 1) := by decide +kernel
theorem dX9_place_62 : decode cX9_place 62 = .ok (.if_icmp .ge 6, 3) := by decide +kernel
theorem dX9_place_65 : decode cX9_place 65 = .ok (.iinc 2 1, 3) := by decide +kernel
theorem dX9_place_68 : decode cX9_place 68 = .ok (.iinc 3 1, 3) := by decide +kernel
theorem dX9_place_71 : decode cX9_place 71 = .ok (.goto (-67), 3) := by decide +kernel
theorem dX9_place_74 : decode cX9_place 74 = .ok (.iload_n 2, 1) := by decide +kernel
theorem dX9_place_75 : decode cX9_place 75 = .ok (.ireturn, 1) := by decide +kernel
theorem dX9_inOrder_0 : decode cX9_inOrder 0 = .ok (.aload_n 0, 1) := by decide +kernel
theorem dX9_inOrder_1 : decode cX9_inOrder 1 = .ok (.getfield 13, 3) := by decide +kernel
theorem dX9_inOrder_4 : decode cX9_inOrder 4 = .ok (.iload_n 1, 1) := by decide +kernel
theorem dX9_inOrder_5 : decode cX9_inOrder 5 = .ok (.iaload, 1) := by decide +kernel
theorem dX9_inOrder_6 : decode cX9_inOrder 6 = .ok (.ifCond .ne 10, 3) := by decide +kernel
theorem dX9_inOrder_9 : decode cX9_inOrder 9 = .ok (.aload_n 0, 1) := by decide +kernel
theorem dX9_inOrder_10 : decode cX9_inOrder 10 = .ok (.getfield 37, 3) := by decide +kernel
theorem dX9_inOrder_13 : decode cX9_inOrder 13 = .ok (.iload_n 1, 1) := by decide +kernel
theorem dX9_inOrder_14 : decode cX9_inOrder 14 = .ok (.iaload, 1) := by decide +kernel
theorem dX9_inOrder_15 : decode cX9_inOrder 15 = .ok (.ireturn, 1) := by decide +kernel
theorem dX9_inOrder_16 : decode cX9_inOrder 16 = .ok (.iconst 0, 1) := by decide +kernel
theorem dX9_inOrder_17 : decode cX9_inOrder 17 = .ok (.istore_n 2, 1) := by decide +kernel
theorem dX9_inOrder_18 : decode cX9_inOrder 18 = .ok (.iconst 0, 1) := by decide +kernel
theorem dX9_inOrder_19 : decode cX9_inOrder 19 = .ok (.istore_n 3, 1) := by decide +kernel
theorem dX9_inOrder_20 : decode cX9_inOrder 20 = .ok (.iload_n 3, 1) := by decide +kernel
theorem dX9_inOrder_21 : decode cX9_inOrder 21 = .ok (.iload_n 1, 1) := by decide +kernel
theorem dX9_inOrder_22 : decode cX9_inOrder 22 = .ok (.if_icmp .ge 27, 3) := by decide +kernel
theorem dX9_inOrder_25 : decode cX9_inOrder 25 = .ok (.aload_n 0, 1) := by decide +kernel
theorem dX9_inOrder_26 : decode cX9_inOrder 26 = .ok (.getfield 13, 3) := by decide +kernel
theorem dX9_inOrder_29 : decode cX9_inOrder 29 = .ok (.iload_n 3, 1) := by decide +kernel
theorem dX9_inOrder_30 : decode cX9_inOrder 30 = .ok (.iaload, 1) := by decide +kernel
theorem dX9_inOrder_31 : decode cX9_inOrder 31 = .ok (.aload_n 0, 1) := by decide +kernel
theorem dX9_inOrder_32 : decode cX9_inOrder 32 = .ok (.getfield 13, 3) := by decide +kernel
theorem dX9_inOrder_35 : decode cX9_inOrder 35 = .ok (.iload_n 1, 1) := by decide +kernel
theorem dX9_inOrder_36 : decode cX9_inOrder 36 = .ok (.iaload, 1) := by decide +kernel
theorem dX9_inOrder_37 : decode cX9_inOrder 37 = .ok (.if_icmp .ne 6, 3) := by decide +kernel
theorem dX9_inOrder_40 : decode cX9_inOrder 40 = .ok (.iinc 2 1, 3) := by decide +kernel
theorem dX9_inOrder_43 : decode cX9_inOrder 43 = .ok (.iinc 3 1, 3) := by decide +kernel
theorem dX9_inOrder_46 : decode cX9_inOrder 46 = .ok (.goto (-26), 3) := by decide +kernel
theorem dX9_inOrder_49 : decode cX9_inOrder 49 = .ok (.iconst 0, 1) := by decide +kernel
theorem dX9_inOrder_50 : decode cX9_inOrder 50 = .ok (.istore_n 3, 1) := by decide +kernel
theorem dX9_inOrder_51 : decode cX9_inOrder 51 = .ok (.iload_n 3, 1) := by decide +kernel
theorem dX9_inOrder_52 : decode cX9_inOrder 52 = .ok (.bipush 6, 2) := by decide +kernel
theorem dX9_inOrder_54 : decode cX9_inOrder 54 = .ok (.if_icmp .ge 40, 3) := by decide +kernel
theorem dX9_inOrder_57 : decode cX9_inOrder 57 = .ok (.aload_n 0, 1) := by decide +kernel
theorem dX9_inOrder_58 : decode cX9_inOrder 58 = .ok (.getfield 13, 3) := by decide +kernel
theorem dX9_inOrder_61 : decode cX9_inOrder 61 = .ok (.iload_n 3, 1) := by decide +kernel
theorem dX9_inOrder_62 : decode cX9_inOrder 62 = .ok (.iaload, 1) := by decide +kernel
theorem dX9_inOrder_63 : decode cX9_inOrder 63 = .ok (.aload_n 0, 1) := by decide +kernel
theorem dX9_inOrder_64 : decode cX9_inOrder 64 = .ok (.getfield 13, 3) := by decide +kernel
theorem dX9_inOrder_67 : decode cX9_inOrder 67 = .ok (.iload_n 1, 1) := by decide +kernel
theorem dX9_inOrder_68 : decode cX9_inOrder 68 = .ok (.iaload, 1) := by decide +kernel
theorem dX9_inOrder_69 : decode cX9_inOrder 69 = .ok (.if_icmp .ne 19, 3) := by decide +kernel
theorem dX9_inOrder_72 : decode cX9_inOrder 72 = .ok (.aload_n 0, 1) := by decide +kernel
theorem dX9_inOrder_73 : decode cX9_inOrder 73 = .ok (.iload_n 3, 1) := by decide +kernel
theorem dX9_inOrder_74 : decode cX9_inOrder 74 = .ok (.invokevirtual 115, 3) := by decide +kernel
theorem dX9_inOrder_77 : decode cX9_inOrder 77 = .ok (.iload_n 2, 1) := by decide +kernel
theorem dX9_inOrder_78 : decode cX9_inOrder 78 = .ok (.if_icmp .ne 10, 3) := by decide +kernel
theorem dX9_inOrder_81 : decode cX9_inOrder 81 = .ok (.aload_n 0, 1) := by decide +kernel
theorem dX9_inOrder_82 : decode cX9_inOrder 82 = .ok (.getfield 37, 3) := by decide +kernel
theorem dX9_inOrder_85 : decode cX9_inOrder 85 = .ok (.iload_n 3, 1) := by decide +kernel
theorem dX9_inOrder_86 : decode cX9_inOrder 86 = .ok (.iaload, 1) := by decide +kernel
theorem dX9_inOrder_87 : decode cX9_inOrder 87 = .ok (.ireturn, 1) := by decide +kernel
theorem dX9_inOrder_88 : decode cX9_inOrder 88 = .ok (.iinc 3 1, 3) := by decide +kernel
theorem dX9_inOrder_91 : decode cX9_inOrder 91 = .ok (.goto (-40), 3) := by decide +kernel
theorem dX9_inOrder_94 : decode cX9_inOrder 94 = .ok (.iconst 0, 1) := by decide +kernel
theorem dX9_inOrder_95 : decode cX9_inOrder 95 = .ok (.ireturn, 1) := by decide +kernel
theorem dX9_standardise_0 : decode cX9_standardise 0 = .ok (.iconst 0, 1) := by decide +kernel
theorem dX9_standardise_1 : decode cX9_standardise 1 = .ok (.istore_n 1, 1) := by decide +kernel
theorem dX9_standardise_2 : decode cX9_standardise 2 = .ok (.iload_n 1, 1) := by decide +kernel
theorem dX9_standardise_3 : decode cX9_standardise 3 = .ok (.bipush 6, 2) := by decide +kernel
theorem dX9_standardise_5 : decode cX9_standardise 5 = .ok (.if_icmp .ge 20, 3) := by decide +kernel
theorem dX9_standardise_8 : decode cX9_standardise 8 = .ok (.aload_n 0, 1) := by decide +kernel
theorem dX9_standardise_9 : decode cX9_standardise 9 = .ok (.getfield 40, 3) := by decide +kernel
theorem dX9_standardise_12 : decode cX9_standardise 12 = .ok (.iload_n 1, 1) := by decide +kernel
theorem dX9_standardise_13 : decode cX9_standardise 13 = .ok (.aload_n 0, 1) := by decide +kernel
theorem dX9_standardise_14 : decode cX9_standardise 14 = .ok (.iload_n 1, 1) := by decide +kernel
theorem dX9_standardise_15 : decode cX9_standardise 15 = .ok (.invokevirtual 118, 3) := by decide +kernel
theorem dX9_standardise_18 : decode cX9_standardise 18 = .ok (.iastore, 1) := by decide +kernel
theorem dX9_standardise_19 : decode cX9_standardise 19 = .ok (.iinc 1 1, 3) := by decide +kernel
theorem dX9_standardise_22 : decode cX9_standardise 22 = .ok (.goto (-20), 3) := by decide +kernel
theorem dX9_standardise_25 : decode cX9_standardise 25 = .ok (.return_, 1) := by decide +kernel
theorem dX9_isNormal_0 : decode cX9_isNormal 0 = .ok (.iconst 0, 1) := by decide +kernel
theorem dX9_isNormal_1 : decode cX9_isNormal 1 = .ok (.istore_n 2, 1) := by decide +kernel
theorem dX9_isNormal_2 : decode cX9_isNormal 2 = .ok (.iload_n 2, 1) := by decide +kernel
theorem dX9_isNormal_3 : decode cX9_isNormal 3 = .ok (.bipush 6, 2) := by decide +kernel
theorem dX9_isNormal_5 : decode cX9_isNormal 5 = .ok (.if_icmp .ge 31, 3) := by decide +kernel
theorem dX9_isNormal_8 : decode cX9_isNormal 8 = .ok (.aload_n 0, 1) := by decide +kernel
theorem dX9_isNormal_9 : decode cX9_isNormal 9 = .ok (.getfield 28, 3) := by decide +kernel
theorem dX9_isNormal_12 : decode cX9_isNormal 12 = .ok (.bipush 6, 2) := by decide +kernel
theorem dX9_isNormal_14 : decode cX9_isNormal 14 = .ok (.iload_n 1, 1) := by decide +kernel
theorem dX9_isNormal_15 : decode cX9_isNormal 15 = .ok (.imul, 1) := by decide +kernel
theorem dX9_isNormal_16 : decode cX9_isNormal 16 = .ok (.iload_n 2, 1) := by decide +kernel
theorem dX9_isNormal_17 : decode cX9_isNormal 17 = .ok (.iadd, 1) := by decide +kernel
theorem dX9_isNormal_18 : decode cX9_isNormal 18 = .ok (.iaload, 1) := by decide +kernel
theorem dX9_isNormal_19 : decode cX9_isNormal 19 = .ok (.aload_n 0, 1) := by decide +kernel
theorem dX9_isNormal_20 : decode cX9_isNormal 20 = .ok (.getfield 40, 3) := by decide +kernel
theorem dX9_isNormal_23 : decode cX9_isNormal 23 = .ok (.iload_n 2, 1) := by decide +kernel
theorem dX9_isNormal_24 : decode cX9_isNormal 24 = .ok (.iaload, 1) := by decide +kernel
theorem dX9_isNormal_25 : decode cX9_isNormal 25 = .ok (.if_icmp .eq 5, 3) := by decide +kernel
theorem dX9_isNormal_28 : decode cX9_isNormal 28 = .ok (.iconst 0, 1) := by decide +kernel
theorem dX9_isNormal_29 : decode cX9_isNormal 29 = .ok (.ireturn, 1) := by decide +kernel
theorem dX9_isNormal_30 : decode cX9_isNormal 30 = .ok (.iinc 2 1, 3) := by decide +kernel
theorem dX9_isNormal_33 : decode cX9_isNormal 33 = .ok (.goto (-31), 3) := by decide +kernel
theorem dX9_isNormal_36 : decode cX9_isNormal 36 = .ok (.iconst 1, 1) := by decide +kernel
theorem dX9_isNormal_37 : decode cX9_isNormal 37 = .ok (.ireturn, 1) := by decide +kernel
theorem dX9_isStored_0 : decode cX9_isStored 0 = .ok (.aload_n 0, 1) := by decide +kernel
theorem dX9_isStored_1 : decode cX9_isStored 1 = .ok (.invokevirtual 121, 3) := by decide +kernel
theorem dX9_isStored_4 : decode cX9_isStored 4 = .ok (.iconst 0, 1) := by decide +kernel
theorem dX9_isStored_5 : decode cX9_isStored 5 = .ok (.istore_n 1, 1) := by decide +kernel
theorem dX9_isStored_6 : decode cX9_isStored 6 = .ok (.iload_n 1, 1) := by decide +kernel
theorem dX9_isStored_7 : decode cX9_isStored 7 = .ok (.aload_n 0, 1) := by decide +kernel
theorem dX9_isStored_8 : decode cX9_isStored 8 = .ok (.getfield 56, 3) := by decide +kernel
theorem dX9_isStored_11 : decode cX9_isStored 11 = .ok (.if_icmp .ge 19, 3) := by decide +kernel
theorem dX9_isStored_14 : decode cX9_isStored 14 = .ok (.aload_n 0, 1) := by decide +kernel
theorem dX9_isStored_15 : decode cX9_isStored 15 = .ok (.iload_n 1, 1) := by decide +kernel
theorem dX9_isStored_16 : decode cX9_isStored 16 = .ok (.invokevirtual 124, 3) := by decide +kernel
theorem dX9_isStored_19 : decode cX9_isStored 19 = .ok (.ifCond .eq 5, 3) := by decide +kernel
theorem dX9_isStored_22 : decode cX9_isStored 22 = .ok (.iconst 1, 1) := by decide +kernel
theorem dX9_isStored_23 : decode cX9_isStored 23 = .ok (.ireturn, 1) := by decide +kernel
theorem dX9_isStored_24 : decode cX9_isStored 24 = .ok (.iinc 1 1, 3) := by decide +kernel
theorem dX9_isStored_27 : decode cX9_isStored 27 = .ok (.goto (-21), 3) := by decide +kernel
theorem dX9_isStored_30 : decode cX9_isStored 30 = .ok (.iconst 0, 1) := by decide +kernel
theorem dX9_isStored_31 : decode cX9_isStored 31 = .ok (.ireturn, 1) := by decide +kernel
theorem dX9_store_0 : decode cX9_store 0 = .ok (.aload_n 0, 1) := by decide +kernel
theorem dX9_store_1 : decode cX9_store 1 = .ok (.invokevirtual 121, 3) := by decide +kernel
theorem dX9_store_4 : decode cX9_store 4 = .ok (.iconst 0, 1) := by decide +kernel
theorem dX9_store_5 : decode cX9_store 5 = .ok (.istore_n 2, 1) := by decide +kernel
theorem dX9_store_6 : decode cX9_store 6 = .ok (.iload_n 2, 1) := by decide +kernel
theorem dX9_store_7 : decode cX9_store 7 = .ok (.bipush 6, 2) := by decide +kernel
theorem dX9_store_9 : decode cX9_store 9 = .ok (.if_icmp .ge 41, 3) := by decide +kernel
theorem dX9_store_12 : decode cX9_store 12 = .ok (.aload_n 0, 1) := by decide +kernel
theorem dX9_store_13 : decode cX9_store 13 = .ok (.getfield 28, 3) := by decide +kernel
theorem dX9_store_16 : decode cX9_store 16 = .ok (.bipush 6, 2) := by decide +kernel
theorem dX9_store_18 : decode cX9_store 18 = .ok (.aload_n 0, 1) := by decide +kernel
theorem dX9_store_19 : decode cX9_store 19 = .ok (.getfield 56, 3) := by decide +kernel
theorem dX9_store_22 : decode cX9_store 22 = .ok (.imul, 1) := by decide +kernel
theorem dX9_store_23 : decode cX9_store 23 = .ok (.iload_n 2, 1) := by decide +kernel
theorem dX9_store_24 : decode cX9_store 24 = .ok (.iadd, 1) := by decide +kernel
theorem dX9_store_25 : decode cX9_store 25 = .ok (.aload_n 0, 1) := by decide +kernel
theorem dX9_store_26 : decode cX9_store 26 = .ok (.getfield 40, 3) := by decide +kernel
theorem dX9_store_29 : decode cX9_store 29 = .ok (.iload_n 2, 1) := by decide +kernel
theorem dX9_store_30 : decode cX9_store 30 = .ok (.iaload, 1) := by decide +kernel
theorem dX9_store_31 : decode cX9_store 31 = .ok (.iastore, 1) := by decide +kernel
theorem dX9_store_32 : decode cX9_store 32 = .ok (.aload_n 0, 1) := by decide +kernel
theorem dX9_store_33 : decode cX9_store 33 = .ok (.getfield 34, 3) := by decide +kernel
theorem dX9_store_36 : decode cX9_store 36 = .ok (.iload_n 2, 1) := by decide +kernel
theorem dX9_store_37 : decode cX9_store 37 = .ok (.aload_n 0, 1) := by decide +kernel
theorem dX9_store_38 : decode cX9_store 38 = .ok (.getfield 40, 3) := by decide +kernel
theorem dX9_store_41 : decode cX9_store 41 = .ok (.iload_n 2, 1) := by decide +kernel
theorem dX9_store_42 : decode cX9_store 42 = .ok (.iaload, 1) := by decide +kernel
theorem dX9_store_43 : decode cX9_store 43 = .ok (.iastore, 1) := by decide +kernel
theorem dX9_store_44 : decode cX9_store 44 = .ok (.iinc 2 1, 3) := by decide +kernel
theorem dX9_store_47 : decode cX9_store 47 = .ok (.goto (-41), 3) := by decide +kernel
theorem dX9_store_50 : decode cX9_store 50 = .ok (.aload_n 0, 1) := by decide +kernel
theorem dX9_store_51 : decode cX9_store 51 = .ok (.getfield 31, 3) := by decide +kernel
theorem dX9_store_54 : decode cX9_store 54 = .ok (.aload_n 0, 1) := by decide +kernel
theorem dX9_store_55 : decode cX9_store 55 = .ok (.getfield 56, 3) := by decide +kernel
theorem dX9_store_58 : decode cX9_store 58 = .ok (.iload_n 1, 1) := by decide +kernel
theorem dX9_store_59 : decode cX9_store 59 = .ok (.iastore, 1) := by decide +kernel
theorem dX9_store_60 : decode cX9_store 60 = .ok (.aload_n 0, 1) := by decide +kernel
theorem dX9_store_61 : decode cX9_store 61 = .ok (.invokevirtual 127, 3) := by decide +kernel
theorem dX9_store_64 : decode cX9_store 64 = .ok (.ifCond .ne 11, 3) := by decide +kernel
theorem dX9_store_67 : decode cX9_store 67 = .ok (.aload_n 0, 1) := by decide +kernel
theorem dX9_store_68 : decode cX9_store 68 = .ok (.aload_n 0, 1) := by decide +kernel
theorem dX9_store_69 : decode cX9_store 69 = .ok (.getfield 56, 3) := by decide +kernel
theorem dX9_store_72 : decode cX9_store 72 = .ok (.putfield 46, 3) := by decide +kernel
theorem dX9_store_75 : decode cX9_store 75 = .ok (.aload_n 0, 1) := by decide +kernel
theorem dX9_store_76 : decode cX9_store 76 = .ok (.dup, 1) := by decide +kernel
theorem dX9_store_77 : decode cX9_store 77 = .ok (.getfield 56, 3) := by decide +kernel
theorem dX9_store_80 : decode cX9_store 80 = .ok (.iconst 1, 1) := by decide +kernel
theorem dX9_store_81 : decode cX9_store 81 = .ok (.iadd, 1) := by decide +kernel
theorem dX9_store_82 : decode cX9_store 82 = .ok (.putfield 56, 3) := by decide +kernel
theorem dX9_store_85 : decode cX9_store 85 = .ok (.return_, 1) := by decide +kernel
theorem dX9_seal_0 : decode cX9_seal 0 = .ok (.aload_n 0, 1) := by decide +kernel
theorem dX9_seal_1 : decode cX9_seal 1 = .ok (.getfield 62, 3) := by decide +kernel
theorem dX9_seal_4 : decode cX9_seal 4 = .ok (.ifCond .eq 6, 3) := by decide +kernel
theorem dX9_seal_7 : decode cX9_seal 7 = .ok (.bipush (-2), 2) := by decide +kernel
theorem dX9_seal_9 : decode cX9_seal 9 = .ok (.ireturn, 1) := by decide +kernel
theorem dX9_seal_10 : decode cX9_seal 10 = .ok (.iconst 0, 1) := by decide +kernel
theorem dX9_seal_11 : decode cX9_seal 11 = .ok (.istore_n 1, 1) := by decide +kernel
theorem dX9_seal_12 : decode cX9_seal 12 = .ok (.iload_n 1, 1) := by decide +kernel
theorem dX9_seal_13 : decode cX9_seal 13 = .ok (.aload_n 0, 1) := by decide +kernel
theorem dX9_seal_14 : decode cX9_seal 14 = .ok (.getfield 50, 3) := by decide +kernel
theorem dX9_seal_17 : decode cX9_seal 17 = .ok (.if_icmp .ge 19, 3) := by decide +kernel
theorem dX9_seal_20 : decode cX9_seal 20 = .ok (.aload_n 0, 1) := by decide +kernel
theorem dX9_seal_21 : decode cX9_seal 21 = .ok (.iload_n 1, 1) := by decide +kernel
theorem dX9_seal_22 : decode cX9_seal 22 = .ok (.invokevirtual 131, 3) := by decide +kernel
theorem dX9_seal_25 : decode cX9_seal 25 = .ok (.ifCond .ne 5, 3) := by decide +kernel
theorem dX9_seal_28 : decode cX9_seal 28 = .ok (.iconst 1, 1) := by decide +kernel
theorem dX9_seal_29 : decode cX9_seal 29 = .ok (.ireturn, 1) := by decide +kernel
theorem dX9_seal_30 : decode cX9_seal 30 = .ok (.iinc 1 1, 3) := by decide +kernel
theorem dX9_seal_33 : decode cX9_seal 33 = .ok (.goto (-21), 3) := by decide +kernel
theorem dX9_seal_36 : decode cX9_seal 36 = .ok (.aload_n 0, 1) := by decide +kernel
theorem dX9_seal_37 : decode cX9_seal 37 = .ok (.invokevirtual 134, 3) := by decide +kernel
theorem dX9_seal_40 : decode cX9_seal 40 = .ok (.ifCond .ne 5, 3) := by decide +kernel
theorem dX9_seal_43 : decode cX9_seal 43 = .ok (.iconst 2, 1) := by decide +kernel
theorem dX9_seal_44 : decode cX9_seal 44 = .ok (.ireturn, 1) := by decide +kernel
theorem dX9_seal_45 : decode cX9_seal 45 = .ok (.aload_n 0, 1) := by decide +kernel
theorem dX9_seal_46 : decode cX9_seal 46 = .ok (.invokevirtual 137, 3) := by decide +kernel
theorem dX9_seal_49 : decode cX9_seal 49 = .ok (.ifCond .ne 5, 3) := by decide +kernel
theorem dX9_seal_52 : decode cX9_seal 52 = .ok (.iconst 3, 1) := by decide +kernel
theorem dX9_seal_53 : decode cX9_seal 53 = .ok (.ireturn, 1) := by decide +kernel
theorem dX9_seal_54 : decode cX9_seal 54 = .ok (.aload_n 0, 1) := by decide +kernel
theorem dX9_seal_55 : decode cX9_seal 55 = .ok (.iconst 1, 1) := by decide +kernel
theorem dX9_seal_56 : decode cX9_seal 56 = .ok (.putfield 62, 3) := by decide +kernel
theorem dX9_seal_59 : decode cX9_seal 59 = .ok (.iconst 0, 1) := by decide +kernel
theorem dX9_seal_60 : decode cX9_seal 60 = .ok (.istore_n 1, 1) := by decide +kernel
theorem dX9_seal_61 : decode cX9_seal 61 = .ok (.iload_n 1, 1) := by decide +kernel
theorem dX9_seal_62 : decode cX9_seal 62 = .ok (.bipush 6, 2) := by decide +kernel
theorem dX9_seal_64 : decode cX9_seal 64 = .ok (.if_icmp .ge 21, 3) := by decide +kernel
theorem dX9_seal_67 : decode cX9_seal 67 = .ok (.aload_n 0, 1) := by decide +kernel
theorem dX9_seal_68 : decode cX9_seal 68 = .ok (.getfield 37, 3) := by decide +kernel
theorem dX9_seal_71 : decode cX9_seal 71 = .ok (.iload_n 1, 1) := by decide +kernel
theorem dX9_seal_72 : decode cX9_seal 72 = .ok (.aload_n 0, 1) := by decide +kernel
theorem dX9_seal_73 : decode cX9_seal 73 = .ok (.getfield 7, 3) := by decide +kernel
theorem dX9_seal_76 : decode cX9_seal 76 = .ok (.iload_n 1, 1) := by decide +kernel
theorem dX9_seal_77 : decode cX9_seal 77 = .ok (.iaload, 1) := by decide +kernel
theorem dX9_seal_78 : decode cX9_seal 78 = .ok (.iastore, 1) := by decide +kernel
theorem dX9_seal_79 : decode cX9_seal 79 = .ok (.iinc 1 1, 3) := by decide +kernel
theorem dX9_seal_82 : decode cX9_seal 82 = .ok (.goto (-21), 3) := by decide +kernel
theorem dX9_seal_85 : decode cX9_seal 85 = .ok (.aload_n 0, 1) := by decide +kernel
theorem dX9_seal_86 : decode cX9_seal 86 = .ok (.iconst (-1), 1) := by decide +kernel
theorem dX9_seal_87 : decode cX9_seal 87 = .ok (.invokevirtual 140, 3) := by decide +kernel
theorem dX9_seal_90 : decode cX9_seal 90 = .ok (.iconst 0, 1) := by decide +kernel
theorem dX9_seal_91 : decode cX9_seal 91 = .ok (.ireturn, 1) := by decide +kernel
theorem dX9_expand_0 : decode cX9_expand 0 = .ok (.iconst 0, 1) := by decide +kernel
theorem dX9_expand_1 : decode cX9_expand 1 = .ok (.istore_n 1, 1) := by decide +kernel
theorem dX9_expand_2 : decode cX9_expand 2 = .ok (.iload_n 1, 1) := by decide +kernel
theorem dX9_expand_3 : decode cX9_expand 3 = .ok (.aload_n 0, 1) := by decide +kernel
theorem dX9_expand_4 : decode cX9_expand 4 = .ok (.getfield 50, 3) := by decide +kernel
theorem dX9_expand_7 : decode cX9_expand 7 = .ok (.if_icmp .ge 89, 3) := by decide +kernel
theorem dX9_expand_10 : decode cX9_expand 10 = .ok (.aload_n 0, 1) := by decide +kernel
theorem dX9_expand_11 : decode cX9_expand 11 = .ok (.getfield 46, 3) := by decide +kernel
theorem dX9_expand_14 : decode cX9_expand 14 = .ok (.ifCond .ge 82, 3) := by decide +kernel
theorem dX9_expand_17 : decode cX9_expand 17 = .ok (.iconst 0, 1) := by decide +kernel
theorem dX9_expand_18 : decode cX9_expand 18 = .ok (.istore_n 2, 1) := by decide +kernel
theorem dX9_expand_19 : decode cX9_expand 19 = .ok (.iload_n 2, 1) := by decide +kernel
theorem dX9_expand_20 : decode cX9_expand 20 = .ok (.bipush 6, 2) := by decide +kernel
theorem dX9_expand_22 : decode cX9_expand 22 = .ok (.if_icmp .ge 29, 3) := by decide +kernel
theorem dX9_expand_25 : decode cX9_expand 25 = .ok (.aload_n 0, 1) := by decide +kernel
theorem dX9_expand_26 : decode cX9_expand 26 = .ok (.getfield 34, 3) := by decide +kernel
theorem dX9_expand_29 : decode cX9_expand 29 = .ok (.iload_n 2, 1) := by decide +kernel
theorem dX9_expand_30 : decode cX9_expand 30 = .ok (.aload_n 0, 1) := by decide +kernel
theorem dX9_expand_31 : decode cX9_expand 31 = .ok (.getfield 28, 3) := by decide +kernel
theorem dX9_expand_34 : decode cX9_expand 34 = .ok (.bipush 6, 2) := by decide +kernel
theorem dX9_expand_36 : decode cX9_expand 36 = .ok (.aload_n 0, 1) := by decide +kernel
theorem dX9_expand_37 : decode cX9_expand 37 = .ok (.getfield 59, 3) := by decide +kernel
theorem dX9_expand_40 : decode cX9_expand 40 = .ok (.imul, 1) := by decide +kernel
theorem dX9_expand_41 : decode cX9_expand 41 = .ok (.iload_n 2, 1) := by decide +kernel
theorem dX9_expand_42 : decode cX9_expand 42 = .ok (.iadd, 1) := by decide +kernel
theorem dX9_expand_43 : decode cX9_expand 43 = .ok (.iaload, 1) := by decide +kernel
theorem dX9_expand_44 : decode cX9_expand 44 = .ok (.iastore, 1) := by decide +kernel
theorem dX9_expand_45 : decode cX9_expand 45 = .ok (.iinc 2 1, 3) := by decide +kernel
theorem dX9_expand_48 : decode cX9_expand 48 = .ok (.goto (-29), 3) := by decide +kernel
theorem dX9_expand_51 : decode cX9_expand 51 = .ok (.aload_n 0, 1) := by decide +kernel
theorem dX9_expand_52 : decode cX9_expand 52 = .ok (.iload_n 1, 1) := by decide +kernel
theorem dX9_expand_53 : decode cX9_expand 53 = .ok (.invokevirtual 144, 3) := by decide +kernel
theorem dX9_expand_56 : decode cX9_expand 56 = .ok (.ifCond .eq 34, 3) := by decide +kernel
theorem dX9_expand_59 : decode cX9_expand 59 = .ok (.aload_n 0, 1) := by decide +kernel
theorem dX9_expand_60 : decode cX9_expand 60 = .ok (.invokevirtual 147, 3) := by decide +kernel
theorem dX9_expand_63 : decode cX9_expand 63 = .ok (.ifCond .ne 27, 3) := by decide +kernel
theorem dX9_expand_66 : decode cX9_expand 66 = .ok (.aload_n 0, 1) := by decide +kernel
theorem dX9_expand_67 : decode cX9_expand 67 = .ok (.getfield 56, 3) := by decide +kernel
theorem dX9_expand_70 : decode cX9_expand 70 = .ok (.sipush 400, 3) := by decide +kernel
theorem dX9_expand_73 : decode cX9_expand 73 = .ok (.if_icmp .ne 9, 3) := by decide +kernel
theorem dX9_expand_76 : decode cX9_expand 76 = .ok (.aload_n 0, 1) := by decide +kernel
theorem dX9_expand_77 : decode cX9_expand 77 = .ok (.iconst 1, 1) := by decide +kernel
theorem dX9_expand_78 : decode cX9_expand 78 = .ok (.putfield 66, 3) := by decide +kernel
theorem dX9_expand_81 : decode cX9_expand 81 = .ok (.return_, 1) := by decide +kernel
theorem dX9_expand_82 : decode cX9_expand 82 = .ok (.aload_n 0, 1) := by decide +kernel
theorem dX9_expand_83 : decode cX9_expand 83 = .ok (.aload_n 0, 1) := by decide +kernel
theorem dX9_expand_84 : decode cX9_expand 84 = .ok (.getfield 59, 3) := by decide +kernel
theorem dX9_expand_87 : decode cX9_expand 87 = .ok (.invokevirtual 140, 3) := by decide +kernel
theorem dX9_expand_90 : decode cX9_expand 90 = .ok (.iinc 1 1, 3) := by decide +kernel
theorem dX9_expand_93 : decode cX9_expand 93 = .ok (.goto (-91), 3) := by decide +kernel
theorem dX9_expand_96 : decode cX9_expand 96 = .ok (.aload_n 0, 1) := by decide +kernel
theorem dX9_expand_97 : decode cX9_expand 97 = .ok (.dup, 1) := by decide +kernel
theorem dX9_expand_98 : decode cX9_expand 98 = .ok (.getfield 59, 3) := by decide +kernel
theorem dX9_expand_101 : decode cX9_expand 101 = .ok (.iconst 1, 1) := by decide +kernel
theorem dX9_expand_102 : decode cX9_expand 102 = .ok (.iadd, 1) := by decide +kernel
theorem dX9_expand_103 : decode cX9_expand 103 = .ok (.putfield 59, 3) := by decide +kernel
theorem dX9_expand_106 : decode cX9_expand 106 = .ok (.return_, 1) := by decide +kernel
theorem dX9_explore_0 : decode cX9_explore 0 = .ok (.aload_n 0, 1) := by decide +kernel
theorem dX9_explore_1 : decode cX9_explore 1 = .ok (.getfield 62, 3) := by decide +kernel
theorem dX9_explore_4 : decode cX9_explore 4 = .ok (.ifCond .ne 6, 3) := by decide +kernel
theorem dX9_explore_7 : decode cX9_explore 7 = .ok (.bipush (-2), 2) := by decide +kernel
theorem dX9_explore_9 : decode cX9_explore 9 = .ok (.ireturn, 1) := by decide +kernel
theorem dX9_explore_10 : decode cX9_explore 10 = .ok (.iconst 0, 1) := by decide +kernel
theorem dX9_explore_11 : decode cX9_explore 11 = .ok (.istore_n 2, 1) := by decide +kernel
theorem dX9_explore_12 : decode cX9_explore 12 = .ok (.iload_n 2, 1) := by decide +kernel
theorem dX9_explore_13 : decode cX9_explore 13 = .ok (.iload_n 1, 1) := by decide +kernel
theorem dX9_explore_14 : decode cX9_explore 14 = .ok (.if_icmp .ge 38, 3) := by decide +kernel
theorem dX9_explore_17 : decode cX9_explore 17 = .ok (.aload_n 0, 1) := by decide +kernel
theorem dX9_explore_18 : decode cX9_explore 18 = .ok (.getfield 66, 3) := by decide +kernel
theorem dX9_explore_21 : decode cX9_explore 21 = .ok (.ifCond .ne 31, 3) := by decide +kernel
theorem dX9_explore_24 : decode cX9_explore 24 = .ok (.aload_n 0, 1) := by decide +kernel
theorem dX9_explore_25 : decode cX9_explore 25 = .ok (.getfield 46, 3) := by decide +kernel
theorem dX9_explore_28 : decode cX9_explore 28 = .ok (.ifCond .ge 24, 3) := by decide +kernel
theorem dX9_explore_31 : decode cX9_explore 31 = .ok (.aload_n 0, 1) := by decide +kernel
theorem dX9_explore_32 : decode cX9_explore 32 = .ok (.getfield 59, 3) := by decide +kernel
theorem dX9_explore_35 : decode cX9_explore 35 = .ok (.aload_n 0, 1) := by decide +kernel
theorem dX9_explore_36 : decode cX9_explore 36 = .ok (.getfield 56, 3) := by decide +kernel
theorem dX9_explore_39 : decode cX9_explore 39 = .ok (.if_icmp .ge 13, 3) := by decide +kernel
theorem dX9_explore_42 : decode cX9_explore 42 = .ok (.aload_n 0, 1) := by decide +kernel
theorem dX9_explore_43 : decode cX9_explore 43 = .ok (.invokevirtual 150, 3) := by decide +kernel
theorem dX9_explore_46 : decode cX9_explore 46 = .ok (.iinc 2 1, 3) := by decide +kernel
theorem dX9_explore_49 : decode cX9_explore 49 = .ok (.goto (-37), 3) := by decide +kernel
theorem dX9_explore_52 : decode cX9_explore 52 = .ok (.aload_n 0, 1) := by decide +kernel
theorem dX9_explore_53 : decode cX9_explore 53 = .ok (.getfield 66, 3) := by decide +kernel
theorem dX9_explore_56 : decode cX9_explore 56 = .ok (.ifCond .eq 8, 3) := by decide +kernel
theorem dX9_explore_59 : decode cX9_explore 59 = .ok (.bipush (-5), 2) := by decide +kernel
theorem dX9_explore_61 : decode cX9_explore 61 = .ok (.goto 26, 3) := by decide +kernel
theorem dX9_explore_64 : decode cX9_explore 64 = .ok (.aload_n 0, 1) := by decide +kernel
theorem dX9_explore_65 : decode cX9_explore 65 = .ok (.getfield 46, 3) := by decide +kernel
theorem dX9_explore_68 : decode cX9_explore 68 = .ok (.ifCond .ge 14, 3) := by decide +kernel
theorem dX9_explore_71 : decode cX9_explore 71 = .ok (.aload_n 0, 1) := by decide +kernel
theorem dX9_explore_72 : decode cX9_explore 72 = .ok (.getfield 59, 3) := by decide +kernel
theorem dX9_explore_75 : decode cX9_explore 75 = .ok (.aload_n 0, 1) := by decide +kernel
theorem dX9_explore_76 : decode cX9_explore 76 = .ok (.getfield 56, 3) := by decide +kernel
theorem dX9_explore_79 : decode cX9_explore 79 = .ok (.if_icmp .ne 7, 3) := by decide +kernel
theorem dX9_explore_82 : decode cX9_explore 82 = .ok (.iconst 0, 1) := by decide +kernel
theorem dX9_explore_83 : decode cX9_explore 83 = .ok (.goto 4, 3) := by decide +kernel
theorem dX9_explore_86 : decode cX9_explore 86 = .ok (.iconst 1, 1) := by decide +kernel
theorem dX9_explore_87 : decode cX9_explore 87 = .ok (.ireturn, 1) := by decide +kernel
theorem dX9_verdict_0 : decode cX9_verdict 0 = .ok (.aload_n 0, 1) := by decide +kernel
theorem dX9_verdict_1 : decode cX9_verdict 1 = .ok (.getfield 46, 3) := by decide +kernel
theorem dX9_verdict_4 : decode cX9_verdict 4 = .ok (.ifCond .lt 7, 3) := by decide +kernel
theorem dX9_verdict_7 : decode cX9_verdict 7 = .ok (.iconst 2, 1) := by decide +kernel
theorem dX9_verdict_8 : decode cX9_verdict 8 = .ok (.goto 33, 3) := by decide +kernel
theorem dX9_verdict_11 : decode cX9_verdict 11 = .ok (.aload_n 0, 1) := by decide +kernel
theorem dX9_verdict_12 : decode cX9_verdict 12 = .ok (.getfield 62, 3) := by decide +kernel
theorem dX9_verdict_15 : decode cX9_verdict 15 = .ok (.ifCond .eq 25, 3) := by decide +kernel
theorem dX9_verdict_18 : decode cX9_verdict 18 = .ok (.aload_n 0, 1) := by decide +kernel
theorem dX9_verdict_19 : decode cX9_verdict 19 = .ok (.getfield 66, 3) := by decide +kernel
theorem dX9_verdict_22 : decode cX9_verdict 22 = .ok (.ifCond .ne 18, 3) := by decide +kernel
theorem dX9_verdict_25 : decode cX9_verdict 25 = .ok (.aload_n 0, 1) := by decide +kernel
theorem dX9_verdict_26 : decode cX9_verdict 26 = .ok (.getfield 59, 3) := by decide +kernel
theorem dX9_verdict_29 : decode cX9_verdict 29 = .ok (.aload_n 0, 1) := by decide +kernel
theorem dX9_verdict_30 : decode cX9_verdict 30 = .ok (.getfield 56, 3) := by decide +kernel
theorem dX9_verdict_33 : decode cX9_verdict 33 = .ok (.if_icmp .ne 7, 3) := by decide +kernel
theorem dX9_verdict_36 : decode cX9_verdict 36 = .ok (.iconst 1, 1) := by decide +kernel
theorem dX9_verdict_37 : decode cX9_verdict 37 = .ok (.goto 4, 3) := by decide +kernel
theorem dX9_verdict_40 : decode cX9_verdict 40 = .ok (.iconst 0, 1) := by decide +kernel
theorem dX9_verdict_41 : decode cX9_verdict 41 = .ok (.ireturn, 1) := by decide +kernel
theorem dX9_stateCount_0 : decode cX9_stateCount 0 = .ok (.aload_n 0, 1) := by decide +kernel
theorem dX9_stateCount_1 : decode cX9_stateCount 1 = .ok (.getfield 56, 3) := by decide +kernel
theorem dX9_stateCount_4 : decode cX9_stateCount 4 = .ok (.ireturn, 1) := by decide +kernel
theorem dX9_traceLen_0 : decode cX9_traceLen 0 = .ok (.iconst (-1), 1) := by decide +kernel
theorem dX9_traceLen_1 : decode cX9_traceLen 1 = .ok (.istore_n 1, 1) := by decide +kernel
theorem dX9_traceLen_2 : decode cX9_traceLen 2 = .ok (.aload_n 0, 1) := by decide +kernel
theorem dX9_traceLen_3 : decode cX9_traceLen 3 = .ok (.getfield 46, 3) := by decide +kernel
theorem dX9_traceLen_6 : decode cX9_traceLen 6 = .ok (.istore_n 2, 1) := by decide +kernel
theorem dX9_traceLen_7 : decode cX9_traceLen 7 = .ok (.iconst 0, 1) := by decide +kernel
theorem dX9_traceLen_8 : decode cX9_traceLen 8 = .ok (.istore_n 3, 1) := by decide +kernel
theorem dX9_traceLen_9 : decode cX9_traceLen 9 = .ok (.iload_n 3, 1) := by decide +kernel
theorem dX9_traceLen_10 : decode cX9_traceLen 10 = .ok (.sipush 400, 3) := by decide +kernel
theorem dX9_traceLen_13 : decode cX9_traceLen 13 = .ok (.if_icmp .ge 23, 3) := by decide +kernel
theorem dX9_traceLen_16 : decode cX9_traceLen 16 = .ok (.iload_n 2, 1) := by decide +kernel
theorem dX9_traceLen_17 : decode cX9_traceLen 17 = .ok (.ifCond .lt 19, 3) := by decide +kernel
theorem dX9_traceLen_20 : decode cX9_traceLen 20 = .ok (.iinc 1 1, 3) := by decide +kernel
theorem dX9_traceLen_23 : decode cX9_traceLen 23 = .ok (.aload_n 0, 1) := by decide +kernel
theorem dX9_traceLen_24 : decode cX9_traceLen 24 = .ok (.getfield 31, 3) := by decide +kernel
theorem dX9_traceLen_27 : decode cX9_traceLen 27 = .ok (.iload_n 2, 1) := by decide +kernel
theorem dX9_traceLen_28 : decode cX9_traceLen 28 = .ok (.iaload, 1) := by decide +kernel
theorem dX9_traceLen_29 : decode cX9_traceLen 29 = .ok (.istore_n 2, 1) := by decide +kernel
theorem dX9_traceLen_30 : decode cX9_traceLen 30 = .ok (.iinc 3 1, 3) := by decide +kernel
theorem dX9_traceLen_33 : decode cX9_traceLen 33 = .ok (.goto (-24), 3) := by decide +kernel
theorem dX9_traceLen_36 : decode cX9_traceLen 36 = .ok (.iload_n 1, 1) := by decide +kernel
theorem dX9_traceLen_37 : decode cX9_traceLen 37 = .ok (.ireturn, 1) := by decide +kernel
theorem dX9_onWay_0 : decode cX9_onWay 0 = .ok (.aload_n 0, 1) := by decide +kernel
theorem dX9_onWay_1 : decode cX9_onWay 1 = .ok (.getfield 46, 3) := by decide +kernel
theorem dX9_onWay_4 : decode cX9_onWay 4 = .ok (.istore_n 2, 1) := by decide +kernel
theorem dX9_onWay_5 : decode cX9_onWay 5 = .ok (.aload_n 0, 1) := by decide +kernel
theorem dX9_onWay_6 : decode cX9_onWay 6 = .ok (.invokevirtual 153, 3) := by decide +kernel
theorem dX9_onWay_9 : decode cX9_onWay 9 = .ok (.istore_n 3, 1) := by decide +kernel
theorem dX9_onWay_10 : decode cX9_onWay 10 = .ok (.iload_n 3, 1) := by decide +kernel
theorem dX9_onWay_11 : decode cX9_onWay 11 = .ok (.iload_n 1, 1) := by decide +kernel
theorem dX9_onWay_12 : decode cX9_onWay 12 = .ok (.if_icmp .le 16, 3) := by decide +kernel
theorem dX9_onWay_15 : decode cX9_onWay 15 = .ok (.aload_n 0, 1) := by decide +kernel
theorem dX9_onWay_16 : decode cX9_onWay 16 = .ok (.getfield 31, 3) := by decide +kernel
theorem dX9_onWay_19 : decode cX9_onWay 19 = .ok (.iload_n 2, 1) := by decide +kernel
theorem dX9_onWay_20 : decode cX9_onWay 20 = .ok (.iaload, 1) := by decide +kernel
theorem dX9_onWay_21 : decode cX9_onWay 21 = .ok (.istore_n 2, 1) := by decide +kernel
theorem dX9_onWay_22 : decode cX9_onWay 22 = .ok (.iinc 3 (-1), 3) := by decide +kernel
theorem dX9_onWay_25 : decode cX9_onWay 25 = .ok (.goto (-15), 3) := by decide +kernel
theorem dX9_onWay_28 : decode cX9_onWay 28 = .ok (.iload_n 2, 1) := by decide +kernel
theorem dX9_onWay_29 : decode cX9_onWay 29 = .ok (.ireturn, 1) := by decide +kernel
theorem dX9_fired_0 : decode cX9_fired 0 = .ok (.aload_n 0, 1) := by decide +kernel
theorem dX9_fired_1 : decode cX9_fired 1 = .ok (.iload_n 1, 1) := by decide +kernel
theorem dX9_fired_2 : decode cX9_fired 2 = .ok (.iconst 1, 1) := by decide +kernel
theorem dX9_fired_3 : decode cX9_fired 3 = .ok (.iadd, 1) := by decide +kernel
theorem dX9_fired_4 : decode cX9_fired 4 = .ok (.invokevirtual 157, 3) := by decide +kernel
theorem dX9_fired_7 : decode cX9_fired 7 = .ok (.istore_n 2, 1) := by decide +kernel
theorem dX9_fired_8 : decode cX9_fired 8 = .ok (.iconst 0, 1) := by decide +kernel
theorem dX9_fired_9 : decode cX9_fired 9 = .ok (.istore_n 3, 1) := by decide +kernel
theorem dX9_fired_10 : decode cX9_fired 10 = .ok (.iload_n 3, 1) := by decide +kernel
theorem dX9_fired_11 : decode cX9_fired 11 = .ok (.aload_n 0, 1) := by decide +kernel
theorem dX9_fired_12 : decode cX9_fired 12 = .ok (.getfield 50, 3) := by decide +kernel
theorem dX9_fired_15 : decode cX9_fired 15 = .ok (.if_icmp .ge 31, 3) := by decide +kernel
theorem dX9_fired_18 : decode cX9_fired 18 = .ok (.aload_n 0, 1) := by decide +kernel
theorem dX9_fired_19 : decode cX9_fired 19 = .ok (.iload_n 3, 1) := by decide +kernel
theorem dX9_fired_20 : decode cX9_fired 20 = .ok (.invokevirtual 144, 3) := by decide +kernel
theorem dX9_fired_23 : decode cX9_fired 23 = .ok (.ifCond .eq 17, 3) := by decide +kernel
theorem dX9_fired_26 : decode cX9_fired 26 = .ok (.aload_n 0, 1) := by decide +kernel
theorem dX9_fired_27 : decode cX9_fired 27 = .ok (.invokevirtual 121, 3) := by decide +kernel
theorem dX9_fired_30 : decode cX9_fired 30 = .ok (.aload_n 0, 1) := by decide +kernel
theorem dX9_fired_31 : decode cX9_fired 31 = .ok (.iload_n 2, 1) := by decide +kernel
theorem dX9_fired_32 : decode cX9_fired 32 = .ok (.invokevirtual 124, 3) := by decide +kernel
theorem dX9_fired_35 : decode cX9_fired 35 = .ok (.ifCond .eq 5, 3) := by decide +kernel
theorem dX9_fired_38 : decode cX9_fired 38 = .ok (.iload_n 3, 1) := by decide +kernel
theorem dX9_fired_39 : decode cX9_fired 39 = .ok (.ireturn, 1) := by decide +kernel
theorem dX9_fired_40 : decode cX9_fired 40 = .ok (.iinc 3 1, 3) := by decide +kernel
theorem dX9_fired_43 : decode cX9_fired 43 = .ok (.goto (-33), 3) := by decide +kernel
theorem dX9_fired_46 : decode cX9_fired 46 = .ok (.iconst (-1), 1) := by decide +kernel
theorem dX9_fired_47 : decode cX9_fired 47 = .ok (.ireturn, 1) := by decide +kernel
theorem dX9_follow_0 : decode cX9_follow 0 = .ok (.iconst 0, 1) := by decide +kernel
theorem dX9_follow_1 : decode cX9_follow 1 = .ok (.istore_n 2, 1) := by decide +kernel
theorem dX9_follow_2 : decode cX9_follow 2 = .ok (.iload_n 2, 1) := by decide +kernel
theorem dX9_follow_3 : decode cX9_follow 3 = .ok (.bipush 6, 2) := by decide +kernel
theorem dX9_follow_5 : decode cX9_follow 5 = .ok (.if_icmp .ge 21, 3) := by decide +kernel
theorem dX9_follow_8 : decode cX9_follow 8 = .ok (.aload_n 0, 1) := by decide +kernel
theorem dX9_follow_9 : decode cX9_follow 9 = .ok (.getfield 34, 3) := by decide +kernel
theorem dX9_follow_12 : decode cX9_follow 12 = .ok (.iload_n 2, 1) := by decide +kernel
theorem dX9_follow_13 : decode cX9_follow 13 = .ok (.aload_n 0, 1) := by decide +kernel
theorem dX9_follow_14 : decode cX9_follow 14 = .ok (.getfield 7, 3) := by decide +kernel
theorem dX9_follow_17 : decode cX9_follow 17 = .ok (.iload_n 2, 1) := by decide +kernel
theorem dX9_follow_18 : decode cX9_follow 18 = .ok (.iaload, 1) := by decide +kernel
theorem dX9_follow_19 : decode cX9_follow 19 = .ok (.iastore, 1) := by decide +kernel
theorem dX9_follow_20 : decode cX9_follow 20 = .ok (.iinc 2 1, 3) := by decide +kernel
theorem dX9_follow_23 : decode cX9_follow 23 = .ok (.goto (-21), 3) := by decide +kernel
theorem dX9_follow_26 : decode cX9_follow 26 = .ok (.iconst 0, 1) := by decide +kernel
theorem dX9_follow_27 : decode cX9_follow 27 = .ok (.istore_n 2, 1) := by decide +kernel
theorem dX9_follow_28 : decode cX9_follow 28 = .ok (.iload_n 2, 1) := by decide +kernel
theorem dX9_follow_29 : decode cX9_follow 29 = .ok (.iload_n 1, 1) := by decide +kernel
theorem dX9_follow_30 : decode cX9_follow 30 = .ok (.if_icmp .ge 45, 3) := by decide +kernel
theorem dX9_follow_33 : decode cX9_follow 33 = .ok (.aload_n 0, 1) := by decide +kernel
theorem dX9_follow_34 : decode cX9_follow 34 = .ok (.iload_n 2, 1) := by decide +kernel
theorem dX9_follow_35 : decode cX9_follow 35 = .ok (.invokevirtual 160, 3) := by decide +kernel
theorem dX9_follow_38 : decode cX9_follow 38 = .ok (.istore_n 3, 1) := by decide +kernel
theorem dX9_follow_39 : decode cX9_follow 39 = .ok (.iconst 0, 1) := by decide +kernel
theorem dX9_follow_40 : decode cX9_follow 40 = .ok (.istore 4, 2) := by decide +kernel
theorem dX9_follow_42 : decode cX9_follow 42 = .ok (.iload 4, 2) := by decide +kernel
theorem dX9_follow_44 : decode cX9_follow 44 = .ok (.bipush 6, 2) := by decide +kernel
theorem dX9_follow_46 : decode cX9_follow 46 = .ok (.if_icmp .ge 23, 3) := by decide +kernel
theorem dX9_follow_49 : decode cX9_follow 49 = .ok (.aload_n 0, 1) := by decide +kernel
theorem dX9_follow_50 : decode cX9_follow 50 = .ok (.getfield 34, 3) := by decide +kernel
theorem dX9_follow_53 : decode cX9_follow 53 = .ok (.iload 4, 2) := by decide +kernel
theorem dX9_follow_55 : decode cX9_follow 55 = .ok (.aload_n 0, 1) := by decide +kernel
theorem dX9_follow_56 : decode cX9_follow 56 = .ok (.getfield 37, 3) := by decide +kernel
theorem dX9_follow_59 : decode cX9_follow 59 = .ok (.iload 4, 2) := by decide +kernel
theorem dX9_follow_61 : decode cX9_follow 61 = .ok (.iaload, 1) := by decide +kernel
theorem dX9_follow_62 : decode cX9_follow 62 = .ok (.iastore, 1) := by decide +kernel
theorem dX9_follow_63 : decode cX9_follow 63 = .ok (.iinc 4 1, 3) := by decide +kernel
theorem dX9_follow_66 : decode cX9_follow 66 = .ok (.goto (-24), 3) := by decide +kernel
theorem dX9_follow_69 : decode cX9_follow 69 = .ok (.iinc 2 1, 3) := by decide +kernel
theorem dX9_follow_72 : decode cX9_follow 72 = .ok (.goto (-44), 3) := by decide +kernel
theorem dX9_follow_75 : decode cX9_follow 75 = .ok (.return_, 1) := by decide +kernel
theorem dX9_traceRule_0 : decode cX9_traceRule 0 = .ok (.iload_n 1, 1) := by decide +kernel
theorem dX9_traceRule_1 : decode cX9_traceRule 1 = .ok (.ifCond .lt 11, 3) := by decide +kernel
theorem dX9_traceRule_4 : decode cX9_traceRule 4 = .ok (.iload_n 1, 1) := by decide +kernel
theorem dX9_traceRule_5 : decode cX9_traceRule 5 = .ok (.aload_n 0, 1) := by decide +kernel
theorem dX9_traceRule_6 : decode cX9_traceRule 6 = .ok (.invokevirtual 153, 3) := by decide +kernel
theorem dX9_traceRule_9 : decode cX9_traceRule 9 = .ok (.if_icmp .lt 5, 3) := by decide +kernel
theorem dX9_traceRule_12 : decode cX9_traceRule 12 = .ok (.iconst (-1), 1) := by decide +kernel
theorem dX9_traceRule_13 : decode cX9_traceRule 13 = .ok (.ireturn, 1) := by decide +kernel
theorem dX9_traceRule_14 : decode cX9_traceRule 14 = .ok (.aload_n 0, 1) := by decide +kernel
theorem dX9_traceRule_15 : decode cX9_traceRule 15 = .ok (.iload_n 1, 1) := by decide +kernel
theorem dX9_traceRule_16 : decode cX9_traceRule 16 = .ok (.invokevirtual 163, 3) := by decide +kernel
theorem dX9_traceRule_19 : decode cX9_traceRule 19 = .ok (.aload_n 0, 1) := by decide +kernel
theorem dX9_traceRule_20 : decode cX9_traceRule 20 = .ok (.iload_n 1, 1) := by decide +kernel
theorem dX9_traceRule_21 : decode cX9_traceRule 21 = .ok (.invokevirtual 160, 3) := by decide +kernel
theorem dX9_traceRule_24 : decode cX9_traceRule 24 = .ok (.ireturn, 1) := by decide +kernel
theorem dX9_traceVar_0 : decode cX9_traceVar 0 = .ok (.iload_n 1, 1) := by decide +kernel
theorem dX9_traceVar_1 : decode cX9_traceVar 1 = .ok (.ifCond .lt 18, 3) := by decide +kernel
theorem dX9_traceVar_4 : decode cX9_traceVar 4 = .ok (.iload_n 1, 1) := by decide +kernel
theorem dX9_traceVar_5 : decode cX9_traceVar 5 = .ok (.aload_n 0, 1) := by decide +kernel
theorem dX9_traceVar_6 : decode cX9_traceVar 6 = .ok (.invokevirtual 153, 3) := by decide +kernel
theorem dX9_traceVar_9 : decode cX9_traceVar 9 = .ok (.if_icmp .gt 10, 3) := by decide +kernel
theorem dX9_traceVar_12 : decode cX9_traceVar 12 = .ok (.iload_n 2, 1) := by decide +kernel
theorem dX9_traceVar_13 : decode cX9_traceVar 13 = .ok (.invokestatic 69, 3) := by decide +kernel
theorem dX9_traceVar_16 : decode cX9_traceVar 16 = .ok (.ifCond .ne 5, 3) := by decide +kernel
theorem dX9_traceVar_19 : decode cX9_traceVar 19 = .ok (.iconst 0, 1) := by decide +kernel
theorem dX9_traceVar_20 : decode cX9_traceVar 20 = .ok (.ireturn, 1) := by decide +kernel
theorem dX9_traceVar_21 : decode cX9_traceVar 21 = .ok (.aload_n 0, 1) := by decide +kernel
theorem dX9_traceVar_22 : decode cX9_traceVar 22 = .ok (.iload_n 1, 1) := by decide +kernel
theorem dX9_traceVar_23 : decode cX9_traceVar 23 = .ok (.invokevirtual 163, 3) := by decide +kernel
theorem dX9_traceVar_26 : decode cX9_traceVar 26 = .ok (.aload_n 0, 1) := by decide +kernel
theorem dX9_traceVar_27 : decode cX9_traceVar 27 = .ok (.getfield 34, 3) := by decide +kernel
theorem dX9_traceVar_30 : decode cX9_traceVar 30 = .ok (.iload_n 2, 1) := by decide +kernel
theorem dX9_traceVar_31 : decode cX9_traceVar 31 = .ok (.iaload, 1) := by decide +kernel
theorem dX9_traceVar_32 : decode cX9_traceVar 32 = .ok (.ireturn, 1) := by decide +kernel
theorem dX9_replay_0 : decode cX9_replay 0 = .ok (.aload_n 0, 1) := by decide +kernel
theorem dX9_replay_1 : decode cX9_replay 1 = .ok (.getfield 46, 3) := by decide +kernel
theorem dX9_replay_4 : decode cX9_replay 4 = .ok (.ifCond .ge 5, 3) := by decide +kernel
theorem dX9_replay_7 : decode cX9_replay 7 = .ok (.iconst 0, 1) := by decide +kernel
theorem dX9_replay_8 : decode cX9_replay 8 = .ok (.ireturn, 1) := by decide +kernel
theorem dX9_replay_9 : decode cX9_replay 9 = .ok (.aload_n 0, 1) := by decide +kernel
theorem dX9_replay_10 : decode cX9_replay 10 = .ok (.aload_n 0, 1) := by decide +kernel
theorem dX9_replay_11 : decode cX9_replay 11 = .ok (.invokevirtual 153, 3) := by decide +kernel
theorem dX9_replay_14 : decode cX9_replay 14 = .ok (.invokevirtual 163, 3) := by decide +kernel
theorem dX9_replay_17 : decode cX9_replay 17 = .ok (.aload_n 0, 1) := by decide +kernel
theorem dX9_replay_18 : decode cX9_replay 18 = .ok (.invokevirtual 127, 3) := by decide +kernel
theorem dX9_replay_21 : decode cX9_replay 21 = .ok (.ifCond .eq 7, 3) := by decide +kernel
theorem dX9_replay_24 : decode cX9_replay 24 = .ok (.iconst 0, 1) := by decide +kernel
theorem dX9_replay_25 : decode cX9_replay 25 = .ok (.goto 4, 3) := by decide +kernel
theorem dX9_replay_28 : decode cX9_replay 28 = .ok (.iconst 1, 1) := by decide +kernel
theorem dX9_replay_29 : decode cX9_replay 29 = .ok (.ireturn, 1) := by decide +kernel
theorem dX9_probeVar_0 : decode cX9_probeVar 0 = .ok (.iload_n 1, 1) := by decide +kernel
theorem dX9_probeVar_1 : decode cX9_probeVar 1 = .ok (.invokestatic 69, 3) := by decide +kernel
theorem dX9_probeVar_4 : decode cX9_probeVar 4 = .ok (.ifCond .ne 5, 3) := by decide +kernel
theorem dX9_probeVar_7 : decode cX9_probeVar 7 = .ok (.iconst (-1), 1) := by decide +kernel
theorem dX9_probeVar_8 : decode cX9_probeVar 8 = .ok (.ireturn, 1) := by decide +kernel
theorem dX9_probeVar_9 : decode cX9_probeVar 9 = .ok (.aload_n 0, 1) := by decide +kernel
theorem dX9_probeVar_10 : decode cX9_probeVar 10 = .ok (.getfield 16, 3) := by decide +kernel
theorem dX9_probeVar_13 : decode cX9_probeVar 13 = .ok (.iload_n 1, 1) := by decide +kernel
theorem dX9_probeVar_14 : decode cX9_probeVar 14 = .ok (.iload_n 2, 1) := by decide +kernel
theorem dX9_probeVar_15 : decode cX9_probeVar 15 = .ok (.iastore, 1) := by decide +kernel
theorem dX9_probeVar_16 : decode cX9_probeVar 16 = .ok (.iconst 0, 1) := by decide +kernel
theorem dX9_probeVar_17 : decode cX9_probeVar 17 = .ok (.ireturn, 1) := by decide +kernel
theorem dX9_isReachable_0 : decode cX9_isReachable 0 = .ok (.aload_n 0, 1) := by decide +kernel
theorem dX9_isReachable_1 : decode cX9_isReachable 1 = .ok (.invokevirtual 166, 3) := by decide +kernel
theorem dX9_isReachable_4 : decode cX9_isReachable 4 = .ok (.iconst 1, 1) := by decide +kernel
theorem dX9_isReachable_5 : decode cX9_isReachable 5 = .ok (.if_icmp .eq 6, 3) := by decide +kernel
theorem dX9_isReachable_8 : decode cX9_isReachable 8 = .ok (.bipush (-6), 2) := by decide +kernel
theorem dX9_isReachable_10 : decode cX9_isReachable 10 = .ok (.ireturn, 1) := by decide +kernel
theorem dX9_isReachable_11 : decode cX9_isReachable 11 = .ok (.iconst 0, 1) := by decide +kernel
theorem dX9_isReachable_12 : decode cX9_isReachable 12 = .ok (.istore_n 1, 1) := by decide +kernel
theorem dX9_isReachable_13 : decode cX9_isReachable 13 = .ok (.iload_n 1, 1) := by decide +kernel
theorem dX9_isReachable_14 : decode cX9_isReachable 14 = .ok (.bipush 6, 2) := by decide +kernel
theorem dX9_isReachable_16 : decode cX9_isReachable 16 = .ok (.if_icmp .ge 21, 3) := by decide +kernel
theorem dX9_isReachable_19 : decode cX9_isReachable 19 = .ok (.aload_n 0, 1) := by decide +kernel
theorem dX9_isReachable_20 : decode cX9_isReachable 20 = .ok (.getfield 37, 3) := by decide +kernel
theorem dX9_isReachable_23 : decode cX9_isReachable 23 = .ok (.iload_n 1, 1) := by decide +kernel
theorem dX9_isReachable_24 : decode cX9_isReachable 24 = .ok (.aload_n 0, 1) := by decide +kernel
theorem dX9_isReachable_25 : decode cX9_isReachable 25 = .ok (.getfield 16, 3) := by decide +kernel
theorem dX9_isReachable_28 : decode cX9_isReachable 28 = .ok (.iload_n 1, 1) := by decide +kernel
theorem dX9_isReachable_29 : decode cX9_isReachable 29 = .ok (.iaload, 1) := by decide +kernel
theorem dX9_isReachable_30 : decode cX9_isReachable 30 = .ok (.iastore, 1) := by decide +kernel
theorem dX9_isReachable_31 : decode cX9_isReachable 31 = .ok (.iinc 1 1, 3) := by decide +kernel
theorem dX9_isReachable_34 : decode cX9_isReachable 34 = .ok (.goto (-21), 3) := by decide +kernel
theorem dX9_isReachable_37 : decode cX9_isReachable 37 = .ok (.aload_n 0, 1) := by decide +kernel
theorem dX9_isReachable_38 : decode cX9_isReachable 38 = .ok (.invokevirtual 147, 3) := by decide +kernel
theorem dX9_isReachable_41 : decode cX9_isReachable 41 = .ok (.ifCond .eq 7, 3) := by decide +kernel
theorem dX9_isReachable_44 : decode cX9_isReachable 44 = .ok (.iconst 1, 1) := by decide +kernel
theorem dX9_isReachable_45 : decode cX9_isReachable 45 = .ok (.goto 4, 3) := by decide +kernel
theorem dX9_isReachable_48 : decode cX9_isReachable 48 = .ok (.iconst 0, 1) := by decide +kernel
theorem dX9_isReachable_49 : decode cX9_isReachable 49 = .ok (.ireturn, 1) := by decide +kernel
end
section
theorem dL_law_0 : decode cL_law 0 = .ok (.new 7, 3) := by decide +kernel
theorem dL_law_3 : decode cL_law 3 = .ok (.dup, 1) := by decide +kernel
theorem dL_law_4 : decode cL_law 4 = .ok (.invokespecial 9, 3) := by decide +kernel
theorem dL_law_7 : decode cL_law 7 = .ok (.astore_n 1, 1) := by decide +kernel
theorem dL_law_8 : decode cL_law 8 = .ok (.new 10, 3) := by decide +kernel
theorem dL_law_11 : decode cL_law 11 = .ok (.dup, 1) := by decide +kernel
theorem dL_law_12 : decode cL_law 12 = .ok (.invokespecial 12, 3) := by decide +kernel
theorem dL_law_15 : decode cL_law 15 = .ok (.astore_n 2, 1) := by decide +kernel
theorem dL_law_16 : decode cL_law 16 = .ok (.iconst 0, 1) := by decide +kernel
theorem dL_law_17 : decode cL_law 17 = .ok (.istore_n 3, 1) := by decide +kernel
theorem dL_law_18 : decode cL_law 18 = .ok (.iload_n 3, 1) := by decide +kernel
theorem dL_law_19 : decode cL_law 19 = .ok (.aload_n 0, 1) := by decide +kernel
theorem dL_law_20 : decode cL_law 20 = .ok (.arraylength, 1) := by decide +kernel
theorem dL_law_21 : decode cL_law 21 = .ok (.iconst 3, 1) := by decide +kernel
theorem dL_law_22 : decode cL_law 22 = .ok (.isub, 1) := by decide +kernel
theorem dL_law_23 : decode cL_law 23 = .ok (.if_icmp .gt 421, 3) := by decide +kernel
theorem dL_law_26 : decode cL_law 26 = .ok (.aload_n 0, 1) := by decide +kernel
theorem dL_law_27 : decode cL_law 27 = .ok (.iload_n 3, 1) := by decide +kernel
theorem dL_law_28 : decode cL_law 28 = .ok (.iaload, 1) := by decide +kernel
theorem dL_law_29 : decode cL_law 29 = .ok (.bipush 15, 2) := by decide +kernel
theorem dL_law_31 : decode cL_law 31 = .ok (.iand, 1) := by decide +kernel
theorem dL_law_32 : decode cL_law 32 = .ok (.tableswitch 406 0 15 #[80, 91, 124, 157, 170, 193, 216, 229, 252, 265, 278, 291, 314, 347, 360, 393], 80) := by decide +kernel
theorem dL_law_112 : decode cL_law 112 = .ok (.aload_n 1, 1) := by decide +kernel
theorem dL_law_113 : decode cL_law 113 = .ok (.invokevirtual 13, 3) := by decide +kernel
theorem dL_law_116 : decode cL_law 116 = .ok (.aload_n 2, 1) := by decide +kernel
theorem dL_law_117 : decode cL_law 117 = .ok (.invokevirtual 16, 3) := by decide +kernel
theorem dL_law_120 : decode cL_law 120 = .ok (.goto 318, 3) := by decide +kernel
theorem dL_law_123 : decode cL_law 123 = .ok (.aload_n 1, 1) := by decide +kernel
theorem dL_law_124 : decode cL_law 124 = .ok (.aload_n 0, 1) := by decide +kernel
theorem dL_law_125 : decode cL_law 125 = .ok (.iload_n 3, 1) := by decide +kernel
theorem dL_law_126 : decode cL_law 126 = .ok (.iconst 1, 1) := by decide +kernel
theorem dL_law_127 : decode cL_law 127 = .ok (.iadd, 1) := by decide +kernel
theorem dL_law_128 : decode cL_law 128 = .ok (.iaload, 1) := by decide +kernel
theorem dL_law_129 : decode cL_law 129 = .ok (.aload_n 0, 1) := by decide +kernel
theorem dL_law_130 : decode cL_law 130 = .ok (.iload_n 3, 1) := by decide +kernel
theorem dL_law_131 : decode cL_law 131 = .ok (.iconst 2, 1) := by decide +kernel
theorem dL_law_132 : decode cL_law 132 = .ok (.iadd, 1) := by decide +kernel
theorem dL_law_133 : decode cL_law 133 = .ok (.iaload, 1) := by decide +kernel
theorem dL_law_134 : decode cL_law 134 = .ok (.invokevirtual 17, 3) := by decide +kernel
theorem dL_law_137 : decode cL_law 137 = .ok (.aload_n 2, 1) := by decide +kernel
theorem dL_law_138 : decode cL_law 138 = .ok (.aload_n 0, 1) := by decide +kernel
theorem dL_law_139 : decode cL_law 139 = .ok (.iload_n 3, 1) := by decide +kernel
theorem dL_law_140 : decode cL_law 140 = .ok (.iconst 1, 1) := by decide +kernel
theorem dL_law_141 : decode cL_law 141 = .ok (.iadd, 1) := by decide +kernel
theorem dL_law_142 : decode cL_law 142 = .ok (.iaload, 1) := by decide +kernel
theorem dL_law_143 : decode cL_law 143 = .ok (.aload_n 0, 1) := by decide +kernel
theorem dL_law_144 : decode cL_law 144 = .ok (.iload_n 3, 1) := by decide +kernel
theorem dL_law_145 : decode cL_law 145 = .ok (.iconst 2, 1) := by decide +kernel
theorem dL_law_146 : decode cL_law 146 = .ok (.iadd, 1) := by decide +kernel
theorem dL_law_147 : decode cL_law 147 = .ok (.iaload, 1) := by decide +kernel
theorem dL_law_148 : decode cL_law 148 = .ok (.invokevirtual 21, 3) := by decide +kernel
theorem dL_law_151 : decode cL_law 151 = .ok (.if_icmp .eq 287, 3) := by decide +kernel
theorem dL_law_154 : decode cL_law 154 = .ok (.iconst 0, 1) := by decide +kernel
theorem dL_law_155 : decode cL_law 155 = .ok (.ireturn, 1) := by decide +kernel
theorem dL_law_156 : decode cL_law 156 = .ok (.aload_n 1, 1) := by decide +kernel
theorem dL_law_157 : decode cL_law 157 = .ok (.aload_n 0, 1) := by decide +kernel
theorem dL_law_158 : decode cL_law 158 = .ok (.iload_n 3, 1) := by decide +kernel
theorem dL_law_159 : decode cL_law 159 = .ok (.iconst 1, 1) := by decide +kernel
theorem dL_law_160 : decode cL_law 160 = .ok (.iadd, 1) := by decide +kernel
theorem dL_law_161 : decode cL_law 161 = .ok (.iaload, 1) := by decide +kernel
theorem dL_law_162 : decode cL_law 162 = .ok (.aload_n 0, 1) := by decide +kernel
theorem dL_law_163 : decode cL_law 163 = .ok (.iload_n 3, 1) := by decide +kernel
theorem dL_law_164 : decode cL_law 164 = .ok (.iconst 2, 1) := by decide +kernel
theorem dL_law_165 : decode cL_law 165 = .ok (.iadd, 1) := by decide +kernel
theorem dL_law_166 : decode cL_law 166 = .ok (.iaload, 1) := by decide +kernel
theorem dL_law_167 : decode cL_law 167 = .ok (.invokevirtual 22, 3) := by decide +kernel
theorem dL_law_170 : decode cL_law 170 = .ok (.aload_n 2, 1) := by decide +kernel
theorem dL_law_171 : decode cL_law 171 = .ok (.aload_n 0, 1) := by decide +kernel
theorem dL_law_172 : decode cL_law 172 = .ok (.iload_n 3, 1) := by decide +kernel
theorem dL_law_173 : decode cL_law 173 = .ok (.iconst 1, 1) := by decide +kernel
theorem dL_law_174 : decode cL_law 174 = .ok (.iadd, 1) := by decide +kernel
theorem dL_law_175 : decode cL_law 175 = .ok (.iaload, 1) := by decide +kernel
theorem dL_law_176 : decode cL_law 176 = .ok (.aload_n 0, 1) := by decide +kernel
theorem dL_law_177 : decode cL_law 177 = .ok (.iload_n 3, 1) := by decide +kernel
theorem dL_law_178 : decode cL_law 178 = .ok (.iconst 2, 1) := by decide +kernel
theorem dL_law_179 : decode cL_law 179 = .ok (.iadd, 1) := by decide +kernel
theorem dL_law_180 : decode cL_law 180 = .ok (.iaload, 1) := by decide +kernel
theorem dL_law_181 : decode cL_law 181 = .ok (.invokevirtual 25, 3) := by decide +kernel
theorem dL_law_184 : decode cL_law 184 = .ok (.if_icmp .eq 254, 3) := by decide +kernel
theorem dL_law_187 : decode cL_law 187 = .ok (.iconst 0, 1) := by decide +kernel
theorem dL_law_188 : decode cL_law 188 = .ok (.ireturn, 1) := by decide +kernel
theorem dL_law_189 : decode cL_law 189 = .ok (.aload_n 1, 1) := by decide +kernel
theorem dL_law_190 : decode cL_law 190 = .ok (.invokevirtual 26, 3) := by decide +kernel
theorem dL_law_193 : decode cL_law 193 = .ok (.aload_n 2, 1) := by decide +kernel
theorem dL_law_194 : decode cL_law 194 = .ok (.invokevirtual 30, 3) := by decide +kernel
theorem dL_law_197 : decode cL_law 197 = .ok (.if_icmp .eq 241, 3) := by decide +kernel
theorem dL_law_200 : decode cL_law 200 = .ok (.iconst 0, 1) := by decide +kernel
theorem dL_law_201 : decode cL_law 201 = .ok (.ireturn, 1) := by decide +kernel
theorem dL_law_202 : decode cL_law 202 = .ok (.aload_n 1, 1) := by decide +kernel
theorem dL_law_203 : decode cL_law 203 = .ok (.aload_n 0, 1) := by decide +kernel
theorem dL_law_204 : decode cL_law 204 = .ok (.iload_n 3, 1) := by decide +kernel
theorem dL_law_205 : decode cL_law 205 = .ok (.iconst 1, 1) := by decide +kernel
theorem dL_law_206 : decode cL_law 206 = .ok (.iadd, 1) := by decide +kernel
theorem dL_law_207 : decode cL_law 207 = .ok (.iaload, 1) := by decide +kernel
theorem dL_law_208 : decode cL_law 208 = .ok (.invokevirtual 31, 3) := by decide +kernel
theorem dL_law_211 : decode cL_law 211 = .ok (.aload_n 2, 1) := by decide +kernel
theorem dL_law_212 : decode cL_law 212 = .ok (.aload_n 0, 1) := by decide +kernel
theorem dL_law_213 : decode cL_law 213 = .ok (.iload_n 3, 1) := by decide +kernel
theorem dL_law_214 : decode cL_law 214 = .ok (.iconst 1, 1) := by decide +kernel
theorem dL_law_215 : decode cL_law 215 = .ok (.iadd, 1) := by decide +kernel
theorem dL_law_216 : decode cL_law 216 = .ok (.iaload, 1) := by decide +kernel
theorem dL_law_217 : decode cL_law 217 = .ok (.invokevirtual 35, 3) := by decide +kernel
theorem dL_law_220 : decode cL_law 220 = .ok (.if_icmp .eq 218, 3) := by decide +kernel
theorem dL_law_223 : decode cL_law 223 = .ok (.iconst 0, 1) := by decide +kernel
theorem dL_law_224 : decode cL_law 224 = .ok (.ireturn, 1) := by decide +kernel
theorem dL_law_225 : decode cL_law 225 = .ok (.aload_n 1, 1) := by decide +kernel
theorem dL_law_226 : decode cL_law 226 = .ok (.aload_n 0, 1) := by decide +kernel
theorem dL_law_227 : decode cL_law 227 = .ok (.iload_n 3, 1) := by decide +kernel
theorem dL_law_228 : decode cL_law 228 = .ok (.iconst 1, 1) := by decide +kernel
theorem dL_law_229 : decode cL_law 229 = .ok (.iadd, 1) := by decide +kernel
theorem dL_law_230 : decode cL_law 230 = .ok (.iaload, 1) := by decide +kernel
theorem dL_law_231 : decode cL_law 231 = .ok (.invokevirtual 36, 3) := by decide +kernel
theorem dL_law_234 : decode cL_law 234 = .ok (.aload_n 2, 1) := by decide +kernel
theorem dL_law_235 : decode cL_law 235 = .ok (.aload_n 0, 1) := by decide +kernel
theorem dL_law_236 : decode cL_law 236 = .ok (.iload_n 3, 1) := by decide +kernel
theorem dL_law_237 : decode cL_law 237 = .ok (.iconst 1, 1) := by decide +kernel
theorem dL_law_238 : decode cL_law 238 = .ok (.iadd, 1) := by decide +kernel
theorem dL_law_239 : decode cL_law 239 = .ok (.iaload, 1) := by decide +kernel
theorem dL_law_240 : decode cL_law 240 = .ok (.invokevirtual 39, 3) := by decide +kernel
theorem dL_law_243 : decode cL_law 243 = .ok (.if_icmp .eq 195, 3) := by decide +kernel
theorem dL_law_246 : decode cL_law 246 = .ok (.iconst 0, 1) := by decide +kernel
theorem dL_law_247 : decode cL_law 247 = .ok (.ireturn, 1) := by decide +kernel
theorem dL_law_248 : decode cL_law 248 = .ok (.aload_n 1, 1) := by decide +kernel
theorem dL_law_249 : decode cL_law 249 = .ok (.invokevirtual 40, 3) := by decide +kernel
theorem dL_law_252 : decode cL_law 252 = .ok (.aload_n 2, 1) := by decide +kernel
theorem dL_law_253 : decode cL_law 253 = .ok (.invokevirtual 43, 3) := by decide +kernel
theorem dL_law_256 : decode cL_law 256 = .ok (.if_icmp .eq 182, 3) := by decide +kernel
theorem dL_law_259 : decode cL_law 259 = .ok (.iconst 0, 1) := by decide +kernel
theorem dL_law_260 : decode cL_law 260 = .ok (.ireturn, 1) := by decide +kernel
theorem dL_law_261 : decode cL_law 261 = .ok (.aload_n 1, 1) := by decide +kernel
theorem dL_law_262 : decode cL_law 262 = .ok (.aload_n 0, 1) := by decide +kernel
theorem dL_law_263 : decode cL_law 263 = .ok (.iload_n 3, 1) := by decide +kernel
theorem dL_law_264 : decode cL_law 264 = .ok (.iconst 1, 1) := by decide +kernel
theorem dL_law_265 : decode cL_law 265 = .ok (.iadd, 1) := by decide +kernel
theorem dL_law_266 : decode cL_law 266 = .ok (.iaload, 1) := by decide +kernel
theorem dL_law_267 : decode cL_law 267 = .ok (.invokevirtual 44, 3) := by decide +kernel
theorem dL_law_270 : decode cL_law 270 = .ok (.aload_n 2, 1) := by decide +kernel
theorem dL_law_271 : decode cL_law 271 = .ok (.aload_n 0, 1) := by decide +kernel
theorem dL_law_272 : decode cL_law 272 = .ok (.iload_n 3, 1) := by decide +kernel
theorem dL_law_273 : decode cL_law 273 = .ok (.iconst 1, 1) := by decide +kernel
theorem dL_law_274 : decode cL_law 274 = .ok (.iadd, 1) := by decide +kernel
theorem dL_law_275 : decode cL_law 275 = .ok (.iaload, 1) := by decide +kernel
theorem dL_law_276 : decode cL_law 276 = .ok (.invokevirtual 47, 3) := by decide +kernel
theorem dL_law_279 : decode cL_law 279 = .ok (.if_icmp .eq 159, 3) := by decide +kernel
theorem dL_law_282 : decode cL_law 282 = .ok (.iconst 0, 1) := by decide +kernel
theorem dL_law_283 : decode cL_law 283 = .ok (.ireturn, 1) := by decide +kernel
theorem dL_law_284 : decode cL_law 284 = .ok (.aload_n 1, 1) := by decide +kernel
theorem dL_law_285 : decode cL_law 285 = .ok (.invokevirtual 48, 3) := by decide +kernel
theorem dL_law_288 : decode cL_law 288 = .ok (.aload_n 2, 1) := by decide +kernel
theorem dL_law_289 : decode cL_law 289 = .ok (.invokevirtual 51, 3) := by decide +kernel
theorem dL_law_292 : decode cL_law 292 = .ok (.if_icmp .eq 146, 3) := by decide +kernel
theorem dL_law_295 : decode cL_law 295 = .ok (.iconst 0, 1) := by decide +kernel
theorem dL_law_296 : decode cL_law 296 = .ok (.ireturn, 1) := by decide +kernel
theorem dL_law_297 : decode cL_law 297 = .ok (.aload_n 1, 1) := by decide +kernel
theorem dL_law_298 : decode cL_law 298 = .ok (.invokevirtual 52, 3) := by decide +kernel
theorem dL_law_301 : decode cL_law 301 = .ok (.aload_n 2, 1) := by decide +kernel
theorem dL_law_302 : decode cL_law 302 = .ok (.invokevirtual 55, 3) := by decide +kernel
theorem dL_law_305 : decode cL_law 305 = .ok (.if_icmp .eq 133, 3) := by decide +kernel
theorem dL_law_308 : decode cL_law 308 = .ok (.iconst 0, 1) := by decide +kernel
theorem dL_law_309 : decode cL_law 309 = .ok (.ireturn, 1) := by decide +kernel
theorem dL_law_310 : decode cL_law 310 = .ok (.aload_n 1, 1) := by decide +kernel
theorem dL_law_311 : decode cL_law 311 = .ok (.invokevirtual 56, 3) := by decide +kernel
theorem dL_law_314 : decode cL_law 314 = .ok (.aload_n 2, 1) := by decide +kernel
theorem dL_law_315 : decode cL_law 315 = .ok (.invokevirtual 59, 3) := by decide +kernel
theorem dL_law_318 : decode cL_law 318 = .ok (.if_icmp .eq 120, 3) := by decide +kernel
theorem dL_law_321 : decode cL_law 321 = .ok (.iconst 0, 1) := by decide +kernel
theorem dL_law_322 : decode cL_law 322 = .ok (.ireturn, 1) := by decide +kernel
theorem dL_law_323 : decode cL_law 323 = .ok (.aload_n 1, 1) := by decide +kernel
theorem dL_law_324 : decode cL_law 324 = .ok (.aload_n 0, 1) := by decide +kernel
theorem dL_law_325 : decode cL_law 325 = .ok (.iload_n 3, 1) := by decide +kernel
theorem dL_law_326 : decode cL_law 326 = .ok (.iconst 1, 1) := by decide +kernel
theorem dL_law_327 : decode cL_law 327 = .ok (.iadd, 1) := by decide +kernel
theorem dL_law_328 : decode cL_law 328 = .ok (.iaload, 1) := by decide +kernel
theorem dL_law_329 : decode cL_law 329 = .ok (.invokevirtual 60, 3) := by decide +kernel
theorem dL_law_332 : decode cL_law 332 = .ok (.aload_n 2, 1) := by decide +kernel
theorem dL_law_333 : decode cL_law 333 = .ok (.aload_n 0, 1) := by decide +kernel
theorem dL_law_334 : decode cL_law 334 = .ok (.iload_n 3, 1) := by decide +kernel
theorem dL_law_335 : decode cL_law 335 = .ok (.iconst 1, 1) := by decide +kernel
theorem dL_law_336 : decode cL_law 336 = .ok (.iadd, 1) := by decide +kernel
theorem dL_law_337 : decode cL_law 337 = .ok (.iaload, 1) := by decide +kernel
theorem dL_law_338 : decode cL_law 338 = .ok (.invokevirtual 63, 3) := by decide +kernel
theorem dL_law_341 : decode cL_law 341 = .ok (.if_icmp .eq 97, 3) := by decide +kernel
theorem dL_law_344 : decode cL_law 344 = .ok (.iconst 0, 1) := by decide +kernel
theorem dL_law_345 : decode cL_law 345 = .ok (.ireturn, 1) := by decide +kernel
theorem dL_law_346 : decode cL_law 346 = .ok (.aload_n 1, 1) := by decide +kernel
theorem dL_law_347 : decode cL_law 347 = .ok (.aload_n 0, 1) := by decide +kernel
theorem dL_law_348 : decode cL_law 348 = .ok (.iload_n 3, 1) := by decide +kernel
theorem dL_law_349 : decode cL_law 349 = .ok (.iconst 1, 1) := by decide +kernel
theorem dL_law_350 : decode cL_law 350 = .ok (.iadd, 1) := by decide +kernel
theorem dL_law_351 : decode cL_law 351 = .ok (.iaload, 1) := by decide +kernel
theorem dL_law_352 : decode cL_law 352 = .ok (.aload_n 0, 1) := by decide +kernel
theorem dL_law_353 : decode cL_law 353 = .ok (.iload_n 3, 1) := by decide +kernel
theorem dL_law_354 : decode cL_law 354 = .ok (.iconst 2, 1) := by decide +kernel
theorem dL_law_355 : decode cL_law 355 = .ok (.iadd, 1) := by decide +kernel
theorem dL_law_356 : decode cL_law 356 = .ok (.iaload, 1) := by decide +kernel
theorem dL_law_357 : decode cL_law 357 = .ok (.invokevirtual 64, 3) := by decide +kernel
theorem dL_law_360 : decode cL_law 360 = .ok (.aload_n 2, 1) := by decide +kernel
theorem dL_law_361 : decode cL_law 361 = .ok (.aload_n 0, 1) := by decide +kernel
theorem dL_law_362 : decode cL_law 362 = .ok (.iload_n 3, 1) := by decide +kernel
theorem dL_law_363 : decode cL_law 363 = .ok (.iconst 1, 1) := by decide +kernel
theorem dL_law_364 : decode cL_law 364 = .ok (.iadd, 1) := by decide +kernel
theorem dL_law_365 : decode cL_law 365 = .ok (.iaload, 1) := by decide +kernel
theorem dL_law_366 : decode cL_law 366 = .ok (.aload_n 0, 1) := by decide +kernel
theorem dL_law_367 : decode cL_law 367 = .ok (.iload_n 3, 1) := by decide +kernel
theorem dL_law_368 : decode cL_law 368 = .ok (.iconst 2, 1) := by decide +kernel
theorem dL_law_369 : decode cL_law 369 = .ok (.iadd, 1) := by decide +kernel
theorem dL_law_370 : decode cL_law 370 = .ok (.iaload, 1) := by decide +kernel
theorem dL_law_371 : decode cL_law 371 = .ok (.invokevirtual 67, 3) := by decide +kernel
theorem dL_law_374 : decode cL_law 374 = .ok (.if_icmp .eq 64, 3) := by decide +kernel
theorem dL_law_377 : decode cL_law 377 = .ok (.iconst 0, 1) := by decide +kernel
theorem dL_law_378 : decode cL_law 378 = .ok (.ireturn, 1) := by decide +kernel
theorem dL_law_379 : decode cL_law 379 = .ok (.aload_n 1, 1) := by decide +kernel
theorem dL_law_380 : decode cL_law 380 = .ok (.invokevirtual 68, 3) := by decide +kernel
theorem dL_law_383 : decode cL_law 383 = .ok (.aload_n 2, 1) := by decide +kernel
theorem dL_law_384 : decode cL_law 384 = .ok (.invokevirtual 71, 3) := by decide +kernel
theorem dL_law_387 : decode cL_law 387 = .ok (.if_icmp .eq 51, 3) := by decide +kernel
theorem dL_law_390 : decode cL_law 390 = .ok (.iconst 0, 1) := by decide +kernel
theorem dL_law_391 : decode cL_law 391 = .ok (.ireturn, 1) := by decide +kernel
theorem dL_law_392 : decode cL_law 392 = .ok (.aload_n 1, 1) := by decide +kernel
theorem dL_law_393 : decode cL_law 393 = .ok (.aload_n 0, 1) := by decide +kernel
theorem dL_law_394 : decode cL_law 394 = .ok (.iload_n 3, 1) := by decide +kernel
theorem dL_law_395 : decode cL_law 395 = .ok (.iconst 1, 1) := by decide +kernel
theorem dL_law_396 : decode cL_law 396 = .ok (.iadd, 1) := by decide +kernel
theorem dL_law_397 : decode cL_law 397 = .ok (.iaload, 1) := by decide +kernel
theorem dL_law_398 : decode cL_law 398 = .ok (.aload_n 0, 1) := by decide +kernel
theorem dL_law_399 : decode cL_law 399 = .ok (.iload_n 3, 1) := by decide +kernel
theorem dL_law_400 : decode cL_law 400 = .ok (.iconst 2, 1) := by decide +kernel
theorem dL_law_401 : decode cL_law 401 = .ok (.iadd, 1) := by decide +kernel
theorem dL_law_402 : decode cL_law 402 = .ok (.iaload, 1) := by decide +kernel
theorem dL_law_403 : decode cL_law 403 = .ok (.invokevirtual 72, 3) := by decide +kernel
theorem dL_law_406 : decode cL_law 406 = .ok (.aload_n 2, 1) := by decide +kernel
theorem dL_law_407 : decode cL_law 407 = .ok (.aload_n 0, 1) := by decide +kernel
theorem dL_law_408 : decode cL_law 408 = .ok (.iload_n 3, 1) := by decide +kernel
theorem dL_law_409 : decode cL_law 409 = .ok (.iconst 1, 1) := by decide +kernel
theorem dL_law_410 : decode cL_law 410 = .ok (.iadd, 1) := by decide +kernel
theorem dL_law_411 : decode cL_law 411 = .ok (.iaload, 1) := by decide +kernel
theorem dL_law_412 : decode cL_law 412 = .ok (.aload_n 0, 1) := by decide +kernel
theorem dL_law_413 : decode cL_law 413 = .ok (.iload_n 3, 1) := by decide +kernel
theorem dL_law_414 : decode cL_law 414 = .ok (.iconst 2, 1) := by decide +kernel
theorem dL_law_415 : decode cL_law 415 = .ok (.iadd, 1) := by decide +kernel
theorem dL_law_416 : decode cL_law 416 = .ok (.iaload, 1) := by decide +kernel
theorem dL_law_417 : decode cL_law 417 = .ok (.invokevirtual 75, 3) := by decide +kernel
theorem dL_law_420 : decode cL_law 420 = .ok (.if_icmp .eq 18, 3) := by decide +kernel
theorem dL_law_423 : decode cL_law 423 = .ok (.iconst 0, 1) := by decide +kernel
theorem dL_law_424 : decode cL_law 424 = .ok (.ireturn, 1) := by decide +kernel
theorem dL_law_425 : decode cL_law 425 = .ok (.aload_n 1, 1) := by decide +kernel
theorem dL_law_426 : decode cL_law 426 = .ok (.invokevirtual 76, 3) := by decide +kernel
theorem dL_law_429 : decode cL_law 429 = .ok (.aload_n 2, 1) := by decide +kernel
theorem dL_law_430 : decode cL_law 430 = .ok (.invokevirtual 79, 3) := by decide +kernel
theorem dL_law_433 : decode cL_law 433 = .ok (.if_icmp .eq 5, 3) := by decide +kernel
theorem dL_law_436 : decode cL_law 436 = .ok (.iconst 0, 1) := by decide +kernel
theorem dL_law_437 : decode cL_law 437 = .ok (.ireturn, 1) := by decide +kernel
theorem dL_law_438 : decode cL_law 438 = .ok (.iinc 3 3, 3) := by decide +kernel
theorem dL_law_441 : decode cL_law 441 = .ok (.goto (-423), 3) := by decide +kernel
theorem dL_law_444 : decode cL_law 444 = .ok (.iconst 1, 1) := by decide +kernel
theorem dL_law_445 : decode cL_law 445 = .ok (.ireturn, 1) := by decide +kernel
end
section
/-! ===== the layer 'go': one method's walk without heaps in sight ===== -/
def go_tb : List Cond := lw_tbl.filter goodWord
theorem go_tb_good : GoodIn go_tb go_tb := fun w h => ⟨h, good_of_word (List.mem_filter.mp h).2⟩
theorem go_tb_of {w : Cond} (h : w ∈ lw_tbl) (g : goodWord w = true) : w ∈ go_tb := List.mem_filter.mpr ⟨h, g⟩
def go_isN : Cond → Bool
  | .methodLinkNest _ _ _ _ => true
  | _ => false
abbrev go_G : Type := va_G × ClassId × ClassId
def go_KK (G : go_G) (U : State) : Prop := va_K G.1 vwCl [(G.2.1, .int), (G.2.2, .object "ProtoCheck$WordRow")] U ∧ ∀ w ∈ lw_tbl, go_isN w = true → va_Nw w U
theorem go_KK_warm {G : go_G} {s U : State} (hW : s.WarmedH U.vm) (h : go_KK G s) : go_KK G U := by
  refine ⟨va_K.moved hW.alike h.1, fun w hw hn => ?_⟩
  have h1 := h.2 w hw hn
  cases w <;> simp only [go_isN] at hn <;> first | exact va_Nw.warmM hW h1 | cases hn
theorem go_KK_calling {G : go_G} {U : State} {g : JFrame} {mk : MethodId} {a : Array Value} (h : go_KK G U) : go_KK G (U.calling g mk a) := by
  refine ⟨va_K.moved (u := U) (U := U.calling g mk a) (Vm.Alike.refl U.vm) h.1, fun w hw hn => ?_⟩
  have h1 := h.2 w hw hn
  cases w <;> simp only [go_isN] at hn <;> first | exact va_Nw.same (u := U) (U := U.calling g mk a) rfl rfl h1 | cases hn
/-- the end of a method: its answer r, its cells W1 -/
def go_Q (G : go_G) (A : Nat → Prop) (r : Option Value) (W1 : va_W) : Array Value → State → Outcome → State → Prop := fun _ st oc t => oc = .returned r ∧ va_P G.1 vwCl W1 t.heap ∧ va_F A st t
/-- the contract of a method that makes nothing: from cells W0 and arguments As it answers r and leaves the cells W1 -/
def go_Fn (y : MethodName) (cc : ByteArray) (nL : Nat) (rt : Option FieldType) (fr lo : Nat) (G : go_G) (As : List Value) (W0 : va_W) (r : Option Value) (W1 : va_W) : Prop :=
  ∀ (l : Launch) (sz : Nat), Met l y (.code y cc nL rt :: go_tb) { frames := fr, cells := 0, slots := 0, locals := lo } (va_Pc As (fun U => U.heap.size = sz ∧ va_P G.1 vwCl W0 U.heap ∧ go_KK G U ∧ va_D (fun _ => True) W0)) (go_Q G (va_A W0 sz) r W1) 0 0 (va_A W0 sz)
abbrev go_X : Type := Program × Launch × Env × Room × State × MethodId × Array Value × List Frame × Method × Code × go_G × Nat × (Nat → Prop) × (State → Prop)
def go_Go (X : go_X) (k : Nat × Nat) (ws : va_W) (lv : List (Nat × Value)) (st : List Value) (pc : Nat) : Prop :=
  match X with
  | (p, l, e, R, s, m, args, below, meth, c, G, nL, A, Q) => ∀ (H : Heap) (locs : List Loc) (ls : Array Slot), va_P G.1 vwCl ws H → va_D A ws → va_S A s.heap H locs → lv_has ls nL lv → W p l e R s m args below meth c H locs k.1 k.2 Q (F0 m pc ls st)
/-- what stays during a walk -/
def go_Cx (X : go_X) (cc : ByteArray) (own : String) (rt : Option FieldType) (nL fr lo rc rs : Nat) (G : go_G) : Prop :=
  match X with
  | (p, _, _, R, s, m, args, _, meth, c, G', nL', A, _) => p.tables.exec = Jvm.exec ∧ c.code = cc ∧ meth.sig.returnType = rt ∧ c.maxLocals = nL ∧ s.vm.findClass own = some m.cls ∧ (∀ w ∈ go_tb, w.before args s = true) ∧ meth.locks = false ∧ go_KK G s ∧ R = { frames := fr, cells := rc, slots := rs, locals := lo } ∧ G' = G ∧ nL' = nL ∧ ∀ q : Nat, s.heap.size ≤ q → A q
/-- what is to be answered at the walk's end -/
def go_Ex (X : go_X) (r : Option Value) (W1 : va_W) : Prop :=
  match X with
  | (_, _, _, _, s, _, args, below, _, _, G, _, A, Q) => Q = MQ below (go_Q G A r W1) args s 0 0 A
theorem go_Fn_of {y : MethodName} {cc : ByteArray} {nL : Nat} {rt : Option FieldType} {fr lo : Nat} {G : go_G} {As : List Value} {W0 : va_W} {r : Option Value} {W1 : va_W} (hy : plainName y.cls = true) (hn : (lg_sl As).length ≤ nL)
    (h : ∀ X : go_X, go_Cx X cc y.cls rt nL fr lo 0 0 G → go_Ex X r W1 → go_Go X (0, 0) W0 (lv_args 0 As) [] 0) : go_Fn y cc nL rt fr lo G As W0 r W1 := by
  intro l sz
  refine Met.ofW (cc := cc) (maxL := nL) (ret := rt) hy rfl ?_
  intro p e s m args below meth c s₁ B hml hv
  obtain ⟨rfl, hsz, hP, hK, hD0⟩ := hv
  subst hsz
  have hts := atoms_spec (ws := .code y cc nL rt :: go_tb) B.pre
  have hown : s.vm.findClass y.cls = some m.cls := findClass_of_methodNamed B.named
  have hg := h (p, l, e, (headSpec (.code y cc nL rt :: go_tb) { frames := fr, cells := 0, slots := 0, locals := lo }).room, s, m, As.toArray, below, meth, c, G, nL, va_A W0 s.heap.size, MQ below (go_Q G (va_A W0 s.heap.size) r W1) As.toArray s 0 0 (va_A W0 s.heap.size))
    ⟨B.exec, B.bytes, B.returns, hml, hown, fun w hw => hts w (List.mem_cons_of_mem _ hw), B.notSynchronized, hK, rfl, rfl, rfl, fun q hq => Or.inr hq⟩ rfl
  have hl := lv_entry As (n := nL) hn
  rw [lg_entry_eq]
  exact hg s.heap [] _ hP hD0.self va_S.rf hl
section GO
variable {X : go_X} {cc : ByteArray} {own : String} {rt : Option FieldType} {nL fr lo rc rs : Nat} {G : go_G} {kz : Nat × Nat} {ws : va_W} {lv : List (Nat × Value)} {st : List Value} {pc : Nat}
/-- a row of the kit that touches the stack and the pc alone -/
theorem go_st (C : go_Cx X cc own rt nL fr lo rc rs G) {st' : List Value} {pc' : Nat}
    (row : ∀ {p : Program} {l : Launch} {e : Env} {R : Room} {s : State} {m : MethodId} {args : Array Value} {below : List Frame} {meth : Method} {c : Code} {H : Heap} {locs : List Loc} {Q : State → Prop} {ls : Array Slot}, p.tables.exec = Jvm.exec → c.code = cc → lv_has ls nL lv → W p l e R s m args below meth c H locs kz.1 kz.2 Q (F0 m pc' ls st') → W p l e R s m args below meth c H locs kz.1 kz.2 Q (F0 m pc ls st))
    (kk : go_Go X kz ws lv st' pc') : go_Go X kz ws lv st pc := by
  obtain ⟨p, l, e, R, s, m, args, below, meth, c, G', nL', A, Q⟩ := X
  obtain ⟨hx, hb, hr, hml, hown, hts, hlk, hK, rfl, rfl, rfl, hA⟩ := C
  intro H locs ls hP hD hS hl
  exact row hx hb hl (kk H locs ls hP hD hS hl)
/-- a row of the kit with two ends -/
theorem go_br (C : go_Cx X cc own rt nL fr lo rc rs G) {st' : List Value} {pt pf : Nat} {a b : Prop}
    (row : ∀ {p : Program} {l : Launch} {e : Env} {R : Room} {s : State} {m : MethodId} {args : Array Value} {below : List Frame} {meth : Method} {c : Code} {H : Heap} {locs : List Loc} {Q : State → Prop} {ls : Array Slot}, p.tables.exec = Jvm.exec → c.code = cc → (a → W p l e R s m args below meth c H locs kz.1 kz.2 Q (F0 m pt ls st')) → (b → W p l e R s m args below meth c H locs kz.1 kz.2 Q (F0 m pf ls st')) → W p l e R s m args below meth c H locs kz.1 kz.2 Q (F0 m pc ls st))
    (kt : a → go_Go X kz ws lv st' pt) (kf : b → go_Go X kz ws lv st' pf) : go_Go X kz ws lv st pc := by
  obtain ⟨p, l, e, R, s, m, args, below, meth, c, G', nL', A, Q⟩ := X
  obtain ⟨hx, hb, hr, hml, hown, hts, hlk, hK, rfl, rfl, rfl, hA⟩ := C
  intro H locs ls hP hD hS hl
  exact row hx hb (fun h => kt h H locs ls hP hD hS hl) (fun h => kf h H locs ls hP hD hS hl)
theorem go_iconst (C : go_Cx X cc own rt nL fr lo rc rs G) {n : Int} (v : Int32) (d : decode cc pc = .ok (.iconst n, 1)) (hv : Int32.ofInt n = v) (kk : go_Go X kz ws lv (.int v :: st) (pc + 1)) : go_Go X kz ws lv st pc := go_st C (fun hx hb _ k => lv_iconst hx hb d hv k) kk
theorem go_bipush (C : go_Cx X cc own rt nL fr lo rc rs G) {n : Int} (v : Int32) (d : decode cc pc = .ok (.bipush n, 2)) (hv : (Int8.ofInt n).toInt32 = v) (kk : go_Go X kz ws lv (.int v :: st) (pc + 2)) : go_Go X kz ws lv st pc := go_st C (fun hx hb _ k => lv_bipush hx hb d hv k) kk
theorem go_sipush (C : go_Cx X cc own rt nL fr lo rc rs G) {n : Int} (v : Int32) (d : decode cc pc = .ok (.sipush n, 3)) (hv : (Int16.ofInt n).toInt32 = v) (kk : go_Go X kz ws lv (.int v :: st) (pc + 3)) : go_Go X kz ws lv st pc := go_st C (fun hx hb _ k => lv_sipush hx hb d hv k) kk
theorem go_iload_n (C : go_Cx X cc own rt nL fr lo rc rs G) {k : Fin 4} {i : Nat} {x : Int32} (d : decode cc pc = .ok (.iload_n k, 1)) (q : Nat) (hi : (k : Nat) = i) (hq : lv[q]? = some (i, .int x)) (kk : go_Go X kz ws lv (.int x :: st) (pc + 1)) : go_Go X kz ws lv st pc := go_st C (fun hx hb hl k => lv_iload_n hx hb d hi (lv_at hl q hq) k) kk
theorem go_iload (C : go_Cx X cc own rt nL fr lo rc rs G) {i : Nat} {x : Int32} (d : decode cc pc = .ok (.iload i, 2)) (q : Nat) (hq : lv[q]? = some (i, .int x)) (kk : go_Go X kz ws lv (.int x :: st) (pc + 2)) : go_Go X kz ws lv st pc := go_st C (fun hx hb hl k => lv_iload hx hb d (lv_at hl q hq) k) kk
theorem go_aload_n (C : go_Cx X cc own rt nL fr lo rc rs G) {k : Fin 4} {i : Nat} {x : Nat} (d : decode cc pc = .ok (.aload_n k, 1)) (q : Nat) (hi : (k : Nat) = i) (hq : lv[q]? = some (i, .ref x)) (kk : go_Go X kz ws lv (.ref x :: st) (pc + 1)) : go_Go X kz ws lv st pc := go_st C (fun hx hb hl k => lv_aload_n hx hb d hi (lv_at hl q hq) k) kk
theorem go_aload (C : go_Cx X cc own rt nL fr lo rc rs G) {i : Nat} {x : Nat} (d : decode cc pc = .ok (.aload i, 2)) (q : Nat) (hq : lv[q]? = some (i, .ref x)) (kk : go_Go X kz ws lv (.ref x :: st) (pc + 2)) : go_Go X kz ws lv st pc := go_st C (fun hx hb hl k => lv_aload hx hb d (lv_at hl q hq) k) kk
theorem go_dup (C : go_Cx X cc own rt nL fr lo rc rs G) {v : Value} (d : decode cc pc = .ok (.dup, 1)) (h : v.category = 1) (kk : go_Go X kz ws lv (v :: v :: st) (pc + 1)) : go_Go X kz ws lv (v :: st) pc := go_st C (fun hx hb _ k => lv_dup hx hb d h k) kk
theorem go_pop (C : go_Cx X cc own rt nL fr lo rc rs G) {v : Value} (d : decode cc pc = .ok (.pop, 1)) (h : v.category = 1) (kk : go_Go X kz ws lv st (pc + 1)) : go_Go X kz ws lv (v :: st) pc := go_st C (fun hx hb _ k => lv_pop hx hb d h k) kk
theorem go_iadd (C : go_Cx X cc own rt nL fr lo rc rs G) {x y z : Int32} (d : decode cc pc = .ok (.iadd, 1)) (h : x + y = z) (kk : go_Go X kz ws lv (.int z :: st) (pc + 1)) : go_Go X kz ws lv (.int y :: .int x :: st) pc := by subst h; exact go_st C (fun hx hb _ k => lv_iadd hx hb d k) kk
theorem go_isub (C : go_Cx X cc own rt nL fr lo rc rs G) {x y z : Int32} (d : decode cc pc = .ok (.isub, 1)) (h : x - y = z) (kk : go_Go X kz ws lv (.int z :: st) (pc + 1)) : go_Go X kz ws lv (.int y :: .int x :: st) pc := by subst h; exact go_st C (fun hx hb _ k => lv_isub hx hb d k) kk
theorem go_imul (C : go_Cx X cc own rt nL fr lo rc rs G) {x y z : Int32} (d : decode cc pc = .ok (.imul, 1)) (h : x * y = z) (kk : go_Go X kz ws lv (.int z :: st) (pc + 1)) : go_Go X kz ws lv (.int y :: .int x :: st) pc := by subst h; exact go_st C (fun hx hb _ k => lv_imul hx hb d k) kk
theorem go_iand (C : go_Cx X cc own rt nL fr lo rc rs G) {x y z : Int32} (d : decode cc pc = .ok (.iand, 1)) (h : x &&& y = z) (kk : go_Go X kz ws lv (.int z :: st) (pc + 1)) : go_Go X kz ws lv (.int y :: .int x :: st) pc := by subst h; exact go_st C (fun hx hb _ k => lv_iand hx hb d k) kk
theorem go_ior (C : go_Cx X cc own rt nL fr lo rc rs G) {x y z : Int32} (d : decode cc pc = .ok (.ior, 1)) (h : x ||| y = z) (kk : go_Go X kz ws lv (.int z :: st) (pc + 1)) : go_Go X kz ws lv (.int y :: .int x :: st) pc := by subst h; exact go_st C (fun hx hb _ k => lv_ior hx hb d k) kk
theorem go_ixor (C : go_Cx X cc own rt nL fr lo rc rs G) {x y z : Int32} (d : decode cc pc = .ok (.ixor, 1)) (h : x ^^^ y = z) (kk : go_Go X kz ws lv (.int z :: st) (pc + 1)) : go_Go X kz ws lv (.int y :: .int x :: st) pc := by subst h; exact go_st C (fun hx hb _ k => lv_ixor hx hb d k) kk
theorem go_ishl (C : go_Cx X cc own rt nL fr lo rc rs G) {x y z : Int32} (d : decode cc pc = .ok (.ishl, 1)) (h : x <<< (y &&& 31) = z) (kk : go_Go X kz ws lv (.int z :: st) (pc + 1)) : go_Go X kz ws lv (.int y :: .int x :: st) pc := by subst h; exact go_st C (fun hx hb _ k => lv_ishl hx hb d k) kk
theorem go_ishr (C : go_Cx X cc own rt nL fr lo rc rs G) {x y z : Int32} (d : decode cc pc = .ok (.ishr, 1)) (h : x >>> (y &&& 31) = z) (kk : go_Go X kz ws lv (.int z :: st) (pc + 1)) : go_Go X kz ws lv (.int y :: .int x :: st) pc := by subst h; exact go_st C (fun hx hb _ k => lv_ishr hx hb d k) kk
theorem go_iushr (C : go_Cx X cc own rt nL fr lo rc rs G) {x y z : Int32} (d : decode cc pc = .ok (.iushr, 1)) (h : (x.toUInt32 >>> (y.toUInt32 &&& Int32.toUInt32 31)).toInt32 = z) (kk : go_Go X kz ws lv (.int z :: st) (pc + 1)) : go_Go X kz ws lv (.int y :: .int x :: st) pc := go_st C (fun hx hb _ k => lv_iushr hx hb d h k) kk
theorem go_goto (C : go_Cx X cc own rt nL fr lo rc rs G) {off : Int} (tgt : Nat) (d : decode cc pc = .ok (.goto off, 3)) (ht : (pc : Int) + off = (tgt : Int)) (kk : go_Go X kz ws lv st tgt) : go_Go X kz ws lv st pc := go_st C (fun hx hb _ k => lv_goto hx hb d ht k) kk
theorem go_icmp_ge (C : go_Cx X cc own rt nL fr lo rc rs G) {x y : Int32} {off : Int} (tgt : Nat) (d : decode cc pc = .ok (.if_icmp .ge off, 3)) (ht : (pc : Int) + off = (tgt : Int)) (kt : y ≤ x → go_Go X kz ws lv st tgt) (kf : ¬ y ≤ x → go_Go X kz ws lv st (pc + 3)) : go_Go X kz ws lv (.int y :: .int x :: st) pc := go_br C (fun hx hb a b => lv_icmp_ge hx hb d ht a b) kt kf
theorem go_icmp_lt (C : go_Cx X cc own rt nL fr lo rc rs G) {x y : Int32} {off : Int} (tgt : Nat) (d : decode cc pc = .ok (.if_icmp .lt off, 3)) (ht : (pc : Int) + off = (tgt : Int)) (kt : x < y → go_Go X kz ws lv st tgt) (kf : ¬ x < y → go_Go X kz ws lv st (pc + 3)) : go_Go X kz ws lv (.int y :: .int x :: st) pc := go_br C (fun hx hb a b => lv_icmp_lt hx hb d ht a b) kt kf
theorem go_icmp_gt (C : go_Cx X cc own rt nL fr lo rc rs G) {x y : Int32} {off : Int} (tgt : Nat) (d : decode cc pc = .ok (.if_icmp .gt off, 3)) (ht : (pc : Int) + off = (tgt : Int)) (kt : y < x → go_Go X kz ws lv st tgt) (kf : ¬ y < x → go_Go X kz ws lv st (pc + 3)) : go_Go X kz ws lv (.int y :: .int x :: st) pc := go_br C (fun hx hb a b => lv_icmp_gt hx hb d ht a b) kt kf
theorem go_icmp_le (C : go_Cx X cc own rt nL fr lo rc rs G) {x y : Int32} {off : Int} (tgt : Nat) (d : decode cc pc = .ok (.if_icmp .le off, 3)) (ht : (pc : Int) + off = (tgt : Int)) (kt : x ≤ y → go_Go X kz ws lv st tgt) (kf : ¬ x ≤ y → go_Go X kz ws lv st (pc + 3)) : go_Go X kz ws lv (.int y :: .int x :: st) pc := go_br C (fun hx hb a b => lv_icmp_le hx hb d ht a b) kt kf
theorem go_icmp_eq (C : go_Cx X cc own rt nL fr lo rc rs G) {x y : Int32} {off : Int} (tgt : Nat) (d : decode cc pc = .ok (.if_icmp .eq off, 3)) (ht : (pc : Int) + off = (tgt : Int)) (kt : x = y → go_Go X kz ws lv st tgt) (kf : ¬ x = y → go_Go X kz ws lv st (pc + 3)) : go_Go X kz ws lv (.int y :: .int x :: st) pc := go_br C (fun hx hb a b => lv_icmp_eq hx hb d ht a b) kt kf
theorem go_icmp_ne (C : go_Cx X cc own rt nL fr lo rc rs G) {x y : Int32} {off : Int} (tgt : Nat) (d : decode cc pc = .ok (.if_icmp .ne off, 3)) (ht : (pc : Int) + off = (tgt : Int)) (kt : ¬ x = y → go_Go X kz ws lv st tgt) (kf : x = y → go_Go X kz ws lv st (pc + 3)) : go_Go X kz ws lv (.int y :: .int x :: st) pc := go_br C (fun hx hb a b => lv_icmp_ne hx hb d ht a b) kt kf
theorem go_if_eq (C : go_Cx X cc own rt nL fr lo rc rs G) {x : Int32} {off : Int} (tgt : Nat) (d : decode cc pc = .ok (.ifCond .eq off, 3)) (ht : (pc : Int) + off = (tgt : Int)) (kt : x = 0 → go_Go X kz ws lv st tgt) (kf : ¬ x = 0 → go_Go X kz ws lv st (pc + 3)) : go_Go X kz ws lv (.int x :: st) pc := go_br C (fun hx hb a b => lv_if_eq hx hb d ht a b) kt kf
theorem go_if_ne (C : go_Cx X cc own rt nL fr lo rc rs G) {x : Int32} {off : Int} (tgt : Nat) (d : decode cc pc = .ok (.ifCond .ne off, 3)) (ht : (pc : Int) + off = (tgt : Int)) (kt : ¬ x = 0 → go_Go X kz ws lv st tgt) (kf : x = 0 → go_Go X kz ws lv st (pc + 3)) : go_Go X kz ws lv (.int x :: st) pc := go_br C (fun hx hb a b => lv_if_ne hx hb d ht a b) kt kf
theorem go_if_lt (C : go_Cx X cc own rt nL fr lo rc rs G) {x : Int32} {off : Int} (tgt : Nat) (d : decode cc pc = .ok (.ifCond .lt off, 3)) (ht : (pc : Int) + off = (tgt : Int)) (kt : x < 0 → go_Go X kz ws lv st tgt) (kf : ¬ x < 0 → go_Go X kz ws lv st (pc + 3)) : go_Go X kz ws lv (.int x :: st) pc := go_br C (fun hx hb a b => lv_if_lt hx hb d ht a b) kt kf
theorem go_if_ge (C : go_Cx X cc own rt nL fr lo rc rs G) {x : Int32} {off : Int} (tgt : Nat) (d : decode cc pc = .ok (.ifCond .ge off, 3)) (ht : (pc : Int) + off = (tgt : Int)) (kt : 0 ≤ x → go_Go X kz ws lv st tgt) (kf : ¬ 0 ≤ x → go_Go X kz ws lv st (pc + 3)) : go_Go X kz ws lv (.int x :: st) pc := go_br C (fun hx hb a b => lv_if_ge hx hb d ht a b) kt kf
theorem go_table (C : go_Cx X cc own rt nL fr lo rc rs G) {dflt lw hi : Int} {offs : Array Int} {len : Nat} {x : Int32} {off : Int} (tgt : Nat) (d : decode cc pc = .ok (.tableswitch dflt lw hi offs, len)) (h1 : ¬ x.toInt < lw) (h2 : ¬ hi < x.toInt) (ho : offs[(x.toInt - lw).toNat]? = some off) (ht : (pc : Int) + off = (tgt : Int)) (kk : go_Go X kz ws lv st tgt) : go_Go X kz ws lv (.int x :: st) pc := go_st C (fun hx hb _ k => lv_tableIn hx hb d h1 h2 ho ht k) kk
theorem go_tableD (C : go_Cx X cc own rt nL fr lo rc rs G) {dflt lw hi : Int} {offs : Array Int} {len : Nat} {x : Int32} (tgt : Nat) (d : decode cc pc = .ok (.tableswitch dflt lw hi offs, len)) (h : x.toInt < lw ∨ hi < x.toInt) (ht : (pc : Int) + dflt = (tgt : Int)) (kk : go_Go X kz ws lv st tgt) : go_Go X kz ws lv (.int x :: st) pc := go_st C (fun hx hb _ k => lv_tableOut hx hb d h ht k) kk
theorem go_istore_n (C : go_Cx X cc own rt nL fr lo rc rs G) {k : Fin 4} {i : Nat} {x : Int32} (lv' : List (Nat × Value)) (d : decode cc pc = .ok (.istore_n k, 1)) (ks : List Nat) (hi : (k : Nat) = i) (hn : i < nL) (hl : lv_pick ((i, Value.int x) :: lv.filter (fun q => !(q.1 == i) && !(q.1 + 1 == i && q.2.category == 2))) ks = lv') (kk : go_Go X kz ws lv' st (pc + 1)) : go_Go X kz ws lv (.int x :: st) pc := by
  obtain ⟨p, l, e, R, s, m, args, below, meth, c, G', nL', A, Q⟩ := X
  obtain ⟨hx, hb, hr, hml, hown, hts, hlk, hK, rfl, rfl, rfl, hA⟩ := C
  intro H locs ls hP hD hS hl'
  exact lv_istore_n hx hb d hi hl' hn rfl (fun ls2 hl2 => kk H locs ls2 hP hD hS (lv_sub hl2 ks hl))
theorem go_istore (C : go_Cx X cc own rt nL fr lo rc rs G) {i : Nat} {x : Int32} (lv' : List (Nat × Value)) (d : decode cc pc = .ok (.istore i, 2)) (ks : List Nat) (hn : i < nL) (hl : lv_pick ((i, Value.int x) :: lv.filter (fun q => !(q.1 == i) && !(q.1 + 1 == i && q.2.category == 2))) ks = lv') (kk : go_Go X kz ws lv' st (pc + 2)) : go_Go X kz ws lv (.int x :: st) pc := by
  obtain ⟨p, l, e, R, s, m, args, below, meth, c, G', nL', A, Q⟩ := X
  obtain ⟨hx, hb, hr, hml, hown, hts, hlk, hK, rfl, rfl, rfl, hA⟩ := C
  intro H locs ls hP hD hS hl'
  exact lv_istore hx hb d hl' hn rfl (fun ls2 hl2 => kk H locs ls2 hP hD hS (lv_sub hl2 ks hl))
theorem go_astore_n (C : go_Cx X cc own rt nL fr lo rc rs G) {k : Fin 4} {i : Nat} {x : Nat} (lv' : List (Nat × Value)) (d : decode cc pc = .ok (.astore_n k, 1)) (ks : List Nat) (hi : (k : Nat) = i) (hn : i < nL) (hl : lv_pick ((i, Value.ref x) :: lv.filter (fun q => !(q.1 == i) && !(q.1 + 1 == i && q.2.category == 2))) ks = lv') (kk : go_Go X kz ws lv' st (pc + 1)) : go_Go X kz ws lv (.ref x :: st) pc := by
  obtain ⟨p, l, e, R, s, m, args, below, meth, c, G', nL', A, Q⟩ := X
  obtain ⟨hx, hb, hr, hml, hown, hts, hlk, hK, rfl, rfl, rfl, hA⟩ := C
  intro H locs ls hP hD hS hl'
  exact lv_astore_n hx hb d hi hl' hn rfl (fun ls2 hl2 => kk H locs ls2 hP hD hS (lv_sub hl2 ks hl))
theorem go_astore (C : go_Cx X cc own rt nL fr lo rc rs G) {i : Nat} {x : Nat} (lv' : List (Nat × Value)) (d : decode cc pc = .ok (.astore i, 2)) (ks : List Nat) (hn : i < nL) (hl : lv_pick ((i, Value.ref x) :: lv.filter (fun q => !(q.1 == i) && !(q.1 + 1 == i && q.2.category == 2))) ks = lv') (kk : go_Go X kz ws lv' st (pc + 2)) : go_Go X kz ws lv (.ref x :: st) pc := by
  obtain ⟨p, l, e, R, s, m, args, below, meth, c, G', nL', A, Q⟩ := X
  obtain ⟨hx, hb, hr, hml, hown, hts, hlk, hK, rfl, rfl, rfl, hA⟩ := C
  intro H locs ls hP hD hS hl'
  exact lv_astore hx hb d hl' hn rfl (fun ls2 hl2 => kk H locs ls2 hP hD hS (lv_sub hl2 ks hl))
theorem go_iinc (C : go_Cx X cc own rt nL fr lo rc rs G) {i : Nat} {n : Int} {x : Int32} (v : Int32) (lv' : List (Nat × Value)) (d : decode cc pc = .ok (.iinc i n, 3)) (q : Nat) (ks : List Nat) (hq : lv[q]? = some (i, .int x)) (hv : x + Int32.ofInt n = v) (hn : i < nL) (hl : lv_pick ((i, Value.int v) :: lv.filter (fun q => !(q.1 == i) && !(q.1 + 1 == i && q.2.category == 2))) ks = lv') (kk : go_Go X kz ws lv' st (pc + 3)) : go_Go X kz ws lv st pc := by
  obtain ⟨p, l, e, R, s, m, args, below, meth, c, G', nL', A, Q⟩ := X
  obtain ⟨hx, hb, hr, hml, hown, hts, hlk, hK, rfl, rfl, rfl, hA⟩ := C
  intro H locs ls hP hD hS hl'
  exact lv_iinc hx hb d hl' hq hv hn rfl (fun ls2 hl2 => kk H locs ls2 hP hD hS (lv_sub hl2 ks hl))
/-- fewer locals, in another order -/
theorem go_lv (lv' : List (Nat × Value)) (ks : List Nat) (hl : lv_pick lv ks = lv') (kk : go_Go X kz ws lv' st pc) : go_Go X kz ws lv st pc := by
  obtain ⟨p, l, e, R, s, m, args, below, meth, c, G', nL', A, Q⟩ := X
  intro H locs ls hP hD hS hl'
  exact kk H locs ls hP hD hS (lv_sub hl' ks hl)
/-- a field's link, of class number ci, its k-th field -/
def go_FL (own : String) (index ci k : Nat) : Prop := ∃ (Cn : String) (T : u_T) (N : Nat), vwCl[ci]? = some (Cn, T, N) ∧ (∀ w ∈ u_ws Cn T N, w ∈ go_tb) ∧ k < N ∧ Cond.fieldLink own index (T k).1 (T k).2.1 (T k).2.2.1 ∈ go_tb
def go_FP (own : String) (index ci k : Nat) (ty : FieldType) : Prop := ∃ (Cn : String) (T : u_T) (N : Nat) (ty0 : Nat → FieldType), vwCl[ci]? = some (Cn, T, N) ∧ (∀ w ∈ u_ws Cn T N, w ∈ go_tb) ∧ k < N ∧ Cond.fieldLink own index (T k).1 (T k).2.1 (T k).2.2.1 ∈ go_tb ∧ (∀ k, k < N → parseFieldDescriptor (T k).2.2.1 = some (ty0 k)) ∧ (∀ a, a < N → ∀ b, b < N → a ≠ b → (T a).2.1 ≠ (T b).2.1) ∧ (T k).2.2.2 = false ∧ parseFieldDescriptor (T k).2.2.1 = some ty
theorem go_get (C : go_Cx X cc own rt nL fr lo rc rs G) {index ci k a : Nat} {fs : List Value} {v : Value} (F : go_FL own index ci k) (d : decode cc pc = .ok (.getfield index, 3)) (q0 : Nat) (he : ws[q0]? = some (a, .inr (ci, fs))) (hv : fs[k]? = some v) (kk : go_Go X kz ws lv (v :: st) (pc + 3)) : go_Go X kz ws lv (.ref a :: st) pc := by
  obtain ⟨p, l, e, R, s, m, args, below, meth, c, G', nL', A, Q⟩ := X
  obtain ⟨hx, hb, hr, hml, hown, hts, hlk, hK, rfl, rfl, rfl, hA⟩ := C
  obtain ⟨Cn, T, N, h1, h2, h3, h4⟩ := F
  intro H locs ls hP hD hS hl
  exact va_get (D := G'.1) (ci := ci) (v := v) hx hb hts h2 hown hK.1 hP q0 he h1 k h3 (hts _ h4) (fun _ h9 => h9) hv d (kk H locs ls hP hD hS hl)
theorem go_put (C : go_Cx X cc own rt nL fr lo rc rs G) {index ci k a : Nat} {fs : List Value} {v : Value} {ty : FieldType} (F : go_FP own index ci k ty) (d : decode cc pc = .ok (.putfield index, 3)) (q0 : Nat) (he : ws[q0]? = some (a, .inr (ci, fs))) (hn : narrow ty v = v) (hfit : fits ty v = true) (hl : k < fs.length) (ws' : va_W) (hw : ws.set q0 (a, .inr (ci, fs.set k v)) = ws') (kk : go_Go X kz ws' lv st (pc + 3)) : go_Go X kz ws lv (v :: .ref a :: st) pc := by
  obtain ⟨p, l, e, R, s, m, args, below, meth, c, G', nL', A, Q⟩ := X
  obtain ⟨hx, hb, hr, hml, hown, hts, hlk, hK, rfl, rfl, rfl, hA⟩ := C
  obtain ⟨Cn, T, N, ty0, h1, h2, h3, h4, h5, h6, h7, h8⟩ := F
  intro H locs ls hP hD hS hl9
  subst hw
  exact va_put (D := G'.1) (ci := ci) (v := v) (ty := ty) hx hb hts h2 ty0 h5 h6 hown hK.1 hP hD hS q0 he h1 k h3 (hts _ h4) (fun _ h9 => h9) h7 h8 hn hfit hl d (fun H2 locs2 hP2 hD2 hS2 => kk H2 locs2 ls hP2 hD2 hS2 hl9)
theorem go_iald (C : go_Cx X cc own rt nL fr lo rc rs G) {a n : Nat} {f : Nat → Int32} {i : Int32} (d : decode cc pc = .ok (.iaload, 1)) (q0 : Nat) (he : ws[q0]? = some (a, .inl (G.2.1, n, .inl f))) (j : Nat) (hi : i = nI j) (hj : j < n) (hn : n < 2 ^ 31) (kk : go_Go X kz ws lv (.int (f j) :: st) (pc + 1)) : go_Go X kz ws lv (.int i :: .ref a :: st) pc := by
  obtain ⟨p, l, e, R, s, m, args, below, meth, c, G', nL', A, Q⟩ := X
  obtain ⟨hx, hb, hr, hml, hown, hts, hlk, hK, rfl, rfl, rfl, hA⟩ := C
  intro H locs ls hP hD hS hl
  subst hi
  have hc : (nI j).toNatClampNeg = j := nI_clamp (by omega)
  refine va_iald hx hb hK.1 hP q0 0 he rfl (vp_in_nI hj hn) d ?_
  rw [hc]
  exact kk H locs ls hP hD hS hl
theorem go_iast (C : go_Cx X cc own rt nL fr lo rc rs G) {a n : Nat} {f : Nat → Int32} {i x : Int32} (d : decode cc pc = .ok (.iastore, 1)) (q0 : Nat) (he : ws[q0]? = some (a, .inl (G.2.1, n, .inl f))) (j : Nat) (hi : i = nI j) (hj : j < n) (hn : n < 2 ^ 31) (ws' : va_W) (hw : ws.set q0 (a, .inl (G.2.1, n, .inl (upd f j x))) = ws') (kk : go_Go X kz ws' lv st (pc + 1)) : go_Go X kz ws lv (.int x :: .int i :: .ref a :: st) pc := by
  obtain ⟨p, l, e, R, s, m, args, below, meth, c, G', nL', A, Q⟩ := X
  obtain ⟨hx, hb, hr, hml, hown, hts, hlk, hK, rfl, rfl, rfl, hA⟩ := C
  intro H locs ls hP hD hS hl
  subst hi
  subst hw
  have hc : (nI j).toNatClampNeg = j := nI_clamp (by omega)
  refine va_iast hx hb hK.1 hP hD hS q0 0 he rfl (vp_in_nI hj hn) d (fun H2 locs2 hP2 hD2 hS2 => ?_)
  rw [hc] at hP2 hD2
  exact kk H2 locs2 ls hP2 hD2 hS2 hl
theorem go_alen (C : go_Cx X cc own rt nL fr lo rc rs G) {a n : Nat} {f : Nat → Int32} (d : decode cc pc = .ok (.arraylength, 1)) (q0 : Nat) (he : ws[q0]? = some (a, .inl (G.2.1, n, .inl f))) (kk : go_Go X kz ws lv (.int (nI n) :: st) (pc + 1)) : go_Go X kz ws lv (.ref a :: st) pc := by
  obtain ⟨p, l, e, R, s, m, args, below, meth, c, G', nL', A, Q⟩ := X
  obtain ⟨hx, hb, hr, hml, hown, hts, hlk, hK, rfl, rfl, rfl, hA⟩ := C
  intro H locs ls hP hD hS hl
  exact va_alen hx hb hK.1 hP q0 0 he rfl rfl d (kk H locs ls hP hD hS hl)
theorem go_aald (C : go_Cx X cc own rt nL fr lo rc rs G) {a n b : Nat} {f : Nat → Option Nat} {i : Int32} (d : decode cc pc = .ok (.aaload, 1)) (q0 : Nat) (he : ws[q0]? = some (a, .inl (G.2.2, n, .inr (.inr (.inr (.inr f)))))) (j : Nat) (hi : i = nI j) (hj : j < n) (hn : n < 2 ^ 31) (hf : f j = some b) (kk : go_Go X kz ws lv (.ref b :: st) (pc + 1)) : go_Go X kz ws lv (.int i :: .ref a :: st) pc := by
  obtain ⟨p, l, e, R, s, m, args, below, meth, c, G', nL', A, Q⟩ := X
  obtain ⟨hx, hb, hr, hml, hown, hts, hlk, hK, rfl, rfl, rfl, hA⟩ := C
  intro H locs ls hP hD hS hl
  subst hi
  have hc : (nI j).toNatClampNeg = j := nI_clamp (by omega)
  refine va_aldq hx hb hK.1 hP q0 1 he rfl (vp_in_nI hj hn) d ?_
  rw [hc, hf]
  exact kk H locs ls hP hD hS hl
/-- the ends -/
theorem go_iret (C : go_Cx X cc own (some .int) nL fr lo rc rs G) {r : Option Value} {W1 : va_W} (E : go_Ex X r W1) {v : Int32} (d : decode cc pc = .ok (.ireturn, 1)) (hr : some (.int v) = r) (hw : ws = W1) : go_Go X (0, 0) ws lv [.int v] pc := by
  obtain ⟨p, l, e, R, s, m, args, below, meth, c, G', nL', A, Q⟩ := X
  obtain ⟨hx, hb, hrt, hml, hown, hts, hlk, hK, rfl, rfl, rfl, hA⟩ := C
  intro H locs ls hP hD hS hl
  have E : Q = _ := E
  subst E; subst hr; subst hw
  exact W.iret hx hb hrt (fun t ht hW => ⟨rfl, by rw [ht]; exact hP, hS.F ht⟩) hS.2.2 d hlk
theorem go_zret (C : go_Cx X cc own (some .boolean) nL fr lo rc rs G) {r : Option Value} {W1 : va_W} (E : go_Ex X r W1) {v : Int32} (d : decode cc pc = .ok (.ireturn, 1)) (hn : narrow .boolean (.int v) = .int v) (hr : some (.int v) = r) (hw : ws = W1) : go_Go X (0, 0) ws lv [.int v] pc := by
  obtain ⟨p, l, e, R, s, m, args, below, meth, c, G', nL', A, Q⟩ := X
  obtain ⟨hx, hb, hrt, hml, hown, hts, hlk, hK, rfl, rfl, rfl, hA⟩ := C
  intro H locs ls hP hD hS hl
  have E : Q = _ := E
  subst E; subst hr; subst hw
  exact W.zret hx hb hrt hn (fun t ht hW => ⟨rfl, by rw [ht]; exact hP, hS.F ht⟩) hS.2.2 d hlk
theorem go_vret (C : go_Cx X cc own none nL fr lo rc rs G) {r : Option Value} {W1 : va_W} (E : go_Ex X r W1) (d : decode cc pc = .ok (.return_, 1)) (hr : none = r) (hw : ws = W1) : go_Go X (0, 0) ws lv [] pc := by
  obtain ⟨p, l, e, R, s, m, args, below, meth, c, G', nL', A, Q⟩ := X
  obtain ⟨hx, hb, hrt, hml, hown, hts, hlk, hK, rfl, rfl, rfl, hA⟩ := C
  intro H locs ls hP hD hS hl
  have E : Q = _ := E
  subst E; subst hr; subst hw
  exact W.vret hx hb hrt (fun t ht hW => ⟨rfl, by rw [ht]; exact hP, hS.F ht⟩) hS.2.2 d hlk
theorem go_aret {n : String} (C : go_Cx X cc own (some (.object n)) nL fr lo rc rs G) {r : Option Value} {W1 : va_W} (E : go_Ex X r W1) {v : Nat} (d : decode cc pc = .ok (.areturn, 1)) (hr : some (.ref v) = r) (hw : ws = W1) : go_Go X (0, 0) ws lv [.ref v] pc := by
  obtain ⟨p, l, e, R, s, m, args, below, meth, c, G', nL', A, Q⟩ := X
  obtain ⟨hx, hb, hrt, hml, hown, hts, hlk, hK, rfl, rfl, rfl, hA⟩ := C
  intro H locs ls hP hD hS hl
  have E : Q = _ := E
  subst E; subst hr; subst hw
  exact W.aret hx hb hrt (Or.inl ⟨n, rfl⟩) (Or.inr ⟨v, rfl⟩) (fun t ht hW => ⟨rfl, by rw [ht]; exact hP, hS.F ht⟩) hS.2.2 d hlk
end GO
end
section
/-! ===== calls over the go layer ===== -/
def go_pa : va_W → List Nat → va_W → va_W
  | ws, [], _ => ws
  | ws, _ :: _, [] => ws
  | ws, i :: is, c :: cs => go_pa (ws.set i c) is cs
theorem go_pa_in : ∀ (is : List Nat) (w1 ws : va_W) (k : Nat) (q : Nat × va_E), is.length = w1.length → (go_pa ws is w1)[k]? = some q → q ∈ w1 ∨ (k ∉ is ∧ ws[k]? = some q)
  | [], w1, ws, k, q, _, h => Or.inr ⟨List.not_mem_nil, by simpa [go_pa] using h⟩
  | i :: is, [], ws, k, q, hl, _ => by simp at hl
  | i :: is, c :: cs, ws, k, q, hl, h => by
    rcases go_pa_in is cs (ws.set i c) k q (by simpa using hl) (by simpa [go_pa] using h) with h1 | ⟨h1, h2⟩
    · exact Or.inl (List.mem_cons_of_mem _ h1)
    · by_cases hk : k = i
      · subst hk
        have hlt : k < (ws.set k c).length := (List.getElem?_eq_some_iff.mp h2).1
        rw [List.length_set] at hlt
        rw [List.getElem?_set_self hlt] at h2
        cases h2
        exact Or.inl List.mem_cons_self
      · rw [List.getElem?_set_ne (Ne.symm hk)] at h2
        exact Or.inr ⟨fun hm => (List.mem_cons.mp hm).elim hk h1, h2⟩
theorem go_pa_ad : ∀ (is : List Nat) (w1 ws : va_W), is.map (fun i => ws[i]?.map (·.1)) = w1.map (fun c => some c.1) → ∀ k : Nat, (go_pa ws is w1)[k]?.map (·.1) = ws[k]?.map (·.1)
  | [], w1, ws, _, k => by simp [go_pa]
  | i :: is, [], ws, h, k => by simp at h
  | i :: is, c :: cs, ws, h, k => by
    simp only [List.map_cons, List.cons.injEq] at h
    obtain ⟨h1, h2⟩ := h
    have key : ∀ j : Nat, (ws.set i c)[j]?.map (·.1) = ws[j]?.map (·.1) := by
      intro j
      by_cases hj : j = i
      · subst hj
        cases hw : ws[j]? with
        | none => rw [hw] at h1; cases h1
        | some z =>
          have hlt : j < ws.length := (List.getElem?_eq_some_iff.mp hw).1
          rw [List.getElem?_set_self hlt]
          rw [hw] at h1
          exact h1.symm
      · rw [List.getElem?_set_ne (Ne.symm hj)]
    have ih := go_pa_ad is cs (ws.set i c) (by rw [← h2]; exact List.map_congr_left (fun j _ => key j)) k
    show (go_pa (ws.set i c) is cs)[k]?.map (·.1) = _
    rw [ih, key]
theorem go_join {A : Nat → Prop} {D : va_G} {cl : List vw_C} {ws wc w1 : va_W} {H H1 : Heap} (hP : va_P D cl ws H) (hD : va_D A ws) (isC : List Nat) (hC : isC.map (fun i => ws[i]?) = wc.map some) (ha : w1.map (·.1) = wc.map (·.1))
    (hk : ∀ q : Nat, q < H.size → ¬ va_A wc H.size q → H1[q]? = H[q]?) (hP1 : va_P D cl w1 H1) : va_P D cl (go_pa ws isC w1) H1 ∧ va_D A (go_pa ws isC w1) := by
  have hlen : isC.length = w1.length := by
    have h1 : isC.length = wc.length := by simpa using congrArg List.length hC
    have h2 : w1.length = wc.length := by simpa using congrArg List.length ha
    omega
  have had : isC.map (fun i => ws[i]?.map (·.1)) = w1.map (fun c => some c.1) := by
    have h1 : isC.map (fun i => ws[i]?.map (·.1)) = (isC.map (fun i => ws[i]?)).map (fun o => o.map (·.1)) := by rw [List.map_map]; rfl
    rw [h1, hC, List.map_map]
    have h2 : (w1.map (·.1)).map some = (wc.map (·.1)).map some := by rw [ha]
    rw [List.map_map, List.map_map] at h2
    exact h2.symm
  have hor : ∀ (k : Nat) (q : Nat × va_E), (go_pa ws isC w1)[k]? = some q → ∃ q0, ws[k]? = some q0 ∧ q0.1 = q.1 := by
    intro k q h
    have h1 := go_pa_ad isC w1 ws had k
    rw [h] at h1
    cases hw : ws[k]? with
    | none => rw [hw] at h1; cases h1
    | some z => rw [hw] at h1; exact ⟨z, rfl, (Option.some.inj h1).symm⟩
  refine ⟨fun k q h => ?_, fun i j x y hi hj hxy => ?_, fun k q h => ?_⟩
  · rcases go_pa_in isC w1 ws k q hlen h with h1 | ⟨h1, h2⟩
    · obtain ⟨i, hi⟩ := List.getElem?_of_mem h1
      exact hP1 i q hi
    · have hq := hP k q h2
      refine hq.kept (hk q.1 hq.lt (fun hz => ?_))
      rcases hz with ⟨k2, e, h3⟩ | h3
      · have h4 : (isC.map (fun i => ws[i]?))[k2]? = some (some (q.1, e)) := by rw [hC, List.getElem?_map, h3]; rfl
        rw [List.getElem?_map] at h4
        cases hi : isC[k2]? with
        | none => rw [hi] at h4; cases h4
        | some i =>
          rw [hi] at h4
          have h5 : ws[i]? = some (q.1, e) := Option.some.inj h4
          have h6 := hD.1 k i q (q.1, e) h2 h5 rfl
          subst h6
          exact h1 (List.mem_of_getElem? hi)
      · exact absurd hq.lt (by omega)
  · obtain ⟨x0, a1, a2⟩ := hor i x hi
    obtain ⟨y0, b1, b2⟩ := hor j y hj
    exact hD.1 i j x0 y0 a1 b1 (a2.trans (hxy.trans b2.symm))
  · obtain ⟨q0, a1, a2⟩ := hor k q h
    rw [← a2]
    exact hD.2 k q0 a1
theorem go_after {p : Program} {l : Launch} {e : Env} {R : Room} {s : State} {m : MethodId} {args a : Array Value} {below : List Frame} {meth : Method} {c : Code} {H : Heap} {locs : List Loc} {cells slots : Nat} {Q : State → Prop} {pc : Nat} {ls : Array Slot} {rest st0 : List Value} {A : Nat → Prop} {G : go_G} {ws wc w1 : va_W} {rc : Option Value}
    (hr : va_Run p l e R s m args below meth c H locs cells slots 0 0 (F0 m pc ls st0) rest (go_Q G (va_A wc H.size) rc w1 a) (va_A wc H.size)) (hP : va_P G.1 vwCl ws H) (hD : va_D A ws) (hS : va_S A s.heap H locs) (hA : ∀ q, s.heap.size ≤ q → A q) (isC : List Nat) (hC : isC.map (fun i => ws[i]?) = wc.map some) (ha : w1.map (·.1) = wc.map (·.1))
    (kk : ∀ (H1 : Heap) (locs1 : List Loc), va_P G.1 vwCl (go_pa ws isC w1) H1 → va_D A (go_pa ws isC w1) → va_S A s.heap H1 locs1 → W p l e R s m args below meth c H1 locs1 cells slots Q (F0 m (pc + 3) ls (rc.toList ++ rest))) : W p l e R s m args below meth c H locs cells slots Q (F0 m pc ls st0) := by
  intro T hT X
  obtain ⟨v, st₀, t, T', L, h0, X', hL, e1, e2, ⟨hv, hp1, hz, hk⟩, st⟩ := hr T hT X
  cases hv
  rw [h0] at hz hk
  have hF := va_free (wc := wc) hD hS hA isC hC
  rw [← e1] at hp1 hz hk
  obtain ⟨j1, j2⟩ := go_join hP hD isC hC ha hk hp1
  obtain ⟨t2, a1, b1⟩ := kk T'.heap (locs ++ L) j1 j2
    ⟨Nat.le_trans hS.1 hz, fun q h1 h2 => by rw [hk q (Nat.lt_of_lt_of_le h1 hS.1) (fun z => h2 (hF q z))]; exact hS.2.1 q h1 h2, fun q hq => by
      rcases List.mem_append.mp hq with h | h
      · exact hS.2.2 q h
      · exact hF _ (hL q h)⟩ T' rfl X'
  exact ⟨t2, st t2 a1, b1⟩
def go_MV (own : String) (index : Nat) (y : MethodName) (n : Nat) : Prop := Cond.methodLink own index y ∈ go_tb ∧ Cond.instanceMethod y ∈ go_tb ∧ Cond.selects y.cls y y ∈ go_tb ∧ Cond.initialized y.cls ∈ go_tb ∧ (y.cls ≠ "java/lang/invoke/MethodHandle" ∧ y.cls ≠ "java/lang/invoke/VarHandle" ∧ (parseMethodDescriptor y.desc).map (fun d => d.parameters.length) = some n)
def go_MS (own : String) (index : Nat) (y : MethodName) (n : Nat) : Prop := Cond.methodLink own index y ∈ go_tb ∧ Cond.static y ∈ go_tb ∧ Cond.initialized y.cls ∈ go_tb ∧ (y.cls ≠ "java/lang/invoke/MethodHandle" ∧ y.cls ≠ "java/lang/invoke/VarHandle" ∧ (parseMethodDescriptor y.desc).map (fun d => d.parameters.length) = some n)
def go_MN (own : String) (index : Nat) (y : MethodName) (n : Nat) : Prop := (∃ host, Cond.methodLinkNest own index y host ∈ lw_tbl) ∧ Cond.static y ∈ go_tb ∧ Cond.initialized y.cls ∈ go_tb ∧ (y.cls ≠ "java/lang/invoke/MethodHandle" ∧ y.cls ≠ "java/lang/invoke/VarHandle" ∧ (parseMethodDescriptor y.desc).map (fun d => d.parameters.length) = some n)
theorem go_blind {G : go_G} {As : List Value} {W0 : va_W} {sz : Nat} : FrameBlind (va_Pc As (fun U => U.heap.size = sz ∧ va_P G.1 vwCl W0 U.heap ∧ go_KK G U ∧ va_D (fun _ => True) W0)) := fun _ _ _ _ q => ⟨q.1, q.2.1, q.2.2.1, go_KK_calling q.2.2.2.1, q.2.2.2.2⟩
theorem go_goodW {y : MethodName} {bytes : ByteArray} {n : Nat} {r : Option FieldType} (h : Cond.code y bytes n r ∈ go_tb) : GoodIn go_tb (Cond.code y bytes n r :: go_tb) := fun w hw => (List.mem_cons.mp hw).elim (fun e => by subst e; exact go_tb_good _ h) (go_tb_good w)
section GC
variable {X : go_X} {cc : ByteArray} {own : String} {rt : Option FieldType} {nL fr lo rc rs : Nat} {G : go_G} {kz : Nat × Nat} {ws : va_W} {lv : List (Nat × Value)} {st : List Value} {pc : Nat}
variable {y : MethodName} {bytes : ByteArray} {nL' fr' lo' : Nat} {rt' : Option FieldType} {As : List Value} {wc w1 : va_W} {ra : Option Value} {b n index ci : Nat}
/-- the words of a world's part -/
theorem go_callV (C : go_Cx X cc own rt nL fr lo rc rs G) (hF : go_Fn y bytes nL' rt' fr' lo' G (.ref b :: As) wc ra w1) (M : go_MV own index y n) (hcode : Cond.code y bytes nL' rt' ∈ go_tb) (d : decode cc pc = .ok (.invokevirtual index, 3)) (rest : List Value) (hst : st = As.reverse ++ .ref b :: rest) (isC : List Nat) (hC : isC.map (fun i => ws[i]?) = wc.map some) (hnd : va_nd isC = true) (ha : w1.map (·.1) = wc.map (·.1))
    (q0 : Nat) {fs : List Value} {T : u_T} {N : Nat} (hq : ws[q0]? = some (b, .inr (ci, fs))) (hcl : vwCl[ci]? = some (y.cls, T, N)) (hn : As.length = n) (hR : fr' + 1 ≤ fr ∧ 8 + (nL' + 11) + lo' ≤ lo ∧ kz.1 ≤ rc ∧ kz.2 ≤ rs ∧ (rest.map fun v => v.category).sum ≤ 8) (ws' : va_W) (hw : go_pa ws isC w1 = ws') (kk : go_Go X kz ws' lv (ra.toList ++ rest) (pc + 3)) : go_Go X kz ws lv st pc := by
  obtain ⟨p, l, e, R, s, m, args, below, meth, c, G', nL0, A, Q⟩ := X
  obtain ⟨hx, hb, hr, hml, hown, hts, hlk, hK, rfl, rfl, rfl, hA⟩ := C
  intro H locs ls hP hD hS hl
  subst hw; subst hst
  obtain ⟨m1, m2, m3, m4, m5⟩ := M
  have hPc : va_P G'.1 vwCl wc H := hP.sub isC (by
    have : isC.filterMap (fun i => ws[i]?) = (isC.map (fun i => ws[i]?)).filterMap id := by rw [List.filterMap_map]; rfl
    rw [this, hC, List.filterMap_map]; exact List.filterMap_some)
  have hDc : va_D A wc := hD.sub isC hnd hC
  have cb : CallB { frames := fr, cells := rc, slots := rs, locals := lo } s args own index y bytes nL' rt' (Cond.code y bytes nL' rt' :: go_tb) { frames := fr', cells := 0, slots := 0, locals := lo' } 0 0 n := callB_of n hts (go_goodW hcode) rfl rfl rfl (hts _ m4) (hts _ m1) m5 ⟨hR.1, hR.2.1⟩
  refine go_after (G := G') (va_runV (As := As) (rest := rest) ⟨hx, hb, hml, hown, hts⟩ (hF l H.size) ⟨cb, hts _ m2, hts _ m3⟩ ⟨go_blind, va_recv hK.1 hP hcl hq, fun U hU hW => ⟨rfl, by rw [hU], by rw [hU]; exact hPc, go_KK_warm hW hK, hDc.weaken (fun _ _ _ _ => trivial)⟩⟩ rfl hn hl.1 rfl (lv_room hR.2.2.2.2) d ⟨hR.2.2.1, hR.2.2.2.1⟩) hP hD hS hA isC hC ha (fun H1 locs1 hP1 hD1 hS1 => kk H1 locs1 ls hP1 hD1 hS1 hl)
theorem go_callS (C : go_Cx X cc own rt nL fr lo rc rs G) (hF : go_Fn y bytes nL' rt' fr' lo' G As wc ra w1) (M : go_MS own index y n) (hcode : Cond.code y bytes nL' rt' ∈ go_tb) (d : decode cc pc = .ok (.invokestatic index, 3)) (rest : List Value) (hst : st = As.reverse ++ rest) (isC : List Nat) (hC : isC.map (fun i => ws[i]?) = wc.map some) (hnd : va_nd isC = true) (ha : w1.map (·.1) = wc.map (·.1))
    (hn : As.length = n) (hR : fr' + 1 ≤ fr ∧ 8 + (nL' + 11) + lo' ≤ lo ∧ kz.1 ≤ rc ∧ kz.2 ≤ rs ∧ (rest.map fun v => v.category).sum ≤ 8) (ws' : va_W) (hw : go_pa ws isC w1 = ws') (kk : go_Go X kz ws' lv (ra.toList ++ rest) (pc + 3)) : go_Go X kz ws lv st pc := by
  obtain ⟨p, l, e, R, s, m, args, below, meth, c, G', nL0, A, Q⟩ := X
  obtain ⟨hx, hb, hr, hml, hown, hts, hlk, hK, rfl, rfl, rfl, hA⟩ := C
  intro H locs ls hP hD hS hl
  subst hw; subst hst
  obtain ⟨m1, m2, m4, m5⟩ := M
  have hPc : va_P G'.1 vwCl wc H := hP.sub isC (by
    have : isC.filterMap (fun i => ws[i]?) = (isC.map (fun i => ws[i]?)).filterMap id := by rw [List.filterMap_map]; rfl
    rw [this, hC, List.filterMap_map]; exact List.filterMap_some)
  have hDc : va_D A wc := hD.sub isC hnd hC
  have cb : CallB { frames := fr, cells := rc, slots := rs, locals := lo } s args own index y bytes nL' rt' (Cond.code y bytes nL' rt' :: go_tb) { frames := fr', cells := 0, slots := 0, locals := lo' } 0 0 n := callB_of n hts (go_goodW hcode) rfl rfl rfl (hts _ m4) (hts _ m1) m5 ⟨hR.1, hR.2.1⟩
  refine go_after (G := G') (va_runS (As := As) (rest := rest) ⟨hx, hb, hml, hown, hts⟩ (hF l H.size) ⟨cb, hts _ m2⟩ ⟨go_blind, fun U hU hW => ⟨rfl, by rw [hU], by rw [hU]; exact hPc, go_KK_warm hW hK, hDc.weaken (fun _ _ _ _ => trivial)⟩⟩ rfl hn hl.1 rfl (lv_room hR.2.2.2.2) d ⟨hR.2.2.1, hR.2.2.2.1⟩) hP hD hS hA isC hC ha (fun H1 locs1 hP1 hD1 hS1 => kk H1 locs1 ls hP1 hD1 hS1 hl)
theorem go_callN (C : go_Cx X cc own rt nL fr lo rc rs G) (hF : go_Fn y bytes nL' rt' fr' lo' G As wc ra w1) (M : go_MN own index y n) (hcode : Cond.code y bytes nL' rt' ∈ go_tb) (d : decode cc pc = .ok (.invokestatic index, 3)) (rest : List Value) (hst : st = As.reverse ++ rest) (isC : List Nat) (hC : isC.map (fun i => ws[i]?) = wc.map some) (hnd : va_nd isC = true) (ha : w1.map (·.1) = wc.map (·.1))
    (hn : As.length = n) (hR : fr' + 1 ≤ fr ∧ 8 + (nL' + 11) + lo' ≤ lo ∧ kz.1 ≤ rc ∧ kz.2 ≤ rs ∧ (rest.map fun v => v.category).sum ≤ 8) (ws' : va_W) (hw : go_pa ws isC w1 = ws') (kk : go_Go X kz ws' lv (ra.toList ++ rest) (pc + 3)) : go_Go X kz ws lv st pc := by
  obtain ⟨p, l, e, R, s, m, args, below, meth, c, G', nL0, A, Q⟩ := X
  obtain ⟨hx, hb, hr, hml, hown, hts, hlk, hK, rfl, rfl, rfl, hA⟩ := C
  intro H locs ls hP hD hS hl
  subst hw; subst hst
  obtain ⟨⟨host, m1⟩, m2, m4, m5⟩ := M
  have hPc : va_P G'.1 vwCl wc H := hP.sub isC (by
    have : isC.filterMap (fun i => ws[i]?) = (isC.map (fun i => ws[i]?)).filterMap id := by rw [List.filterMap_map]; rfl
    rw [this, hC, List.filterMap_map]; exact List.filterMap_some)
  have hDc : va_D A wc := hD.sub isC hnd hC
  have cb : va_CN { frames := fr, cells := rc, slots := rs, locals := lo } s args own index y host bytes nL' rt' (Cond.code y bytes nL' rt' :: go_tb) { frames := fr', cells := 0, slots := 0, locals := lo' } 0 0 n := va_cnB n hts (go_goodW hcode) rfl rfl rfl (hK.2 _ m1 rfl) (hts _ m4) m5 ⟨hR.1, hR.2.1⟩
  refine go_after (G := G') (va_runSN (As := As) (rest := rest) ⟨hx, hb, hml, hown, hts⟩ (hF l H.size) ⟨cb, hts _ m2, trivial⟩ ⟨go_blind, fun U hU hW => ⟨rfl, by rw [hU], by rw [hU]; exact hPc, go_KK_warm hW hK, hDc.weaken (fun _ _ _ _ => trivial)⟩⟩ rfl hn hl.1 rfl (lv_room hR.2.2.2.2) d ⟨hR.2.2.1, hR.2.2.2.1⟩) hP hD hS hA isC hC ha (fun H1 locs1 hP1 hD1 hS1 => kk H1 locs1 ls hP1 hD1 hS1 hl)
/-- System.arraycopy of ints, by numbers -/
theorem go_copy (C : go_Cx X cc own rt nL fr lo rc rs G) (hl1 : Cond.methodLink own index arraycopyName ∈ go_tb) (hl2 : Cond.native arraycopyName ∈ go_tb ∧ Cond.static arraycopyName ∈ go_tb ∧ Cond.initialized "java/lang/System" ∈ go_tb) (d : decode cc pc = .ok (.invokestatic index, 3)) {a a0 n0 n1 : Nat} {f g : Nat → Int32} {sp dp cn : Int32} (q0 q1 : Nat) (ha0 : ws[q0]? = some (a0, .inl (G.2.1, n0, .inl f))) (ha1 : ws[q1]? = some (a, .inl (G.2.1, n1, .inl g)))
    (sj dj nj : Nat) (h1 : sp = nI sj) (h2 : dp = nI dj) (h3 : cn = nI nj) (h4 : sj + nj ≤ n0) (h5 : dj + nj ≤ n1) (hb0 : n0 < 2 ^ 31) (hb1 : n1 < 2 ^ 31) (hR : 1 ≤ fr ∧ (st.map fun v => v.category).sum + (nativeFrameWords "java/lang/System" "arraycopy" 5 + 11) ≤ lo) (ws' : va_W) (hw : ws.set q1 (a, .inl (G.2.1, n1, .inl (va_cpy f g sj dj nj))) = ws') (kk : go_Go X kz ws' lv st (pc + 3)) : go_Go X kz ws lv (.int cn :: .int dp :: .ref a :: .int sp :: .ref a0 :: st) pc := by
  obtain ⟨p, l, e, R, s, m, args, below, meth, c, G', nL0, A, Q⟩ := X
  obtain ⟨hx, hb, hr, hml, hown, hts, hlk, hK, rfl, rfl, rfl, hA⟩ := C
  intro H locs ls hP hD hS hl
  subst h1; subst h2; subst h3; subst hw
  have c1 : (nI sj).toNatClampNeg = sj := nI_clamp (by omega)
  have c2 : (nI dj).toNatClampNeg = dj := nI_clamp (by omega)
  have c3 : (nI nj).toNatClampNeg = nj := nI_clamp (by omega)
  refine va_copyi hx hb (hml.trans hl.1.symm) hown (hts _ hl1) (hts _ hl2.1) (hts _ hl2.2.1) (hts _ hl2.2.2) hK.1 hP hD hS q0 q1 0 0 (ty := .int) ha0 ha1 rfl rfl rfl (nI_pos (by omega)) (nI_pos (by omega)) (nI_pos (by omega)) (by rw [c1, c3]; exact h4) (by rw [c2, c3]; exact h5) (fun _ _ => rfl) hR.1 hR.2 d (fun H1 locs1 hP1 hD1 hS1 => ?_)
  rw [c1, c2, c3] at hP1 hD1
  exact kk H1 locs1 ls hP1 hD1 hS1 hl
end GC
end
section
theorem ui_X0 : ∀ w ∈ u_ws RX0 TX0 1, w ∈ go_tb := List.forall_mem_cons.mpr ⟨go_tb_of (List.mem_of_getElem? (i := 66) (by decide +kernel)) rfl, fun _ h => absurd h List.not_mem_nil⟩
theorem ui_X1 : ∀ w ∈ u_ws RX1 TX1 1, w ∈ go_tb := List.forall_mem_cons.mpr ⟨go_tb_of (List.mem_of_getElem? (i := 111) (by decide +kernel)) rfl, fun _ h => absurd h List.not_mem_nil⟩
theorem ui_X2 : ∀ w ∈ u_ws RX2 TX2 2, w ∈ go_tb := List.forall_mem_cons.mpr ⟨go_tb_of (List.mem_of_getElem? (i := 122) (by decide +kernel)) rfl, List.forall_mem_cons.mpr ⟨go_tb_of (List.mem_of_getElem? (i := 124) (by decide +kernel)) rfl, fun _ h => absurd h List.not_mem_nil⟩⟩
theorem ui_X3 : ∀ w ∈ u_ws RX3 TX3 3, w ∈ go_tb := List.forall_mem_cons.mpr ⟨go_tb_of (List.mem_of_getElem? (i := 93) (by decide +kernel)) rfl, List.forall_mem_cons.mpr ⟨go_tb_of (List.mem_of_getElem? (i := 95) (by decide +kernel)) rfl, List.forall_mem_cons.mpr ⟨go_tb_of (List.mem_of_getElem? (i := 97) (by decide +kernel)) rfl, fun _ h => absurd h List.not_mem_nil⟩⟩⟩
theorem ui_X4 : ∀ w ∈ u_ws RX4 TX4 5, w ∈ go_tb := List.forall_mem_cons.mpr ⟨go_tb_of (List.mem_of_getElem? (i := 138) (by decide +kernel)) rfl, List.forall_mem_cons.mpr ⟨go_tb_of (List.mem_of_getElem? (i := 140) (by decide +kernel)) rfl, List.forall_mem_cons.mpr ⟨go_tb_of (List.mem_of_getElem? (i := 142) (by decide +kernel)) rfl, List.forall_mem_cons.mpr ⟨go_tb_of (List.mem_of_getElem? (i := 144) (by decide +kernel)) rfl, List.forall_mem_cons.mpr ⟨go_tb_of (List.mem_of_getElem? (i := 146) (by decide +kernel)) rfl, fun _ h => absurd h List.not_mem_nil⟩⟩⟩⟩⟩
theorem ui_X5 : ∀ w ∈ u_ws RX5 TX5 4, w ∈ go_tb := List.forall_mem_cons.mpr ⟨go_tb_of (List.mem_of_getElem? (i := 159) (by decide +kernel)) rfl, List.forall_mem_cons.mpr ⟨go_tb_of (List.mem_of_getElem? (i := 161) (by decide +kernel)) rfl, List.forall_mem_cons.mpr ⟨go_tb_of (List.mem_of_getElem? (i := 163) (by decide +kernel)) rfl, List.forall_mem_cons.mpr ⟨go_tb_of (List.mem_of_getElem? (i := 165) (by decide +kernel)) rfl, fun _ h => absurd h List.not_mem_nil⟩⟩⟩⟩
theorem ui_X7 : ∀ w ∈ u_ws RX7 TX7 2, w ∈ go_tb := List.forall_mem_cons.mpr ⟨go_tb_of (List.mem_of_getElem? (i := 85) (by decide +kernel)) rfl, List.forall_mem_cons.mpr ⟨go_tb_of (List.mem_of_getElem? (i := 87) (by decide +kernel)) rfl, fun _ h => absurd h List.not_mem_nil⟩⟩
theorem ui_X8 : ∀ w ∈ u_ws RX8 TX8 15, w ∈ go_tb := List.forall_mem_cons.mpr ⟨go_tb_of (List.mem_of_getElem? (i := 212) (by decide +kernel)) rfl, List.forall_mem_cons.mpr ⟨go_tb_of (List.mem_of_getElem? (i := 214) (by decide +kernel)) rfl, List.forall_mem_cons.mpr ⟨go_tb_of (List.mem_of_getElem? (i := 216) (by decide +kernel)) rfl, List.forall_mem_cons.mpr ⟨go_tb_of (List.mem_of_getElem? (i := 218) (by decide +kernel)) rfl, List.forall_mem_cons.mpr ⟨go_tb_of (List.mem_of_getElem? (i := 220) (by decide +kernel)) rfl, List.forall_mem_cons.mpr ⟨go_tb_of (List.mem_of_getElem? (i := 222) (by decide +kernel)) rfl, List.forall_mem_cons.mpr ⟨go_tb_of (List.mem_of_getElem? (i := 224) (by decide +kernel)) rfl, List.forall_mem_cons.mpr ⟨go_tb_of (List.mem_of_getElem? (i := 226) (by decide +kernel)) rfl, List.forall_mem_cons.mpr ⟨go_tb_of (List.mem_of_getElem? (i := 228) (by decide +kernel)) rfl, List.forall_mem_cons.mpr ⟨go_tb_of (List.mem_of_getElem? (i := 230) (by decide +kernel)) rfl, List.forall_mem_cons.mpr ⟨go_tb_of (List.mem_of_getElem? (i := 232) (by decide +kernel)) rfl, List.forall_mem_cons.mpr ⟨go_tb_of (List.mem_of_getElem? (i := 234) (by decide +kernel)) rfl, List.forall_mem_cons.mpr ⟨go_tb_of (List.mem_of_getElem? (i := 236) (by decide +kernel)) rfl, List.forall_mem_cons.mpr ⟨go_tb_of (List.mem_of_getElem? (i := 238) (by decide +kernel)) rfl, List.forall_mem_cons.mpr ⟨go_tb_of (List.mem_of_getElem? (i := 240) (by decide +kernel)) rfl, fun _ h => absurd h List.not_mem_nil⟩⟩⟩⟩⟩⟩⟩⟩⟩⟩⟩⟩⟩⟩⟩
theorem ui_X9 : ∀ w ∈ u_ws RX9 TX9 19, w ∈ go_tb := List.forall_mem_cons.mpr ⟨go_tb_of (List.mem_of_getElem? (i := 595) (by decide +kernel)) rfl, List.forall_mem_cons.mpr ⟨go_tb_of (List.mem_of_getElem? (i := 597) (by decide +kernel)) rfl, List.forall_mem_cons.mpr ⟨go_tb_of (List.mem_of_getElem? (i := 599) (by decide +kernel)) rfl, List.forall_mem_cons.mpr ⟨go_tb_of (List.mem_of_getElem? (i := 601) (by decide +kernel)) rfl, List.forall_mem_cons.mpr ⟨go_tb_of (List.mem_of_getElem? (i := 603) (by decide +kernel)) rfl, List.forall_mem_cons.mpr ⟨go_tb_of (List.mem_of_getElem? (i := 605) (by decide +kernel)) rfl, List.forall_mem_cons.mpr ⟨go_tb_of (List.mem_of_getElem? (i := 607) (by decide +kernel)) rfl, List.forall_mem_cons.mpr ⟨go_tb_of (List.mem_of_getElem? (i := 609) (by decide +kernel)) rfl, List.forall_mem_cons.mpr ⟨go_tb_of (List.mem_of_getElem? (i := 611) (by decide +kernel)) rfl, List.forall_mem_cons.mpr ⟨go_tb_of (List.mem_of_getElem? (i := 613) (by decide +kernel)) rfl, List.forall_mem_cons.mpr ⟨go_tb_of (List.mem_of_getElem? (i := 615) (by decide +kernel)) rfl, List.forall_mem_cons.mpr ⟨go_tb_of (List.mem_of_getElem? (i := 617) (by decide +kernel)) rfl, List.forall_mem_cons.mpr ⟨go_tb_of (List.mem_of_getElem? (i := 619) (by decide +kernel)) rfl, List.forall_mem_cons.mpr ⟨go_tb_of (List.mem_of_getElem? (i := 621) (by decide +kernel)) rfl, List.forall_mem_cons.mpr ⟨go_tb_of (List.mem_of_getElem? (i := 623) (by decide +kernel)) rfl, List.forall_mem_cons.mpr ⟨go_tb_of (List.mem_of_getElem? (i := 625) (by decide +kernel)) rfl, List.forall_mem_cons.mpr ⟨go_tb_of (List.mem_of_getElem? (i := 627) (by decide +kernel)) rfl, List.forall_mem_cons.mpr ⟨go_tb_of (List.mem_of_getElem? (i := 629) (by decide +kernel)) rfl, List.forall_mem_cons.mpr ⟨go_tb_of (List.mem_of_getElem? (i := 631) (by decide +kernel)) rfl, fun _ h => absurd h List.not_mem_nil⟩⟩⟩⟩⟩⟩⟩⟩⟩⟩⟩⟩⟩⟩⟩⟩⟩⟩⟩
theorem fl_X0_9 : go_FL RX0 9 0 0 := ⟨RX0, TX0, 1, rfl, ui_X0, by decide, go_tb_of (List.mem_of_getElem? (i := 65) (by decide +kernel)) rfl⟩
theorem ml_X0_15 : go_MS RX0 15 yJ7_fill_53178 2 := ⟨go_tb_of (List.mem_of_getElem? (i := 179) (by decide +kernel)) rfl, go_tb_of (List.mem_of_getElem? (i := 173) (by decide +kernel)) rfl, go_tb_of (List.mem_of_getElem? (i := 46) (by decide +kernel)) rfl, by decide +kernel⟩
theorem ml_X0_21 : go_MN RX0 21 yX8_isVariable 1 := ⟨⟨"ProtoCheck", List.mem_of_getElem? (i := 259) (by decide +kernel)⟩, go_tb_of (List.mem_of_getElem? (i := 249) (by decide +kernel)) rfl, go_tb_of (List.mem_of_getElem? (i := 38) (by decide +kernel)) rfl, by decide +kernel⟩
theorem ml_X0_25 : go_MV RX0 25 yX0_join 2 := ⟨go_tb_of (List.mem_of_getElem? (i := 399) (by decide +kernel)) rfl, go_tb_of (List.mem_of_getElem? (i := 350) (by decide +kernel)) rfl, go_tb_of (List.mem_of_getElem? (i := 351) (by decide +kernel)) rfl, go_tb_of (List.mem_of_getElem? (i := 39) (by decide +kernel)) rfl, by decide +kernel⟩
theorem fl_X1_12 : go_FL RX1 12 1 0 := ⟨RX1, TX1, 1, rfl, ui_X1, by decide, go_tb_of (List.mem_of_getElem? (i := 108) (by decide +kernel)) rfl⟩
theorem ml_X1_18 : go_MV RX1 18 yX7_length 0 := ⟨go_tb_of (List.mem_of_getElem? (i := 342) (by decide +kernel)) rfl, go_tb_of (List.mem_of_getElem? (i := 323) (by decide +kernel)) rfl, go_tb_of (List.mem_of_getElem? (i := 324) (by decide +kernel)) rfl, go_tb_of (List.mem_of_getElem? (i := 41) (by decide +kernel)) rfl, by decide +kernel⟩
theorem ml_X1_22 : go_MV RX1 22 yX7_opAt 1 := ⟨go_tb_of (List.mem_of_getElem? (i := 343) (by decide +kernel)) rfl, go_tb_of (List.mem_of_getElem? (i := 327) (by decide +kernel)) rfl, go_tb_of (List.mem_of_getElem? (i := 328) (by decide +kernel)) rfl, go_tb_of (List.mem_of_getElem? (i := 41) (by decide +kernel)) rfl, by decide +kernel⟩
theorem ml_X1_26 : go_MS RX1 26 yX6_heightAfter 3 := ⟨go_tb_of (List.mem_of_getElem? (i := 344) (by decide +kernel)) rfl, go_tb_of (List.mem_of_getElem? (i := 336) (by decide +kernel)) rfl, go_tb_of (List.mem_of_getElem? (i := 48) (by decide +kernel)) rfl, by decide +kernel⟩
theorem ml_X1_32 : go_MV RX1 32 yX7_next 2 := ⟨go_tb_of (List.mem_of_getElem? (i := 384) (by decide +kernel)) rfl, go_tb_of (List.mem_of_getElem? (i := 385) (by decide +kernel)) rfl, go_tb_of (List.mem_of_getElem? (i := 386) (by decide +kernel)) rfl, go_tb_of (List.mem_of_getElem? (i := 41) (by decide +kernel)) rfl, by decide +kernel⟩
theorem ml_X1_36 : go_MV RX1 36 yX1_isPartStart 1 := ⟨go_tb_of (List.mem_of_getElem? (i := 372) (by decide +kernel)) rfl, go_tb_of (List.mem_of_getElem? (i := 373) (by decide +kernel)) rfl, go_tb_of (List.mem_of_getElem? (i := 374) (by decide +kernel)) rfl, go_tb_of (List.mem_of_getElem? (i := 42) (by decide +kernel)) rfl, by decide +kernel⟩
theorem ml_X1_40 : go_MV RX1 40 yX1_hasExchanged 3 := ⟨go_tb_of (List.mem_of_getElem? (i := 376) (by decide +kernel)) rfl, go_tb_of (List.mem_of_getElem? (i := 378) (by decide +kernel)) rfl, go_tb_of (List.mem_of_getElem? (i := 2) (by decide +kernel)) rfl, go_tb_of (List.mem_of_getElem? (i := 42) (by decide +kernel)) rfl, by decide +kernel⟩
theorem ml_X1_44 : go_MV RX1 44 yX1_partEnd 1 := ⟨go_tb_of (List.mem_of_getElem? (i := 380) (by decide +kernel)) rfl, go_tb_of (List.mem_of_getElem? (i := 381) (by decide +kernel)) rfl, go_tb_of (List.mem_of_getElem? (i := 382) (by decide +kernel)) rfl, go_tb_of (List.mem_of_getElem? (i := 42) (by decide +kernel)) rfl, by decide +kernel⟩
theorem ml_X1_47 : go_MV RX1 47 yX7_turnsInto 6 := ⟨go_tb_of (List.mem_of_getElem? (i := 388) (by decide +kernel)) rfl, go_tb_of (List.mem_of_getElem? (i := 362) (by decide +kernel)) rfl, go_tb_of (List.mem_of_getElem? (i := 363) (by decide +kernel)) rfl, go_tb_of (List.mem_of_getElem? (i := 41) (by decide +kernel)) rfl, by decide +kernel⟩
theorem fl_X2_9 : go_FL RX2 9 2 0 := ⟨RX2, TX2, 2, rfl, ui_X2, by decide, go_tb_of (List.mem_of_getElem? (i := 120) (by decide +kernel)) rfl⟩
theorem ml_X2_15 : go_MV RX2 15 yX7_next 2 := ⟨go_tb_of (List.mem_of_getElem? (i := 490) (by decide +kernel)) rfl, go_tb_of (List.mem_of_getElem? (i := 385) (by decide +kernel)) rfl, go_tb_of (List.mem_of_getElem? (i := 386) (by decide +kernel)) rfl, go_tb_of (List.mem_of_getElem? (i := 41) (by decide +kernel)) rfl, by decide +kernel⟩
theorem ml_X2_21 : go_MV RX2 21 yX2_run 5 := ⟨go_tb_of (List.mem_of_getElem? (i := 423) (by decide +kernel)) rfl, go_tb_of (List.mem_of_getElem? (i := 425) (by decide +kernel)) rfl, go_tb_of (List.mem_of_getElem? (i := 4) (by decide +kernel)) rfl, go_tb_of (List.mem_of_getElem? (i := 43) (by decide +kernel)) rfl, by decide +kernel⟩
theorem ml_X2_25 : go_MN RX2 25 yX8_copyState 2 := ⟨⟨"ProtoCheck", List.mem_of_getElem? (i := 495) (by decide +kernel)⟩, go_tb_of (List.mem_of_getElem? (i := 390) (by decide +kernel)) rfl, go_tb_of (List.mem_of_getElem? (i := 38) (by decide +kernel)) rfl, by decide +kernel⟩
theorem ml_X2_29 : go_MV RX2 29 yX7_length 0 := ⟨go_tb_of (List.mem_of_getElem? (i := 420) (by decide +kernel)) rfl, go_tb_of (List.mem_of_getElem? (i := 323) (by decide +kernel)) rfl, go_tb_of (List.mem_of_getElem? (i := 324) (by decide +kernel)) rfl, go_tb_of (List.mem_of_getElem? (i := 41) (by decide +kernel)) rfl, by decide +kernel⟩
theorem fl_X2_33 : go_FL RX2 33 1 0 := ⟨RX1, TX1, 1, rfl, ui_X1, by decide, go_tb_of (List.mem_of_getElem? (i := 110) (by decide +kernel)) rfl⟩
theorem ml_X2_39 : go_MV RX2 39 yX1_isPartStart 1 := ⟨go_tb_of (List.mem_of_getElem? (i := 421) (by decide +kernel)) rfl, go_tb_of (List.mem_of_getElem? (i := 373) (by decide +kernel)) rfl, go_tb_of (List.mem_of_getElem? (i := 374) (by decide +kernel)) rfl, go_tb_of (List.mem_of_getElem? (i := 42) (by decide +kernel)) rfl, by decide +kernel⟩
theorem ml_X2_43 : go_MV RX2 43 yX1_partEnd 1 := ⟨go_tb_of (List.mem_of_getElem? (i := 422) (by decide +kernel)) rfl, go_tb_of (List.mem_of_getElem? (i := 381) (by decide +kernel)) rfl, go_tb_of (List.mem_of_getElem? (i := 382) (by decide +kernel)) rfl, go_tb_of (List.mem_of_getElem? (i := 42) (by decide +kernel)) rfl, by decide +kernel⟩
theorem fl_X2_47 : go_FL RX2 47 2 1 := ⟨RX2, TX2, 2, rfl, ui_X2, by decide, go_tb_of (List.mem_of_getElem? (i := 121) (by decide +kernel)) rfl⟩
theorem fp_X2_47 : go_FP RX2 47 2 1 .int := ⟨RX2, TX2, 2, tyX2, rfl, ui_X2, by decide, go_tb_of (List.mem_of_getElem? (i := 121) (by decide +kernel)) rfl, tyX2_ok, nmX2, rfl, by decide +kernel⟩
theorem ml_X2_51 : go_MV RX2 51 yX7_at 1 := ⟨go_tb_of (List.mem_of_getElem? (i := 427) (by decide +kernel)) rfl, go_tb_of (List.mem_of_getElem? (i := 331) (by decide +kernel)) rfl, go_tb_of (List.mem_of_getElem? (i := 332) (by decide +kernel)) rfl, go_tb_of (List.mem_of_getElem? (i := 41) (by decide +kernel)) rfl, by decide +kernel⟩
theorem ml_X2_54 : go_MV RX2 54 yX2_step 3 := ⟨go_tb_of (List.mem_of_getElem? (i := 428) (by decide +kernel)) rfl, go_tb_of (List.mem_of_getElem? (i := 430) (by decide +kernel)) rfl, go_tb_of (List.mem_of_getElem? (i := 5) (by decide +kernel)) rfl, go_tb_of (List.mem_of_getElem? (i := 43) (by decide +kernel)) rfl, by decide +kernel⟩
theorem ml_X2_58 : go_MV RX2 58 yX2_pop 0 := ⟨go_tb_of (List.mem_of_getElem? (i := 439) (by decide +kernel)) rfl, go_tb_of (List.mem_of_getElem? (i := 441) (by decide +kernel)) rfl, go_tb_of (List.mem_of_getElem? (i := 7) (by decide +kernel)) rfl, go_tb_of (List.mem_of_getElem? (i := 43) (by decide +kernel)) rfl, by decide +kernel⟩
theorem ml_X2_61 : go_MS RX2 61 yX6_op 1 := ⟨go_tb_of (List.mem_of_getElem? (i := 432) (by decide +kernel)) rfl, go_tb_of (List.mem_of_getElem? (i := 292) (by decide +kernel)) rfl, go_tb_of (List.mem_of_getElem? (i := 48) (by decide +kernel)) rfl, by decide +kernel⟩
theorem ml_X2_66 : go_MS RX2 66 yX6_operand 1 := ⟨go_tb_of (List.mem_of_getElem? (i := 433) (by decide +kernel)) rfl, go_tb_of (List.mem_of_getElem? (i := 295) (by decide +kernel)) rfl, go_tb_of (List.mem_of_getElem? (i := 48) (by decide +kernel)) rfl, by decide +kernel⟩
theorem ml_X2_69 : go_MV RX2 69 yX2_push 1 := ⟨go_tb_of (List.mem_of_getElem? (i := 434) (by decide +kernel)) rfl, go_tb_of (List.mem_of_getElem? (i := 436) (by decide +kernel)) rfl, go_tb_of (List.mem_of_getElem? (i := 6) (by decide +kernel)) rfl, go_tb_of (List.mem_of_getElem? (i := 43) (by decide +kernel)) rfl, by decide +kernel⟩
theorem ml_X2_73 : go_MN RX2 73 yX8_isVariable 1 := ⟨⟨"ProtoCheck", List.mem_of_getElem? (i := 438) (by decide +kernel)⟩, go_tb_of (List.mem_of_getElem? (i := 249) (by decide +kernel)) rfl, go_tb_of (List.mem_of_getElem? (i := 38) (by decide +kernel)) rfl, by decide +kernel⟩
theorem ml_X2_76 : go_MS RX2 76 yX2_joined 3 := ⟨go_tb_of (List.mem_of_getElem? (i := 443) (by decide +kernel)) rfl, go_tb_of (List.mem_of_getElem? (i := 444) (by decide +kernel)) rfl, go_tb_of (List.mem_of_getElem? (i := 43) (by decide +kernel)) rfl, by decide +kernel⟩
theorem fl_X3_11 : go_FL RX3 11 3 0 := ⟨RX3, TX3, 3, rfl, ui_X3, by decide, go_tb_of (List.mem_of_getElem? (i := 90) (by decide +kernel)) rfl⟩
theorem fl_X3_18 : go_FL RX3 18 3 1 := ⟨RX3, TX3, 3, rfl, ui_X3, by decide, go_tb_of (List.mem_of_getElem? (i := 91) (by decide +kernel)) rfl⟩
theorem fl_X3_22 : go_FL RX3 22 3 2 := ⟨RX3, TX3, 3, rfl, ui_X3, by decide, go_tb_of (List.mem_of_getElem? (i := 92) (by decide +kernel)) rfl⟩
theorem fp_X3_22 : go_FP RX3 22 3 2 .int := ⟨RX3, TX3, 3, tyX3, rfl, ui_X3, by decide, go_tb_of (List.mem_of_getElem? (i := 92) (by decide +kernel)) rfl, tyX3_ok, nmX3, rfl, by decide +kernel⟩
theorem ml_X3_26 : go_MV RX3 26 yX7_clear 0 := ⟨go_tb_of (List.mem_of_getElem? (i := 272) (by decide +kernel)) rfl, go_tb_of (List.mem_of_getElem? (i := 185) (by decide +kernel)) rfl, go_tb_of (List.mem_of_getElem? (i := 186) (by decide +kernel)) rfl, go_tb_of (List.mem_of_getElem? (i := 41) (by decide +kernel)) rfl, by decide +kernel⟩
theorem ml_X3_29 : go_MV RX3 29 yX3_at 1 := ⟨go_tb_of (List.mem_of_getElem? (i := 318) (by decide +kernel)) rfl, go_tb_of (List.mem_of_getElem? (i := 282) (by decide +kernel)) rfl, go_tb_of (List.mem_of_getElem? (i := 283) (by decide +kernel)) rfl, go_tb_of (List.mem_of_getElem? (i := 40) (by decide +kernel)) rfl, by decide +kernel⟩
theorem ml_X3_33 : go_MS RX3 33 yX3_isRight 1 := ⟨go_tb_of (List.mem_of_getElem? (i := 319) (by decide +kernel)) rfl, go_tb_of (List.mem_of_getElem? (i := 320) (by decide +kernel)) rfl, go_tb_of (List.mem_of_getElem? (i := 40) (by decide +kernel)) rfl, by decide +kernel⟩
theorem ml_X3_37 : go_MV RX3 37 yX7_length 0 := ⟨go_tb_of (List.mem_of_getElem? (i := 322) (by decide +kernel)) rfl, go_tb_of (List.mem_of_getElem? (i := 323) (by decide +kernel)) rfl, go_tb_of (List.mem_of_getElem? (i := 324) (by decide +kernel)) rfl, go_tb_of (List.mem_of_getElem? (i := 41) (by decide +kernel)) rfl, by decide +kernel⟩
theorem ml_X3_41 : go_MV RX3 41 yX7_opAt 1 := ⟨go_tb_of (List.mem_of_getElem? (i := 326) (by decide +kernel)) rfl, go_tb_of (List.mem_of_getElem? (i := 327) (by decide +kernel)) rfl, go_tb_of (List.mem_of_getElem? (i := 328) (by decide +kernel)) rfl, go_tb_of (List.mem_of_getElem? (i := 41) (by decide +kernel)) rfl, by decide +kernel⟩
theorem ml_X3_45 : go_MS RX3 45 yX6_heightAfter 3 := ⟨go_tb_of (List.mem_of_getElem? (i := 335) (by decide +kernel)) rfl, go_tb_of (List.mem_of_getElem? (i := 336) (by decide +kernel)) rfl, go_tb_of (List.mem_of_getElem? (i := 48) (by decide +kernel)) rfl, by decide +kernel⟩
theorem ml_X3_51 : go_MV RX3 51 yX3_hasExchanged 3 := ⟨go_tb_of (List.mem_of_getElem? (i := 357) (by decide +kernel)) rfl, go_tb_of (List.mem_of_getElem? (i := 359) (by decide +kernel)) rfl, go_tb_of (List.mem_of_getElem? (i := 1) (by decide +kernel)) rfl, go_tb_of (List.mem_of_getElem? (i := 40) (by decide +kernel)) rfl, by decide +kernel⟩
theorem ml_X3_55 : go_MV RX3 55 yX7_turnsInto 6 := ⟨go_tb_of (List.mem_of_getElem? (i := 361) (by decide +kernel)) rfl, go_tb_of (List.mem_of_getElem? (i := 362) (by decide +kernel)) rfl, go_tb_of (List.mem_of_getElem? (i := 363) (by decide +kernel)) rfl, go_tb_of (List.mem_of_getElem? (i := 41) (by decide +kernel)) rfl, by decide +kernel⟩
theorem fl_X4_9 : go_FL RX4 9 4 0 := ⟨RX4, TX4, 5, rfl, ui_X4, by decide, go_tb_of (List.mem_of_getElem? (i := 133) (by decide +kernel)) rfl⟩
theorem fl_X4_15 : go_FL RX4 15 4 1 := ⟨RX4, TX4, 5, rfl, ui_X4, by decide, go_tb_of (List.mem_of_getElem? (i := 134) (by decide +kernel)) rfl⟩
theorem fl_X4_18 : go_FL RX4 18 4 2 := ⟨RX4, TX4, 5, rfl, ui_X4, by decide, go_tb_of (List.mem_of_getElem? (i := 135) (by decide +kernel)) rfl⟩
theorem fl_X4_21 : go_FL RX4 21 4 3 := ⟨RX4, TX4, 5, rfl, ui_X4, by decide, go_tb_of (List.mem_of_getElem? (i := 136) (by decide +kernel)) rfl⟩
theorem fl_X4_24 : go_FL RX4 24 4 4 := ⟨RX4, TX4, 5, rfl, ui_X4, by decide, go_tb_of (List.mem_of_getElem? (i := 137) (by decide +kernel)) rfl⟩
theorem fp_X4_24 : go_FP RX4 24 4 4 .int := ⟨RX4, TX4, 5, tyX4, rfl, ui_X4, by decide, go_tb_of (List.mem_of_getElem? (i := 137) (by decide +kernel)) rfl, tyX4_ok, nmX4, rfl, by decide +kernel⟩
theorem ml_X4_28 : go_MS RX4 28 yJ7_fill_53178 2 := ⟨go_tb_of (List.mem_of_getElem? (i := 192) (by decide +kernel)) rfl, go_tb_of (List.mem_of_getElem? (i := 173) (by decide +kernel)) rfl, go_tb_of (List.mem_of_getElem? (i := 46) (by decide +kernel)) rfl, by decide +kernel⟩
theorem ml_X4_34 : go_MV RX4 34 yX4_has 1 := ⟨go_tb_of (List.mem_of_getElem? (i := 465) (by decide +kernel)) rfl, go_tb_of (List.mem_of_getElem? (i := 467) (by decide +kernel)) rfl, go_tb_of (List.mem_of_getElem? (i := 9) (by decide +kernel)) rfl, go_tb_of (List.mem_of_getElem? (i := 44) (by decide +kernel)) rfl, by decide +kernel⟩
theorem ml_X4_38 : Cond.methodLink RX4 38 arraycopyName ∈ go_tb := go_tb_of (List.mem_of_getElem? (i := 415) (by decide +kernel)) rfl
theorem ml_X4_44 : go_MS RX4 44 yX4_bucketOf 1 := ⟨go_tb_of (List.mem_of_getElem? (i := 412) (by decide +kernel)) rfl, go_tb_of (List.mem_of_getElem? (i := 413) (by decide +kernel)) rfl, go_tb_of (List.mem_of_getElem? (i := 44) (by decide +kernel)) rfl, by decide +kernel⟩
theorem ml_X4_48 : go_MV RX4 48 yX4_isState 2 := ⟨go_tb_of (List.mem_of_getElem? (i := 500) (by decide +kernel)) rfl, go_tb_of (List.mem_of_getElem? (i := 502) (by decide +kernel)) rfl, go_tb_of (List.mem_of_getElem? (i := 11) (by decide +kernel)) rfl, go_tb_of (List.mem_of_getElem? (i := 44) (by decide +kernel)) rfl, by decide +kernel⟩
theorem fl_X5_9 : go_FL RX5 9 5 0 := ⟨RX5, TX5, 4, rfl, ui_X5, by decide, go_tb_of (List.mem_of_getElem? (i := 155) (by decide +kernel)) rfl⟩
theorem fl_X5_15 : go_FL RX5 15 5 1 := ⟨RX5, TX5, 4, rfl, ui_X5, by decide, go_tb_of (List.mem_of_getElem? (i := 156) (by decide +kernel)) rfl⟩
theorem fl_X5_18 : go_FL RX5 18 5 2 := ⟨RX5, TX5, 4, rfl, ui_X5, by decide, go_tb_of (List.mem_of_getElem? (i := 157) (by decide +kernel)) rfl⟩
theorem fl_X5_21 : go_FL RX5 21 5 3 := ⟨RX5, TX5, 4, rfl, ui_X5, by decide, go_tb_of (List.mem_of_getElem? (i := 158) (by decide +kernel)) rfl⟩
theorem fp_X5_21 : go_FP RX5 21 5 3 .int := ⟨RX5, TX5, 4, tyX5, rfl, ui_X5, by decide, go_tb_of (List.mem_of_getElem? (i := 158) (by decide +kernel)) rfl, tyX5_ok, nmX5, rfl, by decide +kernel⟩
theorem ml_X5_25 : go_MV RX5 25 yX4_count 0 := ⟨go_tb_of (List.mem_of_getElem? (i := 454) (by decide +kernel)) rfl, go_tb_of (List.mem_of_getElem? (i := 455) (by decide +kernel)) rfl, go_tb_of (List.mem_of_getElem? (i := 456) (by decide +kernel)) rfl, go_tb_of (List.mem_of_getElem? (i := 44) (by decide +kernel)) rfl, by decide +kernel⟩
theorem ml_X5_31 : go_MS RX5 31 yX5_stepsTo 2 := ⟨go_tb_of (List.mem_of_getElem? (i := 458) (by decide +kernel)) rfl, go_tb_of (List.mem_of_getElem? (i := 459) (by decide +kernel)) rfl, go_tb_of (List.mem_of_getElem? (i := 45) (by decide +kernel)) rfl, by decide +kernel⟩
theorem ml_X5_35 : go_MV RX5 35 yX4_parentOf 1 := ⟨go_tb_of (List.mem_of_getElem? (i := 461) (by decide +kernel)) rfl, go_tb_of (List.mem_of_getElem? (i := 462) (by decide +kernel)) rfl, go_tb_of (List.mem_of_getElem? (i := 463) (by decide +kernel)) rfl, go_tb_of (List.mem_of_getElem? (i := 44) (by decide +kernel)) rfl, by decide +kernel⟩
theorem ml_X5_39 : Cond.methodLink RX5 39 arraycopyName ∈ go_tb := go_tb_of (List.mem_of_getElem? (i := 469) (by decide +kernel)) rfl
theorem ml_X5_45 : go_MV RX5 45 yX5_hasState 1 := ⟨go_tb_of (List.mem_of_getElem? (i := 478) (by decide +kernel)) rfl, go_tb_of (List.mem_of_getElem? (i := 479) (by decide +kernel)) rfl, go_tb_of (List.mem_of_getElem? (i := 480) (by decide +kernel)) rfl, go_tb_of (List.mem_of_getElem? (i := 45) (by decide +kernel)) rfl, by decide +kernel⟩
theorem ml_X6_9 : go_MS RX6 9 yX6_op 1 := ⟨go_tb_of (List.mem_of_getElem? (i := 291) (by decide +kernel)) rfl, go_tb_of (List.mem_of_getElem? (i := 292) (by decide +kernel)) rfl, go_tb_of (List.mem_of_getElem? (i := 48) (by decide +kernel)) rfl, by decide +kernel⟩
theorem ml_X6_15 : go_MS RX6 15 yX6_operand 1 := ⟨go_tb_of (List.mem_of_getElem? (i := 294) (by decide +kernel)) rfl, go_tb_of (List.mem_of_getElem? (i := 295) (by decide +kernel)) rfl, go_tb_of (List.mem_of_getElem? (i := 48) (by decide +kernel)) rfl, by decide +kernel⟩
theorem ml_X6_18 : go_MN RX6 18 yX8_isVariable 1 := ⟨⟨"ProtoCheck", List.mem_of_getElem? (i := 297) (by decide +kernel)⟩, go_tb_of (List.mem_of_getElem? (i := 249) (by decide +kernel)) rfl, go_tb_of (List.mem_of_getElem? (i := 38) (by decide +kernel)) rfl, by decide +kernel⟩
theorem fl_X7_9 : go_FL RX7 9 6 0 := ⟨RX7, TX7, 2, rfl, ui_X7, by decide, go_tb_of (List.mem_of_getElem? (i := 83) (by decide +kernel)) rfl⟩
theorem fl_X7_15 : go_FL RX7 15 6 1 := ⟨RX7, TX7, 2, rfl, ui_X7, by decide, go_tb_of (List.mem_of_getElem? (i := 84) (by decide +kernel)) rfl⟩
theorem fp_X7_15 : go_FP RX7 15 6 1 .int := ⟨RX7, TX7, 2, tyX7, rfl, ui_X7, by decide, go_tb_of (List.mem_of_getElem? (i := 84) (by decide +kernel)) rfl, tyX7_ok, nmX7, rfl, by decide +kernel⟩
theorem ml_X7_19 : go_MV RX7 19 yX7_at 1 := ⟨go_tb_of (List.mem_of_getElem? (i := 330) (by decide +kernel)) rfl, go_tb_of (List.mem_of_getElem? (i := 331) (by decide +kernel)) rfl, go_tb_of (List.mem_of_getElem? (i := 332) (by decide +kernel)) rfl, go_tb_of (List.mem_of_getElem? (i := 41) (by decide +kernel)) rfl, by decide +kernel⟩
theorem ml_X7_23 : go_MS RX7 23 yX6_op 1 := ⟨go_tb_of (List.mem_of_getElem? (i := 334) (by decide +kernel)) rfl, go_tb_of (List.mem_of_getElem? (i := 292) (by decide +kernel)) rfl, go_tb_of (List.mem_of_getElem? (i := 48) (by decide +kernel)) rfl, by decide +kernel⟩
theorem ml_X7_28 : go_MS RX7 28 yX6_exchanged 3 := ⟨go_tb_of (List.mem_of_getElem? (i := 365) (by decide +kernel)) rfl, go_tb_of (List.mem_of_getElem? (i := 366) (by decide +kernel)) rfl, go_tb_of (List.mem_of_getElem? (i := 48) (by decide +kernel)) rfl, by decide +kernel⟩
theorem fl_X8_9 : go_FL RX8 9 7 0 := ⟨RX8, TX8, 15, rfl, ui_X8, by decide, go_tb_of (List.mem_of_getElem? (i := 197) (by decide +kernel)) rfl⟩
theorem fl_X8_13 : go_FL RX8 13 7 1 := ⟨RX8, TX8, 15, rfl, ui_X8, by decide, go_tb_of (List.mem_of_getElem? (i := 198) (by decide +kernel)) rfl⟩
theorem fl_X8_19 : go_FL RX8 19 7 2 := ⟨RX8, TX8, 15, rfl, ui_X8, by decide, go_tb_of (List.mem_of_getElem? (i := 199) (by decide +kernel)) rfl⟩
theorem fl_X8_26 : go_FL RX8 26 7 3 := ⟨RX8, TX8, 15, rfl, ui_X8, by decide, go_tb_of (List.mem_of_getElem? (i := 200) (by decide +kernel)) rfl⟩
theorem fl_X8_33 : go_FL RX8 33 7 4 := ⟨RX8, TX8, 15, rfl, ui_X8, by decide, go_tb_of (List.mem_of_getElem? (i := 201) (by decide +kernel)) rfl⟩
theorem fl_X8_40 : go_FL RX8 40 7 5 := ⟨RX8, TX8, 15, rfl, ui_X8, by decide, go_tb_of (List.mem_of_getElem? (i := 202) (by decide +kernel)) rfl⟩
theorem fl_X8_47 : go_FL RX8 47 7 6 := ⟨RX8, TX8, 15, rfl, ui_X8, by decide, go_tb_of (List.mem_of_getElem? (i := 203) (by decide +kernel)) rfl⟩
theorem fl_X8_54 : go_FL RX8 54 7 7 := ⟨RX8, TX8, 15, rfl, ui_X8, by decide, go_tb_of (List.mem_of_getElem? (i := 204) (by decide +kernel)) rfl⟩
theorem fl_X8_58 : go_FL RX8 58 7 8 := ⟨RX8, TX8, 15, rfl, ui_X8, by decide, go_tb_of (List.mem_of_getElem? (i := 205) (by decide +kernel)) rfl⟩
theorem fl_X8_61 : go_FL RX8 61 7 9 := ⟨RX8, TX8, 15, rfl, ui_X8, by decide, go_tb_of (List.mem_of_getElem? (i := 206) (by decide +kernel)) rfl⟩
theorem fl_X8_64 : go_FL RX8 64 7 10 := ⟨RX8, TX8, 15, rfl, ui_X8, by decide, go_tb_of (List.mem_of_getElem? (i := 207) (by decide +kernel)) rfl⟩
theorem ml_X8_67 : go_MV RX8 67 yX8_init_ 0 := ⟨go_tb_of (List.mem_of_getElem? (i := 168) (by decide +kernel)) rfl, go_tb_of (List.mem_of_getElem? (i := 169) (by decide +kernel)) rfl, go_tb_of (List.mem_of_getElem? (i := 170) (by decide +kernel)) rfl, go_tb_of (List.mem_of_getElem? (i := 38) (by decide +kernel)) rfl, by decide +kernel⟩
theorem ml_X8_70 : go_MS RX8 70 yJ7_fill_53178 2 := ⟨go_tb_of (List.mem_of_getElem? (i := 172) (by decide +kernel)) rfl, go_tb_of (List.mem_of_getElem? (i := 173) (by decide +kernel)) rfl, go_tb_of (List.mem_of_getElem? (i := 46) (by decide +kernel)) rfl, by decide +kernel⟩
theorem ml_X8_76 : go_MV RX8 76 yX0_clear 0 := ⟨go_tb_of (List.mem_of_getElem? (i := 175) (by decide +kernel)) rfl, go_tb_of (List.mem_of_getElem? (i := 176) (by decide +kernel)) rfl, go_tb_of (List.mem_of_getElem? (i := 177) (by decide +kernel)) rfl, go_tb_of (List.mem_of_getElem? (i := 39) (by decide +kernel)) rfl, by decide +kernel⟩
theorem ml_X8_79 : go_MV RX8 79 yX3_clear 0 := ⟨go_tb_of (List.mem_of_getElem? (i := 180) (by decide +kernel)) rfl, go_tb_of (List.mem_of_getElem? (i := 181) (by decide +kernel)) rfl, go_tb_of (List.mem_of_getElem? (i := 182) (by decide +kernel)) rfl, go_tb_of (List.mem_of_getElem? (i := 40) (by decide +kernel)) rfl, by decide +kernel⟩
theorem fl_X8_80 : go_FL RX8 80 1 0 := ⟨RX1, TX1, 1, rfl, ui_X1, by decide, go_tb_of (List.mem_of_getElem? (i := 109) (by decide +kernel)) rfl⟩
theorem ml_X8_84 : go_MV RX8 84 yX7_clear 0 := ⟨go_tb_of (List.mem_of_getElem? (i := 184) (by decide +kernel)) rfl, go_tb_of (List.mem_of_getElem? (i := 185) (by decide +kernel)) rfl, go_tb_of (List.mem_of_getElem? (i := 186) (by decide +kernel)) rfl, go_tb_of (List.mem_of_getElem? (i := 41) (by decide +kernel)) rfl, by decide +kernel⟩
theorem ml_X8_87 : go_MV RX8 87 yX4_clear 0 := ⟨go_tb_of (List.mem_of_getElem? (i := 188) (by decide +kernel)) rfl, go_tb_of (List.mem_of_getElem? (i := 189) (by decide +kernel)) rfl, go_tb_of (List.mem_of_getElem? (i := 190) (by decide +kernel)) rfl, go_tb_of (List.mem_of_getElem? (i := 44) (by decide +kernel)) rfl, by decide +kernel⟩
theorem ml_X8_88 : go_MV RX8 88 yX5_clear 0 := ⟨go_tb_of (List.mem_of_getElem? (i := 193) (by decide +kernel)) rfl, go_tb_of (List.mem_of_getElem? (i := 194) (by decide +kernel)) rfl, go_tb_of (List.mem_of_getElem? (i := 195) (by decide +kernel)) rfl, go_tb_of (List.mem_of_getElem? (i := 45) (by decide +kernel)) rfl, by decide +kernel⟩
theorem fl_X8_89 : go_FL RX8 89 7 11 := ⟨RX8, TX8, 15, rfl, ui_X8, by decide, go_tb_of (List.mem_of_getElem? (i := 208) (by decide +kernel)) rfl⟩
theorem fp_X8_89 : go_FP RX8 89 7 11 .boolean := ⟨RX8, TX8, 15, tyX8, rfl, ui_X8, by decide, go_tb_of (List.mem_of_getElem? (i := 208) (by decide +kernel)) rfl, tyX8_ok, nmX8, rfl, by decide +kernel⟩
theorem fl_X8_93 : go_FL RX8 93 7 12 := ⟨RX8, TX8, 15, rfl, ui_X8, by decide, go_tb_of (List.mem_of_getElem? (i := 209) (by decide +kernel)) rfl⟩
theorem fp_X8_93 : go_FP RX8 93 7 12 .boolean := ⟨RX8, TX8, 15, tyX8, rfl, ui_X8, by decide, go_tb_of (List.mem_of_getElem? (i := 209) (by decide +kernel)) rfl, tyX8_ok, nmX8, rfl, by decide +kernel⟩
theorem fl_X8_96 : go_FL RX8 96 7 13 := ⟨RX8, TX8, 15, rfl, ui_X8, by decide, go_tb_of (List.mem_of_getElem? (i := 210) (by decide +kernel)) rfl⟩
theorem fp_X8_96 : go_FP RX8 96 7 13 .boolean := ⟨RX8, TX8, 15, tyX8, rfl, ui_X8, by decide, go_tb_of (List.mem_of_getElem? (i := 210) (by decide +kernel)) rfl, tyX8_ok, nmX8, rfl, by decide +kernel⟩
theorem fl_X8_99 : go_FL RX8 99 7 14 := ⟨RX8, TX8, 15, rfl, ui_X8, by decide, go_tb_of (List.mem_of_getElem? (i := 211) (by decide +kernel)) rfl⟩
theorem fp_X8_99 : go_FP RX8 99 7 14 .int := ⟨RX8, TX8, 15, tyX8, rfl, ui_X8, by decide, go_tb_of (List.mem_of_getElem? (i := 211) (by decide +kernel)) rfl, tyX8_ok, nmX8, rfl, by decide +kernel⟩
theorem ml_X8_103 : go_MS RX8 103 yX8_isVariable 1 := ⟨go_tb_of (List.mem_of_getElem? (i := 248) (by decide +kernel)) rfl, go_tb_of (List.mem_of_getElem? (i := 249) (by decide +kernel)) rfl, go_tb_of (List.mem_of_getElem? (i := 38) (by decide +kernel)) rfl, by decide +kernel⟩
theorem ml_X8_107 : go_MV RX8 107 yX0_put 2 := ⟨go_tb_of (List.mem_of_getElem? (i := 255) (by decide +kernel)) rfl, go_tb_of (List.mem_of_getElem? (i := 256) (by decide +kernel)) rfl, go_tb_of (List.mem_of_getElem? (i := 257) (by decide +kernel)) rfl, go_tb_of (List.mem_of_getElem? (i := 39) (by decide +kernel)) rfl, by decide +kernel⟩
theorem ml_X8_111 : go_MV RX8 111 yX3_isFull 0 := ⟨go_tb_of (List.mem_of_getElem? (i := 264) (by decide +kernel)) rfl, go_tb_of (List.mem_of_getElem? (i := 265) (by decide +kernel)) rfl, go_tb_of (List.mem_of_getElem? (i := 266) (by decide +kernel)) rfl, go_tb_of (List.mem_of_getElem? (i := 40) (by decide +kernel)) rfl, by decide +kernel⟩
theorem ml_X8_115 : go_MV RX8 115 yX3_begin 0 := ⟨go_tb_of (List.mem_of_getElem? (i := 268) (by decide +kernel)) rfl, go_tb_of (List.mem_of_getElem? (i := 269) (by decide +kernel)) rfl, go_tb_of (List.mem_of_getElem? (i := 270) (by decide +kernel)) rfl, go_tb_of (List.mem_of_getElem? (i := 40) (by decide +kernel)) rfl, by decide +kernel⟩
theorem ml_X8_119 : go_MV RX8 119 yX3_count 0 := ⟨go_tb_of (List.mem_of_getElem? (i := 277) (by decide +kernel)) rfl, go_tb_of (List.mem_of_getElem? (i := 278) (by decide +kernel)) rfl, go_tb_of (List.mem_of_getElem? (i := 279) (by decide +kernel)) rfl, go_tb_of (List.mem_of_getElem? (i := 40) (by decide +kernel)) rfl, by decide +kernel⟩
theorem ml_X8_122 : go_MV RX8 122 yX3_at 1 := ⟨go_tb_of (List.mem_of_getElem? (i := 281) (by decide +kernel)) rfl, go_tb_of (List.mem_of_getElem? (i := 282) (by decide +kernel)) rfl, go_tb_of (List.mem_of_getElem? (i := 283) (by decide +kernel)) rfl, go_tb_of (List.mem_of_getElem? (i := 40) (by decide +kernel)) rfl, by decide +kernel⟩
theorem ml_X8_126 : go_MS RX8 126 yX8_feed 2 := ⟨go_tb_of (List.mem_of_getElem? (i := 285) (by decide +kernel)) rfl, go_tb_of (List.mem_of_getElem? (i := 286) (by decide +kernel)) rfl, go_tb_of (List.mem_of_getElem? (i := 38) (by decide +kernel)) rfl, by decide +kernel⟩
theorem ml_X8_130 : go_MV RX8 130 yX3_areRight 0 := ⟨go_tb_of (List.mem_of_getElem? (i := 314) (by decide +kernel)) rfl, go_tb_of (List.mem_of_getElem? (i := 315) (by decide +kernel)) rfl, go_tb_of (List.mem_of_getElem? (i := 316) (by decide +kernel)) rfl, go_tb_of (List.mem_of_getElem? (i := 40) (by decide +kernel)) rfl, by decide +kernel⟩
theorem ml_X8_133 : go_MV RX8 133 yX1_isRight 0 := ⟨go_tb_of (List.mem_of_getElem? (i := 338) (by decide +kernel)) rfl, go_tb_of (List.mem_of_getElem? (i := 339) (by decide +kernel)) rfl, go_tb_of (List.mem_of_getElem? (i := 340) (by decide +kernel)) rfl, go_tb_of (List.mem_of_getElem? (i := 42) (by decide +kernel)) rfl, by decide +kernel⟩
theorem ml_X8_136 : go_MV RX8 136 yX8_blocksAreRight 0 := ⟨go_tb_of (List.mem_of_getElem? (i := 345) (by decide +kernel)) rfl, go_tb_of (List.mem_of_getElem? (i := 347) (by decide +kernel)) rfl, go_tb_of (List.mem_of_getElem? (i := 0) (by decide +kernel)) rfl, go_tb_of (List.mem_of_getElem? (i := 38) (by decide +kernel)) rfl, by decide +kernel⟩
theorem ml_X8_139 : go_MS RX8 139 yX8_copyState 2 := ⟨go_tb_of (List.mem_of_getElem? (i := 389) (by decide +kernel)) rfl, go_tb_of (List.mem_of_getElem? (i := 390) (by decide +kernel)) rfl, go_tb_of (List.mem_of_getElem? (i := 38) (by decide +kernel)) rfl, by decide +kernel⟩
theorem ml_X8_143 : go_MV RX8 143 yX0_toStandardForm 1 := ⟨go_tb_of (List.mem_of_getElem? (i := 395) (by decide +kernel)) rfl, go_tb_of (List.mem_of_getElem? (i := 396) (by decide +kernel)) rfl, go_tb_of (List.mem_of_getElem? (i := 397) (by decide +kernel)) rfl, go_tb_of (List.mem_of_getElem? (i := 39) (by decide +kernel)) rfl, by decide +kernel⟩
theorem ml_X8_147 : go_MV RX8 147 yX8_storeForm 1 := ⟨go_tb_of (List.mem_of_getElem? (i := 400) (by decide +kernel)) rfl, go_tb_of (List.mem_of_getElem? (i := 402) (by decide +kernel)) rfl, go_tb_of (List.mem_of_getElem? (i := 3) (by decide +kernel)) rfl, go_tb_of (List.mem_of_getElem? (i := 38) (by decide +kernel)) rfl, by decide +kernel⟩
theorem ml_X8_151 : go_MV RX8 151 yX8_layTrace 0 := ⟨go_tb_of (List.mem_of_getElem? (i := 446) (by decide +kernel)) rfl, go_tb_of (List.mem_of_getElem? (i := 448) (by decide +kernel)) rfl, go_tb_of (List.mem_of_getElem? (i := 8) (by decide +kernel)) rfl, go_tb_of (List.mem_of_getElem? (i := 38) (by decide +kernel)) rfl, by decide +kernel⟩
theorem ml_X8_154 : go_MS RX8 154 yJ9_min_7cf53 2 := ⟨go_tb_of (List.mem_of_getElem? (i := 516) (by decide +kernel)) rfl, go_tb_of (List.mem_of_getElem? (i := 517) (by decide +kernel)) rfl, go_tb_of (List.mem_of_getElem? (i := 50) (by decide +kernel)) rfl, by decide +kernel⟩
theorem ml_X8_160 : go_MV RX8 160 yX8_allExpanded 0 := ⟨go_tb_of (List.mem_of_getElem? (i := 519) (by decide +kernel)) rfl, go_tb_of (List.mem_of_getElem? (i := 521) (by decide +kernel)) rfl, go_tb_of (List.mem_of_getElem? (i := 12) (by decide +kernel)) rfl, go_tb_of (List.mem_of_getElem? (i := 38) (by decide +kernel)) rfl, by decide +kernel⟩
theorem ml_X8_163 : go_MV RX8 163 yX8_expandNext 0 := ⟨go_tb_of (List.mem_of_getElem? (i := 524) (by decide +kernel)) rfl, go_tb_of (List.mem_of_getElem? (i := 526) (by decide +kernel)) rfl, go_tb_of (List.mem_of_getElem? (i := 13) (by decide +kernel)) rfl, go_tb_of (List.mem_of_getElem? (i := 38) (by decide +kernel)) rfl, by decide +kernel⟩
theorem ml_X8_166 : go_MV RX8 166 yX4_count 0 := ⟨go_tb_of (List.mem_of_getElem? (i := 523) (by decide +kernel)) rfl, go_tb_of (List.mem_of_getElem? (i := 455) (by decide +kernel)) rfl, go_tb_of (List.mem_of_getElem? (i := 456) (by decide +kernel)) rfl, go_tb_of (List.mem_of_getElem? (i := 44) (by decide +kernel)) rfl, by decide +kernel⟩
theorem ml_X8_167 : go_MV RX8 167 yX5_steps 0 := ⟨go_tb_of (List.mem_of_getElem? (i := 470) (by decide +kernel)) rfl, go_tb_of (List.mem_of_getElem? (i := 471) (by decide +kernel)) rfl, go_tb_of (List.mem_of_getElem? (i := 472) (by decide +kernel)) rfl, go_tb_of (List.mem_of_getElem? (i := 45) (by decide +kernel)) rfl, by decide +kernel⟩
theorem ml_X8_170 : go_MV RX8 170 yX5_ruleAt 1 := ⟨go_tb_of (List.mem_of_getElem? (i := 548) (by decide +kernel)) rfl, go_tb_of (List.mem_of_getElem? (i := 549) (by decide +kernel)) rfl, go_tb_of (List.mem_of_getElem? (i := 550) (by decide +kernel)) rfl, go_tb_of (List.mem_of_getElem? (i := 45) (by decide +kernel)) rfl, by decide +kernel⟩
theorem ml_X8_174 : go_MV RX8 174 yX5_hasState 1 := ⟨go_tb_of (List.mem_of_getElem? (i := 556) (by decide +kernel)) rfl, go_tb_of (List.mem_of_getElem? (i := 479) (by decide +kernel)) rfl, go_tb_of (List.mem_of_getElem? (i := 480) (by decide +kernel)) rfl, go_tb_of (List.mem_of_getElem? (i := 45) (by decide +kernel)) rfl, by decide +kernel⟩
theorem ml_X8_177 : go_MV RX8 177 yX5_copyOut 2 := ⟨go_tb_of (List.mem_of_getElem? (i := 474) (by decide +kernel)) rfl, go_tb_of (List.mem_of_getElem? (i := 475) (by decide +kernel)) rfl, go_tb_of (List.mem_of_getElem? (i := 476) (by decide +kernel)) rfl, go_tb_of (List.mem_of_getElem? (i := 45) (by decide +kernel)) rfl, by decide +kernel⟩
theorem ml_X8_181 : go_MV RX8 181 yX2_holds 2 := ⟨go_tb_of (List.mem_of_getElem? (i := 416) (by decide +kernel)) rfl, go_tb_of (List.mem_of_getElem? (i := 417) (by decide +kernel)) rfl, go_tb_of (List.mem_of_getElem? (i := 418) (by decide +kernel)) rfl, go_tb_of (List.mem_of_getElem? (i := 43) (by decide +kernel)) rfl, by decide +kernel⟩
theorem ml_X8_185 : go_MV RX8 185 yX8_verdict 0 := ⟨go_tb_of (List.mem_of_getElem? (i := 569) (by decide +kernel)) rfl, go_tb_of (List.mem_of_getElem? (i := 533) (by decide +kernel)) rfl, go_tb_of (List.mem_of_getElem? (i := 534) (by decide +kernel)) rfl, go_tb_of (List.mem_of_getElem? (i := 38) (by decide +kernel)) rfl, by decide +kernel⟩
theorem ml_X8_188 : go_MV RX8 188 yX4_find 1 := ⟨go_tb_of (List.mem_of_getElem? (i := 496) (by decide +kernel)) rfl, go_tb_of (List.mem_of_getElem? (i := 497) (by decide +kernel)) rfl, go_tb_of (List.mem_of_getElem? (i := 498) (by decide +kernel)) rfl, go_tb_of (List.mem_of_getElem? (i := 44) (by decide +kernel)) rfl, by decide +kernel⟩
theorem ml_X8_192 : Cond.methodLink RX8 192 arraycopyName ∈ go_tb := go_tb_of (List.mem_of_getElem? (i := 392) (by decide +kernel)) rfl
theorem ml_X8_198 : go_MS RX8 198 yX6_isWord 1 := ⟨go_tb_of (List.mem_of_getElem? (i := 288) (by decide +kernel)) rfl, go_tb_of (List.mem_of_getElem? (i := 289) (by decide +kernel)) rfl, go_tb_of (List.mem_of_getElem? (i := 48) (by decide +kernel)) rfl, by decide +kernel⟩
theorem ml_X8_203 : go_MV RX8 203 yX7_isFull 0 := ⟨go_tb_of (List.mem_of_getElem? (i := 298) (by decide +kernel)) rfl, go_tb_of (List.mem_of_getElem? (i := 299) (by decide +kernel)) rfl, go_tb_of (List.mem_of_getElem? (i := 300) (by decide +kernel)) rfl, go_tb_of (List.mem_of_getElem? (i := 41) (by decide +kernel)) rfl, by decide +kernel⟩
theorem ml_X8_204 : go_MV RX8 204 yX7_add 1 := ⟨go_tb_of (List.mem_of_getElem? (i := 302) (by decide +kernel)) rfl, go_tb_of (List.mem_of_getElem? (i := 303) (by decide +kernel)) rfl, go_tb_of (List.mem_of_getElem? (i := 304) (by decide +kernel)) rfl, go_tb_of (List.mem_of_getElem? (i := 41) (by decide +kernel)) rfl, by decide +kernel⟩
theorem ml_X8_207 : go_MV RX8 207 yX0_join 2 := ⟨go_tb_of (List.mem_of_getElem? (i := 349) (by decide +kernel)) rfl, go_tb_of (List.mem_of_getElem? (i := 350) (by decide +kernel)) rfl, go_tb_of (List.mem_of_getElem? (i := 351) (by decide +kernel)) rfl, go_tb_of (List.mem_of_getElem? (i := 39) (by decide +kernel)) rfl, by decide +kernel⟩
theorem ml_X8_211 : go_MV RX8 211 yX3_bearExchange 2 := ⟨go_tb_of (List.mem_of_getElem? (i := 353) (by decide +kernel)) rfl, go_tb_of (List.mem_of_getElem? (i := 354) (by decide +kernel)) rfl, go_tb_of (List.mem_of_getElem? (i := 355) (by decide +kernel)) rfl, go_tb_of (List.mem_of_getElem? (i := 40) (by decide +kernel)) rfl, by decide +kernel⟩
theorem ml_X8_214 : go_MV RX8 214 yX1_bearsExchange 2 := ⟨go_tb_of (List.mem_of_getElem? (i := 368) (by decide +kernel)) rfl, go_tb_of (List.mem_of_getElem? (i := 369) (by decide +kernel)) rfl, go_tb_of (List.mem_of_getElem? (i := 370) (by decide +kernel)) rfl, go_tb_of (List.mem_of_getElem? (i := 42) (by decide +kernel)) rfl, by decide +kernel⟩
theorem ml_X8_217 : go_MV RX8 217 yX4_copyOut 2 := ⟨go_tb_of (List.mem_of_getElem? (i := 528) (by decide +kernel)) rfl, go_tb_of (List.mem_of_getElem? (i := 529) (by decide +kernel)) rfl, go_tb_of (List.mem_of_getElem? (i := 530) (by decide +kernel)) rfl, go_tb_of (List.mem_of_getElem? (i := 44) (by decide +kernel)) rfl, by decide +kernel⟩
theorem ml_X8_218 : go_MV RX8 218 yX8_fires 1 := ⟨go_tb_of (List.mem_of_getElem? (i := 482) (by decide +kernel)) rfl, go_tb_of (List.mem_of_getElem? (i := 484) (by decide +kernel)) rfl, go_tb_of (List.mem_of_getElem? (i := 10) (by decide +kernel)) rfl, go_tb_of (List.mem_of_getElem? (i := 38) (by decide +kernel)) rfl, by decide +kernel⟩
theorem ml_X8_222 : go_MV RX8 222 yX2_mayFire 2 := ⟨go_tb_of (List.mem_of_getElem? (i := 486) (by decide +kernel)) rfl, go_tb_of (List.mem_of_getElem? (i := 487) (by decide +kernel)) rfl, go_tb_of (List.mem_of_getElem? (i := 488) (by decide +kernel)) rfl, go_tb_of (List.mem_of_getElem? (i := 43) (by decide +kernel)) rfl, by decide +kernel⟩
theorem ml_X8_226 : go_MV RX8 226 yX2_fire 3 := ⟨go_tb_of (List.mem_of_getElem? (i := 491) (by decide +kernel)) rfl, go_tb_of (List.mem_of_getElem? (i := 492) (by decide +kernel)) rfl, go_tb_of (List.mem_of_getElem? (i := 493) (by decide +kernel)) rfl, go_tb_of (List.mem_of_getElem? (i := 43) (by decide +kernel)) rfl, by decide +kernel⟩
theorem ml_X8_230 : go_MV RX8 230 yX4_isFull 0 := ⟨go_tb_of (List.mem_of_getElem? (i := 404) (by decide +kernel)) rfl, go_tb_of (List.mem_of_getElem? (i := 405) (by decide +kernel)) rfl, go_tb_of (List.mem_of_getElem? (i := 406) (by decide +kernel)) rfl, go_tb_of (List.mem_of_getElem? (i := 44) (by decide +kernel)) rfl, by decide +kernel⟩
theorem ml_X8_231 : go_MV RX8 231 yX4_add 2 := ⟨go_tb_of (List.mem_of_getElem? (i := 408) (by decide +kernel)) rfl, go_tb_of (List.mem_of_getElem? (i := 409) (by decide +kernel)) rfl, go_tb_of (List.mem_of_getElem? (i := 410) (by decide +kernel)) rfl, go_tb_of (List.mem_of_getElem? (i := 44) (by decide +kernel)) rfl, by decide +kernel⟩
theorem ml_X8_233 : go_MV RX8 233 yX5_begin 2 := ⟨go_tb_of (List.mem_of_getElem? (i := 450) (by decide +kernel)) rfl, go_tb_of (List.mem_of_getElem? (i := 451) (by decide +kernel)) rfl, go_tb_of (List.mem_of_getElem? (i := 452) (by decide +kernel)) rfl, go_tb_of (List.mem_of_getElem? (i := 45) (by decide +kernel)) rfl, by decide +kernel⟩
theorem ml_X8_236 : go_MV RX8 236 yX5_wayAt 1 := ⟨go_tb_of (List.mem_of_getElem? (i := 504) (by decide +kernel)) rfl, go_tb_of (List.mem_of_getElem? (i := 505) (by decide +kernel)) rfl, go_tb_of (List.mem_of_getElem? (i := 506) (by decide +kernel)) rfl, go_tb_of (List.mem_of_getElem? (i := 45) (by decide +kernel)) rfl, by decide +kernel⟩
theorem ml_X8_239 : go_MV RX8 239 yX5_putStep 3 := ⟨go_tb_of (List.mem_of_getElem? (i := 508) (by decide +kernel)) rfl, go_tb_of (List.mem_of_getElem? (i := 509) (by decide +kernel)) rfl, go_tb_of (List.mem_of_getElem? (i := 510) (by decide +kernel)) rfl, go_tb_of (List.mem_of_getElem? (i := 45) (by decide +kernel)) rfl, by decide +kernel⟩
theorem fl_X9_7 : go_FL RX9 7 8 0 := ⟨RX9, TX9, 19, rfl, ui_X9, by decide, go_tb_of (List.mem_of_getElem? (i := 576) (by decide +kernel)) rfl⟩
theorem fl_X9_13 : go_FL RX9 13 8 1 := ⟨RX9, TX9, 19, rfl, ui_X9, by decide, go_tb_of (List.mem_of_getElem? (i := 577) (by decide +kernel)) rfl⟩
theorem fl_X9_16 : go_FL RX9 16 8 2 := ⟨RX9, TX9, 19, rfl, ui_X9, by decide, go_tb_of (List.mem_of_getElem? (i := 578) (by decide +kernel)) rfl⟩
theorem fl_X9_19 : go_FL RX9 19 8 3 := ⟨RX9, TX9, 19, rfl, ui_X9, by decide, go_tb_of (List.mem_of_getElem? (i := 579) (by decide +kernel)) rfl⟩
theorem fl_X9_22 : go_FL RX9 22 8 4 := ⟨RX9, TX9, 19, rfl, ui_X9, by decide, go_tb_of (List.mem_of_getElem? (i := 580) (by decide +kernel)) rfl⟩
theorem fl_X9_25 : go_FL RX9 25 8 5 := ⟨RX9, TX9, 19, rfl, ui_X9, by decide, go_tb_of (List.mem_of_getElem? (i := 581) (by decide +kernel)) rfl⟩
theorem fl_X9_28 : go_FL RX9 28 8 6 := ⟨RX9, TX9, 19, rfl, ui_X9, by decide, go_tb_of (List.mem_of_getElem? (i := 582) (by decide +kernel)) rfl⟩
theorem fl_X9_31 : go_FL RX9 31 8 7 := ⟨RX9, TX9, 19, rfl, ui_X9, by decide, go_tb_of (List.mem_of_getElem? (i := 583) (by decide +kernel)) rfl⟩
theorem fl_X9_34 : go_FL RX9 34 8 8 := ⟨RX9, TX9, 19, rfl, ui_X9, by decide, go_tb_of (List.mem_of_getElem? (i := 584) (by decide +kernel)) rfl⟩
theorem fl_X9_37 : go_FL RX9 37 8 9 := ⟨RX9, TX9, 19, rfl, ui_X9, by decide, go_tb_of (List.mem_of_getElem? (i := 585) (by decide +kernel)) rfl⟩
theorem fl_X9_40 : go_FL RX9 40 8 10 := ⟨RX9, TX9, 19, rfl, ui_X9, by decide, go_tb_of (List.mem_of_getElem? (i := 586) (by decide +kernel)) rfl⟩
theorem fl_X9_43 : go_FL RX9 43 8 11 := ⟨RX9, TX9, 19, rfl, ui_X9, by decide, go_tb_of (List.mem_of_getElem? (i := 587) (by decide +kernel)) rfl⟩
theorem fl_X9_46 : go_FL RX9 46 8 16 := ⟨RX9, TX9, 19, rfl, ui_X9, by decide, go_tb_of (List.mem_of_getElem? (i := 592) (by decide +kernel)) rfl⟩
theorem fp_X9_46 : go_FP RX9 46 8 16 .int := ⟨RX9, TX9, 19, tyX9, rfl, ui_X9, by decide, go_tb_of (List.mem_of_getElem? (i := 592) (by decide +kernel)) rfl, tyX9_ok, nmX9, rfl, by decide +kernel⟩
theorem fl_X9_50 : go_FL RX9 50 8 12 := ⟨RX9, TX9, 19, rfl, ui_X9, by decide, go_tb_of (List.mem_of_getElem? (i := 588) (by decide +kernel)) rfl⟩
theorem fp_X9_50 : go_FP RX9 50 8 12 .int := ⟨RX9, TX9, 19, tyX9, rfl, ui_X9, by decide, go_tb_of (List.mem_of_getElem? (i := 588) (by decide +kernel)) rfl, tyX9_ok, nmX9, rfl, by decide +kernel⟩
theorem fl_X9_53 : go_FL RX9 53 8 13 := ⟨RX9, TX9, 19, rfl, ui_X9, by decide, go_tb_of (List.mem_of_getElem? (i := 589) (by decide +kernel)) rfl⟩
theorem fp_X9_53 : go_FP RX9 53 8 13 .int := ⟨RX9, TX9, 19, tyX9, rfl, ui_X9, by decide, go_tb_of (List.mem_of_getElem? (i := 589) (by decide +kernel)) rfl, tyX9_ok, nmX9, rfl, by decide +kernel⟩
theorem fl_X9_56 : go_FL RX9 56 8 14 := ⟨RX9, TX9, 19, rfl, ui_X9, by decide, go_tb_of (List.mem_of_getElem? (i := 590) (by decide +kernel)) rfl⟩
theorem fp_X9_56 : go_FP RX9 56 8 14 .int := ⟨RX9, TX9, 19, tyX9, rfl, ui_X9, by decide, go_tb_of (List.mem_of_getElem? (i := 590) (by decide +kernel)) rfl, tyX9_ok, nmX9, rfl, by decide +kernel⟩
theorem fl_X9_59 : go_FL RX9 59 8 15 := ⟨RX9, TX9, 19, rfl, ui_X9, by decide, go_tb_of (List.mem_of_getElem? (i := 591) (by decide +kernel)) rfl⟩
theorem fp_X9_59 : go_FP RX9 59 8 15 .int := ⟨RX9, TX9, 19, tyX9, rfl, ui_X9, by decide, go_tb_of (List.mem_of_getElem? (i := 591) (by decide +kernel)) rfl, tyX9_ok, nmX9, rfl, by decide +kernel⟩
theorem fl_X9_62 : go_FL RX9 62 8 17 := ⟨RX9, TX9, 19, rfl, ui_X9, by decide, go_tb_of (List.mem_of_getElem? (i := 593) (by decide +kernel)) rfl⟩
theorem fp_X9_62 : go_FP RX9 62 8 17 .boolean := ⟨RX9, TX9, 19, tyX9, rfl, ui_X9, by decide, go_tb_of (List.mem_of_getElem? (i := 593) (by decide +kernel)) rfl, tyX9_ok, nmX9, rfl, by decide +kernel⟩
theorem fl_X9_66 : go_FL RX9 66 8 18 := ⟨RX9, TX9, 19, rfl, ui_X9, by decide, go_tb_of (List.mem_of_getElem? (i := 594) (by decide +kernel)) rfl⟩
theorem fp_X9_66 : go_FP RX9 66 8 18 .boolean := ⟨RX9, TX9, 19, tyX9, rfl, ui_X9, by decide, go_tb_of (List.mem_of_getElem? (i := 594) (by decide +kernel)) rfl, tyX9_ok, nmX9, rfl, by decide +kernel⟩
theorem ml_X9_69 : go_MS RX9 69 yX9_isVariable 1 := ⟨go_tb_of (List.mem_of_getElem? (i := 642) (by decide +kernel)) rfl, go_tb_of (List.mem_of_getElem? (i := 643) (by decide +kernel)) rfl, go_tb_of (List.mem_of_getElem? (i := 47) (by decide +kernel)) rfl, by decide +kernel⟩
theorem ml_X9_73 : go_MS RX9 73 yX9_isWord 1 := ⟨go_tb_of (List.mem_of_getElem? (i := 657) (by decide +kernel)) rfl, go_tb_of (List.mem_of_getElem? (i := 658) (by decide +kernel)) rfl, go_tb_of (List.mem_of_getElem? (i := 47) (by decide +kernel)) rfl, by decide +kernel⟩
theorem ml_X9_76 : go_MS RX9 76 yX9_height 2 := ⟨go_tb_of (List.mem_of_getElem? (i := 672) (by decide +kernel)) rfl, go_tb_of (List.mem_of_getElem? (i := 673) (by decide +kernel)) rfl, go_tb_of (List.mem_of_getElem? (i := 47) (by decide +kernel)) rfl, by decide +kernel⟩
theorem ml_X9_80 : go_MS RX9 80 yX9_exchanged 3 := ⟨go_tb_of (List.mem_of_getElem? (i := 695) (by decide +kernel)) rfl, go_tb_of (List.mem_of_getElem? (i := 696) (by decide +kernel)) rfl, go_tb_of (List.mem_of_getElem? (i := 47) (by decide +kernel)) rfl, by decide +kernel⟩
theorem ml_X9_84 : go_MV RX9 84 yX9_becomesRule 4 := ⟨go_tb_of (List.mem_of_getElem? (i := 691) (by decide +kernel)) rfl, go_tb_of (List.mem_of_getElem? (i := 693) (by decide +kernel)) rfl, go_tb_of (List.mem_of_getElem? (i := 19) (by decide +kernel)) rfl, go_tb_of (List.mem_of_getElem? (i := 47) (by decide +kernel)) rfl, by decide +kernel⟩
theorem ml_X9_88 : go_MV RX9 88 yX9_end 1 := ⟨go_tb_of (List.mem_of_getElem? (i := 710) (by decide +kernel)) rfl, go_tb_of (List.mem_of_getElem? (i := 712) (by decide +kernel)) rfl, go_tb_of (List.mem_of_getElem? (i := 23) (by decide +kernel)) rfl, go_tb_of (List.mem_of_getElem? (i := 47) (by decide +kernel)) rfl, by decide +kernel⟩
theorem ml_X9_92 : go_MV RX9 92 yX9_begins 1 := ⟨go_tb_of (List.mem_of_getElem? (i := 698) (by decide +kernel)) rfl, go_tb_of (List.mem_of_getElem? (i := 700) (by decide +kernel)) rfl, go_tb_of (List.mem_of_getElem? (i := 20) (by decide +kernel)) rfl, go_tb_of (List.mem_of_getElem? (i := 47) (by decide +kernel)) rfl, by decide +kernel⟩
theorem ml_X9_95 : go_MV RX9 95 yX9_becomesPart 4 := ⟨go_tb_of (List.mem_of_getElem? (i := 706) (by decide +kernel)) rfl, go_tb_of (List.mem_of_getElem? (i := 708) (by decide +kernel)) rfl, go_tb_of (List.mem_of_getElem? (i := 22) (by decide +kernel)) rfl, go_tb_of (List.mem_of_getElem? (i := 47) (by decide +kernel)) rfl, by decide +kernel⟩
theorem ml_X9_98 : go_MV RX9 98 yX9_isRuleAgain 3 := ⟨go_tb_of (List.mem_of_getElem? (i := 687) (by decide +kernel)) rfl, go_tb_of (List.mem_of_getElem? (i := 689) (by decide +kernel)) rfl, go_tb_of (List.mem_of_getElem? (i := 18) (by decide +kernel)) rfl, go_tb_of (List.mem_of_getElem? (i := 47) (by decide +kernel)) rfl, by decide +kernel⟩
theorem ml_X9_102 : go_MV RX9 102 yX9_isPartAgain 3 := ⟨go_tb_of (List.mem_of_getElem? (i := 702) (by decide +kernel)) rfl, go_tb_of (List.mem_of_getElem? (i := 704) (by decide +kernel)) rfl, go_tb_of (List.mem_of_getElem? (i := 21) (by decide +kernel)) rfl, go_tb_of (List.mem_of_getElem? (i := 47) (by decide +kernel)) rfl, by decide +kernel⟩
theorem ml_X9_105 : go_MV RX9 105 yX9_mayExchange 2 := ⟨go_tb_of (List.mem_of_getElem? (i := 683) (by decide +kernel)) rfl, go_tb_of (List.mem_of_getElem? (i := 685) (by decide +kernel)) rfl, go_tb_of (List.mem_of_getElem? (i := 17) (by decide +kernel)) rfl, go_tb_of (List.mem_of_getElem? (i := 47) (by decide +kernel)) rfl, by decide +kernel⟩
theorem ml_X9_109 : go_MS RX9 109 yX9_two 3 := ⟨go_tb_of (List.mem_of_getElem? (i := 738) (by decide +kernel)) rfl, go_tb_of (List.mem_of_getElem? (i := 739) (by decide +kernel)) rfl, go_tb_of (List.mem_of_getElem? (i := 47) (by decide +kernel)) rfl, by decide +kernel⟩
theorem ml_X9_112 : go_MV RX9 112 yX9_done 2 := ⟨go_tb_of (List.mem_of_getElem? (i := 734) (by decide +kernel)) rfl, go_tb_of (List.mem_of_getElem? (i := 736) (by decide +kernel)) rfl, go_tb_of (List.mem_of_getElem? (i := 29) (by decide +kernel)) rfl, go_tb_of (List.mem_of_getElem? (i := 47) (by decide +kernel)) rfl, by decide +kernel⟩
theorem ml_X9_115 : go_MV RX9 115 yX9_place 1 := ⟨go_tb_of (List.mem_of_getElem? (i := 726) (by decide +kernel)) rfl, go_tb_of (List.mem_of_getElem? (i := 728) (by decide +kernel)) rfl, go_tb_of (List.mem_of_getElem? (i := 27) (by decide +kernel)) rfl, go_tb_of (List.mem_of_getElem? (i := 47) (by decide +kernel)) rfl, by decide +kernel⟩
theorem ml_X9_118 : go_MV RX9 118 yX9_inOrder 1 := ⟨go_tb_of (List.mem_of_getElem? (i := 722) (by decide +kernel)) rfl, go_tb_of (List.mem_of_getElem? (i := 724) (by decide +kernel)) rfl, go_tb_of (List.mem_of_getElem? (i := 26) (by decide +kernel)) rfl, go_tb_of (List.mem_of_getElem? (i := 47) (by decide +kernel)) rfl, by decide +kernel⟩
theorem ml_X9_121 : go_MV RX9 121 yX9_standardise 0 := ⟨go_tb_of (List.mem_of_getElem? (i := 718) (by decide +kernel)) rfl, go_tb_of (List.mem_of_getElem? (i := 720) (by decide +kernel)) rfl, go_tb_of (List.mem_of_getElem? (i := 25) (by decide +kernel)) rfl, go_tb_of (List.mem_of_getElem? (i := 47) (by decide +kernel)) rfl, by decide +kernel⟩
theorem ml_X9_124 : go_MV RX9 124 yX9_isNormal 1 := ⟨go_tb_of (List.mem_of_getElem? (i := 757) (by decide +kernel)) rfl, go_tb_of (List.mem_of_getElem? (i := 759) (by decide +kernel)) rfl, go_tb_of (List.mem_of_getElem? (i := 33) (by decide +kernel)) rfl, go_tb_of (List.mem_of_getElem? (i := 47) (by decide +kernel)) rfl, by decide +kernel⟩
theorem ml_X9_127 : go_MV RX9 127 yX9_holds 0 := ⟨go_tb_of (List.mem_of_getElem? (i := 730) (by decide +kernel)) rfl, go_tb_of (List.mem_of_getElem? (i := 732) (by decide +kernel)) rfl, go_tb_of (List.mem_of_getElem? (i := 28) (by decide +kernel)) rfl, go_tb_of (List.mem_of_getElem? (i := 47) (by decide +kernel)) rfl, by decide +kernel⟩
theorem ml_X9_131 : go_MV RX9 131 yX9_ruleIsRight 1 := ⟨go_tb_of (List.mem_of_getElem? (i := 668) (by decide +kernel)) rfl, go_tb_of (List.mem_of_getElem? (i := 670) (by decide +kernel)) rfl, go_tb_of (List.mem_of_getElem? (i := 14) (by decide +kernel)) rfl, go_tb_of (List.mem_of_getElem? (i := 47) (by decide +kernel)) rfl, by decide +kernel⟩
theorem ml_X9_134 : go_MV RX9 134 yX9_invariantIsRight 0 := ⟨go_tb_of (List.mem_of_getElem? (i := 675) (by decide +kernel)) rfl, go_tb_of (List.mem_of_getElem? (i := 677) (by decide +kernel)) rfl, go_tb_of (List.mem_of_getElem? (i := 15) (by decide +kernel)) rfl, go_tb_of (List.mem_of_getElem? (i := 47) (by decide +kernel)) rfl, by decide +kernel⟩
theorem ml_X9_137 : go_MV RX9 137 yX9_blocksAreRight 0 := ⟨go_tb_of (List.mem_of_getElem? (i := 679) (by decide +kernel)) rfl, go_tb_of (List.mem_of_getElem? (i := 681) (by decide +kernel)) rfl, go_tb_of (List.mem_of_getElem? (i := 16) (by decide +kernel)) rfl, go_tb_of (List.mem_of_getElem? (i := 47) (by decide +kernel)) rfl, by decide +kernel⟩
theorem ml_X9_140 : go_MV RX9 140 yX9_store 1 := ⟨go_tb_of (List.mem_of_getElem? (i := 714) (by decide +kernel)) rfl, go_tb_of (List.mem_of_getElem? (i := 716) (by decide +kernel)) rfl, go_tb_of (List.mem_of_getElem? (i := 24) (by decide +kernel)) rfl, go_tb_of (List.mem_of_getElem? (i := 47) (by decide +kernel)) rfl, by decide +kernel⟩
theorem ml_X9_144 : go_MV RX9 144 yX9_fires 1 := ⟨go_tb_of (List.mem_of_getElem? (i := 749) (by decide +kernel)) rfl, go_tb_of (List.mem_of_getElem? (i := 751) (by decide +kernel)) rfl, go_tb_of (List.mem_of_getElem? (i := 31) (by decide +kernel)) rfl, go_tb_of (List.mem_of_getElem? (i := 47) (by decide +kernel)) rfl, by decide +kernel⟩
theorem ml_X9_147 : go_MV RX9 147 yX9_isStored 0 := ⟨go_tb_of (List.mem_of_getElem? (i := 753) (by decide +kernel)) rfl, go_tb_of (List.mem_of_getElem? (i := 755) (by decide +kernel)) rfl, go_tb_of (List.mem_of_getElem? (i := 32) (by decide +kernel)) rfl, go_tb_of (List.mem_of_getElem? (i := 47) (by decide +kernel)) rfl, by decide +kernel⟩
theorem ml_X9_150 : go_MV RX9 150 yX9_expand 0 := ⟨go_tb_of (List.mem_of_getElem? (i := 745) (by decide +kernel)) rfl, go_tb_of (List.mem_of_getElem? (i := 747) (by decide +kernel)) rfl, go_tb_of (List.mem_of_getElem? (i := 30) (by decide +kernel)) rfl, go_tb_of (List.mem_of_getElem? (i := 47) (by decide +kernel)) rfl, by decide +kernel⟩
theorem ml_X9_153 : go_MV RX9 153 yX9_traceLen 0 := ⟨go_tb_of (List.mem_of_getElem? (i := 777) (by decide +kernel)) rfl, go_tb_of (List.mem_of_getElem? (i := 770) (by decide +kernel)) rfl, go_tb_of (List.mem_of_getElem? (i := 771) (by decide +kernel)) rfl, go_tb_of (List.mem_of_getElem? (i := 47) (by decide +kernel)) rfl, by decide +kernel⟩
theorem ml_X9_157 : go_MV RX9 157 yX9_onWay 1 := ⟨go_tb_of (List.mem_of_getElem? (i := 786) (by decide +kernel)) rfl, go_tb_of (List.mem_of_getElem? (i := 788) (by decide +kernel)) rfl, go_tb_of (List.mem_of_getElem? (i := 36) (by decide +kernel)) rfl, go_tb_of (List.mem_of_getElem? (i := 47) (by decide +kernel)) rfl, by decide +kernel⟩
theorem ml_X9_160 : go_MV RX9 160 yX9_fired 1 := ⟨go_tb_of (List.mem_of_getElem? (i := 782) (by decide +kernel)) rfl, go_tb_of (List.mem_of_getElem? (i := 784) (by decide +kernel)) rfl, go_tb_of (List.mem_of_getElem? (i := 35) (by decide +kernel)) rfl, go_tb_of (List.mem_of_getElem? (i := 47) (by decide +kernel)) rfl, by decide +kernel⟩
theorem ml_X9_163 : go_MV RX9 163 yX9_follow 1 := ⟨go_tb_of (List.mem_of_getElem? (i := 778) (by decide +kernel)) rfl, go_tb_of (List.mem_of_getElem? (i := 780) (by decide +kernel)) rfl, go_tb_of (List.mem_of_getElem? (i := 34) (by decide +kernel)) rfl, go_tb_of (List.mem_of_getElem? (i := 47) (by decide +kernel)) rfl, by decide +kernel⟩
theorem ml_X9_166 : go_MV RX9 166 yX9_verdict 0 := ⟨go_tb_of (List.mem_of_getElem? (i := 806) (by decide +kernel)) rfl, go_tb_of (List.mem_of_getElem? (i := 762) (by decide +kernel)) rfl, go_tb_of (List.mem_of_getElem? (i := 763) (by decide +kernel)) rfl, go_tb_of (List.mem_of_getElem? (i := 47) (by decide +kernel)) rfl, by decide +kernel⟩
theorem ml_L_13 : go_MV RL 13 yX8_init_ 0 := ⟨go_tb_of (List.mem_of_getElem? (i := 243) (by decide +kernel)) rfl, go_tb_of (List.mem_of_getElem? (i := 169) (by decide +kernel)) rfl, go_tb_of (List.mem_of_getElem? (i := 170) (by decide +kernel)) rfl, go_tb_of (List.mem_of_getElem? (i := 38) (by decide +kernel)) rfl, by decide +kernel⟩
theorem ml_L_16 : go_MV RL 16 yX9_init_ 0 := ⟨go_tb_of (List.mem_of_getElem? (i := 634) (by decide +kernel)) rfl, go_tb_of (List.mem_of_getElem? (i := 635) (by decide +kernel)) rfl, go_tb_of (List.mem_of_getElem? (i := 636) (by decide +kernel)) rfl, go_tb_of (List.mem_of_getElem? (i := 47) (by decide +kernel)) rfl, by decide +kernel⟩
theorem ml_L_17 : go_MV RL 17 yX8_setInit 2 := ⟨go_tb_of (List.mem_of_getElem? (i := 244) (by decide +kernel)) rfl, go_tb_of (List.mem_of_getElem? (i := 245) (by decide +kernel)) rfl, go_tb_of (List.mem_of_getElem? (i := 246) (by decide +kernel)) rfl, go_tb_of (List.mem_of_getElem? (i := 38) (by decide +kernel)) rfl, by decide +kernel⟩
theorem ml_L_21 : go_MV RL 21 yX9_setInit 2 := ⟨go_tb_of (List.mem_of_getElem? (i := 638) (by decide +kernel)) rfl, go_tb_of (List.mem_of_getElem? (i := 639) (by decide +kernel)) rfl, go_tb_of (List.mem_of_getElem? (i := 640) (by decide +kernel)) rfl, go_tb_of (List.mem_of_getElem? (i := 47) (by decide +kernel)) rfl, by decide +kernel⟩
theorem ml_L_22 : go_MV RL 22 yX8_setSymGroup 2 := ⟨go_tb_of (List.mem_of_getElem? (i := 251) (by decide +kernel)) rfl, go_tb_of (List.mem_of_getElem? (i := 252) (by decide +kernel)) rfl, go_tb_of (List.mem_of_getElem? (i := 253) (by decide +kernel)) rfl, go_tb_of (List.mem_of_getElem? (i := 38) (by decide +kernel)) rfl, by decide +kernel⟩
theorem ml_L_25 : go_MV RL 25 yX9_setSymGroup 2 := ⟨go_tb_of (List.mem_of_getElem? (i := 645) (by decide +kernel)) rfl, go_tb_of (List.mem_of_getElem? (i := 646) (by decide +kernel)) rfl, go_tb_of (List.mem_of_getElem? (i := 647) (by decide +kernel)) rfl, go_tb_of (List.mem_of_getElem? (i := 47) (by decide +kernel)) rfl, by decide +kernel⟩
theorem ml_L_26 : go_MV RL 26 yX8_beginRule 0 := ⟨go_tb_of (List.mem_of_getElem? (i := 260) (by decide +kernel)) rfl, go_tb_of (List.mem_of_getElem? (i := 261) (by decide +kernel)) rfl, go_tb_of (List.mem_of_getElem? (i := 262) (by decide +kernel)) rfl, go_tb_of (List.mem_of_getElem? (i := 38) (by decide +kernel)) rfl, by decide +kernel⟩
theorem ml_L_30 : go_MV RL 30 yX9_beginRule 0 := ⟨go_tb_of (List.mem_of_getElem? (i := 649) (by decide +kernel)) rfl, go_tb_of (List.mem_of_getElem? (i := 650) (by decide +kernel)) rfl, go_tb_of (List.mem_of_getElem? (i := 651) (by decide +kernel)) rfl, go_tb_of (List.mem_of_getElem? (i := 47) (by decide +kernel)) rfl, by decide +kernel⟩
theorem ml_L_31 : go_MV RL 31 yX8_feedRule 1 := ⟨go_tb_of (List.mem_of_getElem? (i := 273) (by decide +kernel)) rfl, go_tb_of (List.mem_of_getElem? (i := 274) (by decide +kernel)) rfl, go_tb_of (List.mem_of_getElem? (i := 275) (by decide +kernel)) rfl, go_tb_of (List.mem_of_getElem? (i := 38) (by decide +kernel)) rfl, by decide +kernel⟩
theorem ml_L_35 : go_MV RL 35 yX9_feedRule 1 := ⟨go_tb_of (List.mem_of_getElem? (i := 653) (by decide +kernel)) rfl, go_tb_of (List.mem_of_getElem? (i := 654) (by decide +kernel)) rfl, go_tb_of (List.mem_of_getElem? (i := 655) (by decide +kernel)) rfl, go_tb_of (List.mem_of_getElem? (i := 47) (by decide +kernel)) rfl, by decide +kernel⟩
theorem ml_L_36 : go_MV RL 36 yX8_feedInvariant 1 := ⟨go_tb_of (List.mem_of_getElem? (i := 306) (by decide +kernel)) rfl, go_tb_of (List.mem_of_getElem? (i := 307) (by decide +kernel)) rfl, go_tb_of (List.mem_of_getElem? (i := 308) (by decide +kernel)) rfl, go_tb_of (List.mem_of_getElem? (i := 38) (by decide +kernel)) rfl, by decide +kernel⟩
theorem ml_L_39 : go_MV RL 39 yX9_feedInvariant 1 := ⟨go_tb_of (List.mem_of_getElem? (i := 660) (by decide +kernel)) rfl, go_tb_of (List.mem_of_getElem? (i := 661) (by decide +kernel)) rfl, go_tb_of (List.mem_of_getElem? (i := 662) (by decide +kernel)) rfl, go_tb_of (List.mem_of_getElem? (i := 47) (by decide +kernel)) rfl, by decide +kernel⟩
theorem ml_L_40 : go_MV RL 40 yX8_seal 0 := ⟨go_tb_of (List.mem_of_getElem? (i := 310) (by decide +kernel)) rfl, go_tb_of (List.mem_of_getElem? (i := 311) (by decide +kernel)) rfl, go_tb_of (List.mem_of_getElem? (i := 312) (by decide +kernel)) rfl, go_tb_of (List.mem_of_getElem? (i := 38) (by decide +kernel)) rfl, by decide +kernel⟩
theorem ml_L_43 : go_MV RL 43 yX9_seal 0 := ⟨go_tb_of (List.mem_of_getElem? (i := 664) (by decide +kernel)) rfl, go_tb_of (List.mem_of_getElem? (i := 665) (by decide +kernel)) rfl, go_tb_of (List.mem_of_getElem? (i := 666) (by decide +kernel)) rfl, go_tb_of (List.mem_of_getElem? (i := 47) (by decide +kernel)) rfl, by decide +kernel⟩
theorem ml_L_44 : go_MV RL 44 yX8_explore 1 := ⟨go_tb_of (List.mem_of_getElem? (i := 512) (by decide +kernel)) rfl, go_tb_of (List.mem_of_getElem? (i := 513) (by decide +kernel)) rfl, go_tb_of (List.mem_of_getElem? (i := 514) (by decide +kernel)) rfl, go_tb_of (List.mem_of_getElem? (i := 38) (by decide +kernel)) rfl, by decide +kernel⟩
theorem ml_L_47 : go_MV RL 47 yX9_explore 1 := ⟨go_tb_of (List.mem_of_getElem? (i := 741) (by decide +kernel)) rfl, go_tb_of (List.mem_of_getElem? (i := 742) (by decide +kernel)) rfl, go_tb_of (List.mem_of_getElem? (i := 743) (by decide +kernel)) rfl, go_tb_of (List.mem_of_getElem? (i := 47) (by decide +kernel)) rfl, by decide +kernel⟩
theorem ml_L_48 : go_MV RL 48 yX8_verdict 0 := ⟨go_tb_of (List.mem_of_getElem? (i := 532) (by decide +kernel)) rfl, go_tb_of (List.mem_of_getElem? (i := 533) (by decide +kernel)) rfl, go_tb_of (List.mem_of_getElem? (i := 534) (by decide +kernel)) rfl, go_tb_of (List.mem_of_getElem? (i := 38) (by decide +kernel)) rfl, by decide +kernel⟩
theorem ml_L_51 : go_MV RL 51 yX9_verdict 0 := ⟨go_tb_of (List.mem_of_getElem? (i := 761) (by decide +kernel)) rfl, go_tb_of (List.mem_of_getElem? (i := 762) (by decide +kernel)) rfl, go_tb_of (List.mem_of_getElem? (i := 763) (by decide +kernel)) rfl, go_tb_of (List.mem_of_getElem? (i := 47) (by decide +kernel)) rfl, by decide +kernel⟩
theorem ml_L_52 : go_MV RL 52 yX8_stateCount 0 := ⟨go_tb_of (List.mem_of_getElem? (i := 536) (by decide +kernel)) rfl, go_tb_of (List.mem_of_getElem? (i := 537) (by decide +kernel)) rfl, go_tb_of (List.mem_of_getElem? (i := 538) (by decide +kernel)) rfl, go_tb_of (List.mem_of_getElem? (i := 38) (by decide +kernel)) rfl, by decide +kernel⟩
theorem ml_L_55 : go_MV RL 55 yX9_stateCount 0 := ⟨go_tb_of (List.mem_of_getElem? (i := 765) (by decide +kernel)) rfl, go_tb_of (List.mem_of_getElem? (i := 766) (by decide +kernel)) rfl, go_tb_of (List.mem_of_getElem? (i := 767) (by decide +kernel)) rfl, go_tb_of (List.mem_of_getElem? (i := 47) (by decide +kernel)) rfl, by decide +kernel⟩
theorem ml_L_56 : go_MV RL 56 yX8_traceLen 0 := ⟨go_tb_of (List.mem_of_getElem? (i := 540) (by decide +kernel)) rfl, go_tb_of (List.mem_of_getElem? (i := 541) (by decide +kernel)) rfl, go_tb_of (List.mem_of_getElem? (i := 542) (by decide +kernel)) rfl, go_tb_of (List.mem_of_getElem? (i := 38) (by decide +kernel)) rfl, by decide +kernel⟩
theorem ml_L_59 : go_MV RL 59 yX9_traceLen 0 := ⟨go_tb_of (List.mem_of_getElem? (i := 769) (by decide +kernel)) rfl, go_tb_of (List.mem_of_getElem? (i := 770) (by decide +kernel)) rfl, go_tb_of (List.mem_of_getElem? (i := 771) (by decide +kernel)) rfl, go_tb_of (List.mem_of_getElem? (i := 47) (by decide +kernel)) rfl, by decide +kernel⟩
theorem ml_L_60 : go_MV RL 60 yX8_traceRule 1 := ⟨go_tb_of (List.mem_of_getElem? (i := 544) (by decide +kernel)) rfl, go_tb_of (List.mem_of_getElem? (i := 545) (by decide +kernel)) rfl, go_tb_of (List.mem_of_getElem? (i := 546) (by decide +kernel)) rfl, go_tb_of (List.mem_of_getElem? (i := 38) (by decide +kernel)) rfl, by decide +kernel⟩
theorem ml_L_63 : go_MV RL 63 yX9_traceRule 1 := ⟨go_tb_of (List.mem_of_getElem? (i := 773) (by decide +kernel)) rfl, go_tb_of (List.mem_of_getElem? (i := 774) (by decide +kernel)) rfl, go_tb_of (List.mem_of_getElem? (i := 775) (by decide +kernel)) rfl, go_tb_of (List.mem_of_getElem? (i := 47) (by decide +kernel)) rfl, by decide +kernel⟩
theorem ml_L_64 : go_MV RL 64 yX8_traceVar 2 := ⟨go_tb_of (List.mem_of_getElem? (i := 552) (by decide +kernel)) rfl, go_tb_of (List.mem_of_getElem? (i := 553) (by decide +kernel)) rfl, go_tb_of (List.mem_of_getElem? (i := 554) (by decide +kernel)) rfl, go_tb_of (List.mem_of_getElem? (i := 38) (by decide +kernel)) rfl, by decide +kernel⟩
theorem ml_L_67 : go_MV RL 67 yX9_traceVar 2 := ⟨go_tb_of (List.mem_of_getElem? (i := 790) (by decide +kernel)) rfl, go_tb_of (List.mem_of_getElem? (i := 791) (by decide +kernel)) rfl, go_tb_of (List.mem_of_getElem? (i := 792) (by decide +kernel)) rfl, go_tb_of (List.mem_of_getElem? (i := 47) (by decide +kernel)) rfl, by decide +kernel⟩
theorem ml_L_68 : go_MV RL 68 yX8_replay 0 := ⟨go_tb_of (List.mem_of_getElem? (i := 557) (by decide +kernel)) rfl, go_tb_of (List.mem_of_getElem? (i := 558) (by decide +kernel)) rfl, go_tb_of (List.mem_of_getElem? (i := 559) (by decide +kernel)) rfl, go_tb_of (List.mem_of_getElem? (i := 38) (by decide +kernel)) rfl, by decide +kernel⟩
theorem ml_L_71 : go_MV RL 71 yX9_replay 0 := ⟨go_tb_of (List.mem_of_getElem? (i := 794) (by decide +kernel)) rfl, go_tb_of (List.mem_of_getElem? (i := 795) (by decide +kernel)) rfl, go_tb_of (List.mem_of_getElem? (i := 796) (by decide +kernel)) rfl, go_tb_of (List.mem_of_getElem? (i := 47) (by decide +kernel)) rfl, by decide +kernel⟩
theorem ml_L_72 : go_MV RL 72 yX8_probeVar 2 := ⟨go_tb_of (List.mem_of_getElem? (i := 561) (by decide +kernel)) rfl, go_tb_of (List.mem_of_getElem? (i := 562) (by decide +kernel)) rfl, go_tb_of (List.mem_of_getElem? (i := 563) (by decide +kernel)) rfl, go_tb_of (List.mem_of_getElem? (i := 38) (by decide +kernel)) rfl, by decide +kernel⟩
theorem ml_L_75 : go_MV RL 75 yX9_probeVar 2 := ⟨go_tb_of (List.mem_of_getElem? (i := 798) (by decide +kernel)) rfl, go_tb_of (List.mem_of_getElem? (i := 799) (by decide +kernel)) rfl, go_tb_of (List.mem_of_getElem? (i := 800) (by decide +kernel)) rfl, go_tb_of (List.mem_of_getElem? (i := 47) (by decide +kernel)) rfl, by decide +kernel⟩
theorem ml_L_76 : go_MV RL 76 yX8_isReachable 0 := ⟨go_tb_of (List.mem_of_getElem? (i := 565) (by decide +kernel)) rfl, go_tb_of (List.mem_of_getElem? (i := 566) (by decide +kernel)) rfl, go_tb_of (List.mem_of_getElem? (i := 567) (by decide +kernel)) rfl, go_tb_of (List.mem_of_getElem? (i := 38) (by decide +kernel)) rfl, by decide +kernel⟩
theorem ml_L_79 : go_MV RL 79 yX9_isReachable 0 := ⟨go_tb_of (List.mem_of_getElem? (i := 802) (by decide +kernel)) rfl, go_tb_of (List.mem_of_getElem? (i := 803) (by decide +kernel)) rfl, go_tb_of (List.mem_of_getElem? (i := 804) (by decide +kernel)) rfl, go_tb_of (List.mem_of_getElem? (i := 47) (by decide +kernel)) rfl, by decide +kernel⟩
theorem mc_X0_clear : Cond.code yX0_clear cX0_clear 1 none ∈ go_tb := go_tb_of (List.mem_of_getElem? (i := 178) (by decide +kernel)) rfl
theorem mc_X0_put : Cond.code yX0_put cX0_put 3 none ∈ go_tb := go_tb_of (List.mem_of_getElem? (i := 258) (by decide +kernel)) rfl
theorem mc_X0_join : Cond.code yX0_join cX0_join 3 (some .boolean) ∈ go_tb := go_tb_of (List.mem_of_getElem? (i := 352) (by decide +kernel)) rfl
theorem mc_X0_toStandardForm : Cond.code yX0_toStandardForm cX0_toStandardForm 5 none ∈ go_tb := go_tb_of (List.mem_of_getElem? (i := 398) (by decide +kernel)) rfl
theorem mc_X1_isRight : Cond.code yX1_isRight cX1_isRight 3 (some .boolean) ∈ go_tb := go_tb_of (List.mem_of_getElem? (i := 341) (by decide +kernel)) rfl
theorem mc_X1_isPartStart : Cond.code yX1_isPartStart cX1_isPartStart 2 (some .boolean) ∈ go_tb := go_tb_of (List.mem_of_getElem? (i := 375) (by decide +kernel)) rfl
theorem mc_X1_partEnd : Cond.code yX1_partEnd cX1_partEnd 2 (some .int) ∈ go_tb := go_tb_of (List.mem_of_getElem? (i := 383) (by decide +kernel)) rfl
theorem mc_X1_bearsExchange : Cond.code yX1_bearsExchange cX1_bearsExchange 4 (some .boolean) ∈ go_tb := go_tb_of (List.mem_of_getElem? (i := 371) (by decide +kernel)) rfl
theorem mc_X1_hasExchanged : Cond.code yX1_hasExchanged cX1_hasExchanged 6 (some .boolean) ∈ go_tb := go_tb_of (List.mem_of_getElem? (i := 379) (by decide +kernel)) rfl
theorem mc_X2_mayFire : Cond.code yX2_mayFire cX2_mayFire 3 (some .boolean) ∈ go_tb := go_tb_of (List.mem_of_getElem? (i := 489) (by decide +kernel)) rfl
theorem mc_X2_fire : Cond.code yX2_fire cX2_fire 4 none ∈ go_tb := go_tb_of (List.mem_of_getElem? (i := 494) (by decide +kernel)) rfl
theorem mc_X2_holds : Cond.code yX2_holds cX2_holds 5 (some .boolean) ∈ go_tb := go_tb_of (List.mem_of_getElem? (i := 419) (by decide +kernel)) rfl
theorem mc_X2_run : Cond.code yX2_run cX2_run 7 (some .int) ∈ go_tb := go_tb_of (List.mem_of_getElem? (i := 426) (by decide +kernel)) rfl
theorem mc_X2_step : Cond.code yX2_step cX2_step 8 none ∈ go_tb := go_tb_of (List.mem_of_getElem? (i := 431) (by decide +kernel)) rfl
theorem mc_X2_joined : Cond.code yX2_joined cX2_joined 3 (some .int) ∈ go_tb := go_tb_of (List.mem_of_getElem? (i := 445) (by decide +kernel)) rfl
theorem mc_X2_push : Cond.code yX2_push cX2_push 2 none ∈ go_tb := go_tb_of (List.mem_of_getElem? (i := 437) (by decide +kernel)) rfl
theorem mc_X2_pop : Cond.code yX2_pop cX2_pop 1 (some .int) ∈ go_tb := go_tb_of (List.mem_of_getElem? (i := 442) (by decide +kernel)) rfl
theorem mc_X3_clear : Cond.code yX3_clear cX3_clear 1 none ∈ go_tb := go_tb_of (List.mem_of_getElem? (i := 183) (by decide +kernel)) rfl
theorem mc_X3_count : Cond.code yX3_count cX3_count 1 (some .int) ∈ go_tb := go_tb_of (List.mem_of_getElem? (i := 280) (by decide +kernel)) rfl
theorem mc_X3_isFull : Cond.code yX3_isFull cX3_isFull 1 (some .boolean) ∈ go_tb := go_tb_of (List.mem_of_getElem? (i := 267) (by decide +kernel)) rfl
theorem mc_X3_begin : Cond.code yX3_begin cX3_begin 1 (some .int) ∈ go_tb := go_tb_of (List.mem_of_getElem? (i := 271) (by decide +kernel)) rfl
theorem mc_X3_at : Cond.code yX3_at cX3_at 2 (some (.object "ProtoCheck$WordRow")) ∈ go_tb := go_tb_of (List.mem_of_getElem? (i := 284) (by decide +kernel)) rfl
theorem mc_X3_areRight : Cond.code yX3_areRight cX3_areRight 2 (some .boolean) ∈ go_tb := go_tb_of (List.mem_of_getElem? (i := 317) (by decide +kernel)) rfl
theorem mc_X3_isRight : Cond.code yX3_isRight cX3_isRight 4 (some .boolean) ∈ go_tb := go_tb_of (List.mem_of_getElem? (i := 321) (by decide +kernel)) rfl
theorem mc_X3_bearExchange : Cond.code yX3_bearExchange cX3_bearExchange 4 (some .boolean) ∈ go_tb := go_tb_of (List.mem_of_getElem? (i := 356) (by decide +kernel)) rfl
theorem mc_X3_hasExchanged : Cond.code yX3_hasExchanged cX3_hasExchanged 6 (some .boolean) ∈ go_tb := go_tb_of (List.mem_of_getElem? (i := 360) (by decide +kernel)) rfl
theorem mc_X4_clear : Cond.code yX4_clear cX4_clear 1 none ∈ go_tb := go_tb_of (List.mem_of_getElem? (i := 191) (by decide +kernel)) rfl
theorem mc_X4_count : Cond.code yX4_count cX4_count 1 (some .int) ∈ go_tb := go_tb_of (List.mem_of_getElem? (i := 457) (by decide +kernel)) rfl
theorem mc_X4_isFull : Cond.code yX4_isFull cX4_isFull 1 (some .boolean) ∈ go_tb := go_tb_of (List.mem_of_getElem? (i := 407) (by decide +kernel)) rfl
theorem mc_X4_has : Cond.code yX4_has cX4_has 2 (some .boolean) ∈ go_tb := go_tb_of (List.mem_of_getElem? (i := 468) (by decide +kernel)) rfl
theorem mc_X4_parentOf : Cond.code yX4_parentOf cX4_parentOf 2 (some .int) ∈ go_tb := go_tb_of (List.mem_of_getElem? (i := 464) (by decide +kernel)) rfl
theorem mc_X4_copyOut : Cond.code yX4_copyOut cX4_copyOut 3 none ∈ go_tb := go_tb_of (List.mem_of_getElem? (i := 531) (by decide +kernel)) rfl
theorem mc_X4_add : Cond.code yX4_add cX4_add 4 none ∈ go_tb := go_tb_of (List.mem_of_getElem? (i := 411) (by decide +kernel)) rfl
theorem mc_X4_find : Cond.code yX4_find cX4_find 4 (some .int) ∈ go_tb := go_tb_of (List.mem_of_getElem? (i := 499) (by decide +kernel)) rfl
theorem mc_X4_isState : Cond.code yX4_isState cX4_isState 4 (some .boolean) ∈ go_tb := go_tb_of (List.mem_of_getElem? (i := 503) (by decide +kernel)) rfl
theorem mc_X4_bucketOf : Cond.code yX4_bucketOf cX4_bucketOf 3 (some .int) ∈ go_tb := go_tb_of (List.mem_of_getElem? (i := 414) (by decide +kernel)) rfl
theorem mc_X5_clear : Cond.code yX5_clear cX5_clear 1 none ∈ go_tb := go_tb_of (List.mem_of_getElem? (i := 196) (by decide +kernel)) rfl
theorem mc_X5_steps : Cond.code yX5_steps cX5_steps 1 (some .int) ∈ go_tb := go_tb_of (List.mem_of_getElem? (i := 473) (by decide +kernel)) rfl
theorem mc_X5_hasState : Cond.code yX5_hasState cX5_hasState 2 (some .boolean) ∈ go_tb := go_tb_of (List.mem_of_getElem? (i := 481) (by decide +kernel)) rfl
theorem mc_X5_begin : Cond.code yX5_begin cX5_begin 6 none ∈ go_tb := go_tb_of (List.mem_of_getElem? (i := 453) (by decide +kernel)) rfl
theorem mc_X5_stepsTo : Cond.code yX5_stepsTo cX5_stepsTo 4 (some .int) ∈ go_tb := go_tb_of (List.mem_of_getElem? (i := 460) (by decide +kernel)) rfl
theorem mc_X5_wayAt : Cond.code yX5_wayAt cX5_wayAt 2 (some .int) ∈ go_tb := go_tb_of (List.mem_of_getElem? (i := 507) (by decide +kernel)) rfl
theorem mc_X5_ruleAt : Cond.code yX5_ruleAt cX5_ruleAt 2 (some .int) ∈ go_tb := go_tb_of (List.mem_of_getElem? (i := 551) (by decide +kernel)) rfl
theorem mc_X5_copyOut : Cond.code yX5_copyOut cX5_copyOut 3 none ∈ go_tb := go_tb_of (List.mem_of_getElem? (i := 477) (by decide +kernel)) rfl
theorem mc_X5_putStep : Cond.code yX5_putStep cX5_putStep 4 none ∈ go_tb := go_tb_of (List.mem_of_getElem? (i := 511) (by decide +kernel)) rfl
theorem mc_X6_op : Cond.code yX6_op cX6_op 1 (some .int) ∈ go_tb := go_tb_of (List.mem_of_getElem? (i := 293) (by decide +kernel)) rfl
theorem mc_X6_operand : Cond.code yX6_operand cX6_operand 1 (some .int) ∈ go_tb := go_tb_of (List.mem_of_getElem? (i := 296) (by decide +kernel)) rfl
theorem mc_X6_isWord : Cond.code yX6_isWord cX6_isWord 2 (some .boolean) ∈ go_tb := go_tb_of (List.mem_of_getElem? (i := 290) (by decide +kernel)) rfl
theorem mc_X6_exchanged : Cond.code yX6_exchanged cX6_exchanged 5 (some .int) ∈ go_tb := go_tb_of (List.mem_of_getElem? (i := 367) (by decide +kernel)) rfl
theorem mc_X6_heightAfter : Cond.code yX6_heightAfter cX6_heightAfter 3 (some .int) ∈ go_tb := go_tb_of (List.mem_of_getElem? (i := 337) (by decide +kernel)) rfl
theorem mc_X7_clear : Cond.code yX7_clear cX7_clear 1 none ∈ go_tb := go_tb_of (List.mem_of_getElem? (i := 187) (by decide +kernel)) rfl
theorem mc_X7_length : Cond.code yX7_length cX7_length 1 (some .int) ∈ go_tb := go_tb_of (List.mem_of_getElem? (i := 325) (by decide +kernel)) rfl
theorem mc_X7_isFull : Cond.code yX7_isFull cX7_isFull 1 (some .boolean) ∈ go_tb := go_tb_of (List.mem_of_getElem? (i := 301) (by decide +kernel)) rfl
theorem mc_X7_add : Cond.code yX7_add cX7_add 2 none ∈ go_tb := go_tb_of (List.mem_of_getElem? (i := 305) (by decide +kernel)) rfl
theorem mc_X7_at : Cond.code yX7_at cX7_at 2 (some .int) ∈ go_tb := go_tb_of (List.mem_of_getElem? (i := 333) (by decide +kernel)) rfl
theorem mc_X7_opAt : Cond.code yX7_opAt cX7_opAt 2 (some .int) ∈ go_tb := go_tb_of (List.mem_of_getElem? (i := 329) (by decide +kernel)) rfl
theorem mc_X7_next : Cond.code yX7_next cX7_next 4 (some .int) ∈ go_tb := go_tb_of (List.mem_of_getElem? (i := 387) (by decide +kernel)) rfl
theorem mc_X7_turnsInto : Cond.code yX7_turnsInto cX7_turnsInto 8 (some .boolean) ∈ go_tb := go_tb_of (List.mem_of_getElem? (i := 364) (by decide +kernel)) rfl
theorem mc_X8_init_ : Cond.code yX8_init_ cX8_init_ 1 none ∈ go_tb := go_tb_of (List.mem_of_getElem? (i := 171) (by decide +kernel)) rfl
theorem mc_X8_setInit : Cond.code yX8_setInit cX8_setInit 3 (some .int) ∈ go_tb := go_tb_of (List.mem_of_getElem? (i := 247) (by decide +kernel)) rfl
theorem mc_X8_setSymGroup : Cond.code yX8_setSymGroup cX8_setSymGroup 3 (some .int) ∈ go_tb := go_tb_of (List.mem_of_getElem? (i := 254) (by decide +kernel)) rfl
theorem mc_X8_beginRule : Cond.code yX8_beginRule cX8_beginRule 1 (some .int) ∈ go_tb := go_tb_of (List.mem_of_getElem? (i := 263) (by decide +kernel)) rfl
theorem mc_X8_feedRule : Cond.code yX8_feedRule cX8_feedRule 2 (some .int) ∈ go_tb := go_tb_of (List.mem_of_getElem? (i := 276) (by decide +kernel)) rfl
theorem mc_X8_feedInvariant : Cond.code yX8_feedInvariant cX8_feedInvariant 2 (some .int) ∈ go_tb := go_tb_of (List.mem_of_getElem? (i := 309) (by decide +kernel)) rfl
theorem mc_X8_seal : Cond.code yX8_seal cX8_seal 1 (some .int) ∈ go_tb := go_tb_of (List.mem_of_getElem? (i := 313) (by decide +kernel)) rfl
theorem mc_X8_explore : Cond.code yX8_explore cX8_explore 5 (some .int) ∈ go_tb := go_tb_of (List.mem_of_getElem? (i := 515) (by decide +kernel)) rfl
theorem mc_X8_verdict : Cond.code yX8_verdict cX8_verdict 1 (some .int) ∈ go_tb := go_tb_of (List.mem_of_getElem? (i := 535) (by decide +kernel)) rfl
theorem mc_X8_stateCount : Cond.code yX8_stateCount cX8_stateCount 1 (some .int) ∈ go_tb := go_tb_of (List.mem_of_getElem? (i := 539) (by decide +kernel)) rfl
theorem mc_X8_traceLen : Cond.code yX8_traceLen cX8_traceLen 1 (some .int) ∈ go_tb := go_tb_of (List.mem_of_getElem? (i := 543) (by decide +kernel)) rfl
theorem mc_X8_traceRule : Cond.code yX8_traceRule cX8_traceRule 2 (some .int) ∈ go_tb := go_tb_of (List.mem_of_getElem? (i := 547) (by decide +kernel)) rfl
theorem mc_X8_traceVar : Cond.code yX8_traceVar cX8_traceVar 3 (some .int) ∈ go_tb := go_tb_of (List.mem_of_getElem? (i := 555) (by decide +kernel)) rfl
theorem mc_X8_replay : Cond.code yX8_replay cX8_replay 1 (some .int) ∈ go_tb := go_tb_of (List.mem_of_getElem? (i := 560) (by decide +kernel)) rfl
theorem mc_X8_probeVar : Cond.code yX8_probeVar cX8_probeVar 3 (some .int) ∈ go_tb := go_tb_of (List.mem_of_getElem? (i := 564) (by decide +kernel)) rfl
theorem mc_X8_isReachable : Cond.code yX8_isReachable cX8_isReachable 1 (some .int) ∈ go_tb := go_tb_of (List.mem_of_getElem? (i := 568) (by decide +kernel)) rfl
theorem mc_X8_isVariable : Cond.code yX8_isVariable cX8_isVariable 1 (some .boolean) ∈ go_tb := go_tb_of (List.mem_of_getElem? (i := 250) (by decide +kernel)) rfl
theorem mc_X8_copyState : Cond.code yX8_copyState cX8_copyState 2 none ∈ go_tb := go_tb_of (List.mem_of_getElem? (i := 391) (by decide +kernel)) rfl
theorem mc_X8_feed : Cond.code yX8_feed cX8_feed 2 (some .int) ∈ go_tb := go_tb_of (List.mem_of_getElem? (i := 287) (by decide +kernel)) rfl
theorem mc_X8_blocksAreRight : Cond.code yX8_blocksAreRight cX8_blocksAreRight 3 (some .boolean) ∈ go_tb := go_tb_of (List.mem_of_getElem? (i := 348) (by decide +kernel)) rfl
theorem mc_X8_allExpanded : Cond.code yX8_allExpanded cX8_allExpanded 1 (some .boolean) ∈ go_tb := go_tb_of (List.mem_of_getElem? (i := 522) (by decide +kernel)) rfl
theorem mc_X8_expandNext : Cond.code yX8_expandNext cX8_expandNext 2 none ∈ go_tb := go_tb_of (List.mem_of_getElem? (i := 527) (by decide +kernel)) rfl
theorem mc_X8_fires : Cond.code yX8_fires cX8_fires 2 (some .boolean) ∈ go_tb := go_tb_of (List.mem_of_getElem? (i := 485) (by decide +kernel)) rfl
theorem mc_X8_storeForm : Cond.code yX8_storeForm cX8_storeForm 2 none ∈ go_tb := go_tb_of (List.mem_of_getElem? (i := 403) (by decide +kernel)) rfl
theorem mc_X8_layTrace : Cond.code yX8_layTrace cX8_layTrace 4 none ∈ go_tb := go_tb_of (List.mem_of_getElem? (i := 449) (by decide +kernel)) rfl
theorem mc_X9_init_ : Cond.code yX9_init_ cX9_init_ 2 none ∈ go_tb := go_tb_of (List.mem_of_getElem? (i := 637) (by decide +kernel)) rfl
theorem mc_X9_isVariable : Cond.code yX9_isVariable cX9_isVariable 1 (some .boolean) ∈ go_tb := go_tb_of (List.mem_of_getElem? (i := 644) (by decide +kernel)) rfl
theorem mc_X9_setInit : Cond.code yX9_setInit cX9_setInit 3 (some .int) ∈ go_tb := go_tb_of (List.mem_of_getElem? (i := 641) (by decide +kernel)) rfl
theorem mc_X9_setSymGroup : Cond.code yX9_setSymGroup cX9_setSymGroup 3 (some .int) ∈ go_tb := go_tb_of (List.mem_of_getElem? (i := 648) (by decide +kernel)) rfl
theorem mc_X9_beginRule : Cond.code yX9_beginRule cX9_beginRule 1 (some .int) ∈ go_tb := go_tb_of (List.mem_of_getElem? (i := 652) (by decide +kernel)) rfl
theorem mc_X9_isWord : Cond.code yX9_isWord cX9_isWord 3 (some .boolean) ∈ go_tb := go_tb_of (List.mem_of_getElem? (i := 659) (by decide +kernel)) rfl
theorem mc_X9_feedRule : Cond.code yX9_feedRule cX9_feedRule 3 (some .int) ∈ go_tb := go_tb_of (List.mem_of_getElem? (i := 656) (by decide +kernel)) rfl
theorem mc_X9_feedInvariant : Cond.code yX9_feedInvariant cX9_feedInvariant 2 (some .int) ∈ go_tb := go_tb_of (List.mem_of_getElem? (i := 663) (by decide +kernel)) rfl
theorem mc_X9_height : Cond.code yX9_height cX9_height 2 (some .int) ∈ go_tb := go_tb_of (List.mem_of_getElem? (i := 674) (by decide +kernel)) rfl
theorem mc_X9_ruleIsRight : Cond.code yX9_ruleIsRight cX9_ruleIsRight 6 (some .boolean) ∈ go_tb := go_tb_of (List.mem_of_getElem? (i := 671) (by decide +kernel)) rfl
theorem mc_X9_invariantIsRight : Cond.code yX9_invariantIsRight cX9_invariantIsRight 4 (some .boolean) ∈ go_tb := go_tb_of (List.mem_of_getElem? (i := 678) (by decide +kernel)) rfl
theorem mc_X9_exchanged : Cond.code yX9_exchanged cX9_exchanged 5 (some .int) ∈ go_tb := go_tb_of (List.mem_of_getElem? (i := 697) (by decide +kernel)) rfl
theorem mc_X9_becomesRule : Cond.code yX9_becomesRule cX9_becomesRule 6 (some .boolean) ∈ go_tb := go_tb_of (List.mem_of_getElem? (i := 694) (by decide +kernel)) rfl
theorem mc_X9_isRuleAgain : Cond.code yX9_isRuleAgain cX9_isRuleAgain 5 (some .boolean) ∈ go_tb := go_tb_of (List.mem_of_getElem? (i := 690) (by decide +kernel)) rfl
theorem mc_X9_end : Cond.code yX9_end cX9_end 3 (some .int) ∈ go_tb := go_tb_of (List.mem_of_getElem? (i := 713) (by decide +kernel)) rfl
theorem mc_X9_begins : Cond.code yX9_begins cX9_begins 2 (some .boolean) ∈ go_tb := go_tb_of (List.mem_of_getElem? (i := 701) (by decide +kernel)) rfl
theorem mc_X9_becomesPart : Cond.code yX9_becomesPart cX9_becomesPart 7 (some .boolean) ∈ go_tb := go_tb_of (List.mem_of_getElem? (i := 709) (by decide +kernel)) rfl
theorem mc_X9_isPartAgain : Cond.code yX9_isPartAgain cX9_isPartAgain 5 (some .boolean) ∈ go_tb := go_tb_of (List.mem_of_getElem? (i := 705) (by decide +kernel)) rfl
theorem mc_X9_mayExchange : Cond.code yX9_mayExchange cX9_mayExchange 4 (some .boolean) ∈ go_tb := go_tb_of (List.mem_of_getElem? (i := 686) (by decide +kernel)) rfl
theorem mc_X9_blocksAreRight : Cond.code yX9_blocksAreRight cX9_blocksAreRight 3 (some .boolean) ∈ go_tb := go_tb_of (List.mem_of_getElem? (i := 682) (by decide +kernel)) rfl
theorem mc_X9_two : Cond.code yX9_two cX9_two 3 (some .int) ∈ go_tb := go_tb_of (List.mem_of_getElem? (i := 740) (by decide +kernel)) rfl
theorem mc_X9_done : Cond.code yX9_done cX9_done 4 (some .int) ∈ go_tb := go_tb_of (List.mem_of_getElem? (i := 737) (by decide +kernel)) rfl
theorem mc_X9_holds : Cond.code yX9_holds cX9_holds 3 (some .boolean) ∈ go_tb := go_tb_of (List.mem_of_getElem? (i := 733) (by decide +kernel)) rfl
theorem mc_X9_fires : Cond.code yX9_fires cX9_fires 6 (some .boolean) ∈ go_tb := go_tb_of (List.mem_of_getElem? (i := 752) (by decide +kernel)) rfl
theorem mc_X9_place : Cond.code yX9_place cX9_place 4 (some .int) ∈ go_tb := go_tb_of (List.mem_of_getElem? (i := 729) (by decide +kernel)) rfl
theorem mc_X9_inOrder : Cond.code yX9_inOrder cX9_inOrder 4 (some .int) ∈ go_tb := go_tb_of (List.mem_of_getElem? (i := 725) (by decide +kernel)) rfl
theorem mc_X9_standardise : Cond.code yX9_standardise cX9_standardise 2 none ∈ go_tb := go_tb_of (List.mem_of_getElem? (i := 721) (by decide +kernel)) rfl
theorem mc_X9_isNormal : Cond.code yX9_isNormal cX9_isNormal 3 (some .boolean) ∈ go_tb := go_tb_of (List.mem_of_getElem? (i := 760) (by decide +kernel)) rfl
theorem mc_X9_isStored : Cond.code yX9_isStored cX9_isStored 2 (some .boolean) ∈ go_tb := go_tb_of (List.mem_of_getElem? (i := 756) (by decide +kernel)) rfl
theorem mc_X9_store : Cond.code yX9_store cX9_store 3 none ∈ go_tb := go_tb_of (List.mem_of_getElem? (i := 717) (by decide +kernel)) rfl
theorem mc_X9_seal : Cond.code yX9_seal cX9_seal 2 (some .int) ∈ go_tb := go_tb_of (List.mem_of_getElem? (i := 667) (by decide +kernel)) rfl
theorem mc_X9_expand : Cond.code yX9_expand cX9_expand 3 none ∈ go_tb := go_tb_of (List.mem_of_getElem? (i := 748) (by decide +kernel)) rfl
theorem mc_X9_explore : Cond.code yX9_explore cX9_explore 3 (some .int) ∈ go_tb := go_tb_of (List.mem_of_getElem? (i := 744) (by decide +kernel)) rfl
theorem mc_X9_verdict : Cond.code yX9_verdict cX9_verdict 1 (some .int) ∈ go_tb := go_tb_of (List.mem_of_getElem? (i := 764) (by decide +kernel)) rfl
theorem mc_X9_stateCount : Cond.code yX9_stateCount cX9_stateCount 1 (some .int) ∈ go_tb := go_tb_of (List.mem_of_getElem? (i := 768) (by decide +kernel)) rfl
theorem mc_X9_traceLen : Cond.code yX9_traceLen cX9_traceLen 4 (some .int) ∈ go_tb := go_tb_of (List.mem_of_getElem? (i := 772) (by decide +kernel)) rfl
theorem mc_X9_onWay : Cond.code yX9_onWay cX9_onWay 4 (some .int) ∈ go_tb := go_tb_of (List.mem_of_getElem? (i := 789) (by decide +kernel)) rfl
theorem mc_X9_fired : Cond.code yX9_fired cX9_fired 4 (some .int) ∈ go_tb := go_tb_of (List.mem_of_getElem? (i := 785) (by decide +kernel)) rfl
theorem mc_X9_follow : Cond.code yX9_follow cX9_follow 5 none ∈ go_tb := go_tb_of (List.mem_of_getElem? (i := 781) (by decide +kernel)) rfl
theorem mc_X9_traceRule : Cond.code yX9_traceRule cX9_traceRule 2 (some .int) ∈ go_tb := go_tb_of (List.mem_of_getElem? (i := 776) (by decide +kernel)) rfl
theorem mc_X9_traceVar : Cond.code yX9_traceVar cX9_traceVar 3 (some .int) ∈ go_tb := go_tb_of (List.mem_of_getElem? (i := 793) (by decide +kernel)) rfl
theorem mc_X9_replay : Cond.code yX9_replay cX9_replay 1 (some .int) ∈ go_tb := go_tb_of (List.mem_of_getElem? (i := 797) (by decide +kernel)) rfl
theorem mc_X9_probeVar : Cond.code yX9_probeVar cX9_probeVar 3 (some .int) ∈ go_tb := go_tb_of (List.mem_of_getElem? (i := 801) (by decide +kernel)) rfl
theorem mc_X9_isReachable : Cond.code yX9_isReachable cX9_isReachable 2 (some .int) ∈ go_tb := go_tb_of (List.mem_of_getElem? (i := 805) (by decide +kernel)) rfl
theorem mc_J9_min_7cf53 : Cond.code yJ9_min_7cf53 cJ9_min_7cf53 2 (some .int) ∈ go_tb := go_tb_of (List.mem_of_getElem? (i := 518) (by decide +kernel)) rfl
theorem mc_J7_fill_53178 : Cond.code yJ7_fill_53178 cJ7_fill_53178 4 none ∈ go_tb := go_tb_of (List.mem_of_getElem? (i := 174) (by decide +kernel)) rfl
theorem ml_ac : Cond.native arraycopyName ∈ go_tb ∧ Cond.static arraycopyName ∈ go_tb ∧ Cond.initialized "java/lang/System" ∈ go_tb := ⟨go_tb_of (List.mem_of_getElem? (i := 394) (by decide +kernel)) rfl, go_tb_of (List.mem_of_getElem? (i := 393) (by decide +kernel)) rfl, go_tb_of (List.mem_of_getElem? (i := 49) (by decide +kernel)) rfl⟩
end
section
/-! ===== numbers, truth values, contracts with something left open ===== -/
def go_b (b : Bool) : Int32 := if b then 1 else 0
theorem go_bn (b : Bool) : narrow .boolean (.int (go_b b)) = .int (go_b b) := by cases b <;> rfl
theorem go_bf (b : Bool) : fits .boolean (.int (go_b b)) = true := by cases b <;> rfl
theorem go_b0 {b : Bool} : go_b b = 0 ↔ b = false := by cases b <;> simp [go_b]
theorem go_bT : go_b true = 1 := rfl
theorem go_bF : go_b false = 0 := rfl
theorem go_binj {a b : Bool} (h : go_b a = go_b b) : a = b := by cases a <;> cases b <;> simp [go_b] at h ⊢
section GN
variable {X : go_X} {cc : ByteArray} {own : String} {rt : Option FieldType} {nL fr lo rc rs : Nat} {G : go_G} {kz : Nat × Nat} {ws : va_W} {lv : List (Nat × Value)} {st : List Value} {pc : Nat} {off : Int} {a b : Nat} {t : Bool}
theorem go_icmp_geN (C : go_Cx X cc own rt nL fr lo rc rs G) (tgt : Nat) (d : decode cc pc = .ok (.if_icmp .ge off, 3)) (ht : (pc : Int) + off = (tgt : Int)) (ha : a < 2 ^ 31) (hb : b < 2 ^ 31) (kt : ¬ a < b → go_Go X kz ws lv st tgt) (kf : a < b → go_Go X kz ws lv st (pc + 3)) : go_Go X kz ws lv (.int (nI b) :: .int (nI a) :: st) pc := go_icmp_ge C tgt d ht (fun h => kt (Nat.not_lt.mpr ((nI_leI hb ha).mp h))) (fun h => kf (Nat.not_le.mp fun z => h ((nI_leI hb ha).mpr z)))
theorem go_icmp_ltN (C : go_Cx X cc own rt nL fr lo rc rs G) (tgt : Nat) (d : decode cc pc = .ok (.if_icmp .lt off, 3)) (ht : (pc : Int) + off = (tgt : Int)) (ha : a < 2 ^ 31) (hb : b < 2 ^ 31) (kt : a < b → go_Go X kz ws lv st tgt) (kf : ¬ a < b → go_Go X kz ws lv st (pc + 3)) : go_Go X kz ws lv (.int (nI b) :: .int (nI a) :: st) pc := go_icmp_lt C tgt d ht (fun h => kt ((nI_ltI ha hb).mp h)) (fun h => kf (fun z => h ((nI_ltI ha hb).mpr z)))
theorem go_icmp_gtN (C : go_Cx X cc own rt nL fr lo rc rs G) (tgt : Nat) (d : decode cc pc = .ok (.if_icmp .gt off, 3)) (ht : (pc : Int) + off = (tgt : Int)) (ha : a < 2 ^ 31) (hb : b < 2 ^ 31) (kt : b < a → go_Go X kz ws lv st tgt) (kf : ¬ b < a → go_Go X kz ws lv st (pc + 3)) : go_Go X kz ws lv (.int (nI b) :: .int (nI a) :: st) pc := go_icmp_gt C tgt d ht (fun h => kt ((nI_ltI hb ha).mp h)) (fun h => kf (fun z => h ((nI_ltI hb ha).mpr z)))
theorem go_icmp_leN (C : go_Cx X cc own rt nL fr lo rc rs G) (tgt : Nat) (d : decode cc pc = .ok (.if_icmp .le off, 3)) (ht : (pc : Int) + off = (tgt : Int)) (ha : a < 2 ^ 31) (hb : b < 2 ^ 31) (kt : ¬ b < a → go_Go X kz ws lv st tgt) (kf : b < a → go_Go X kz ws lv st (pc + 3)) : go_Go X kz ws lv (.int (nI b) :: .int (nI a) :: st) pc := go_icmp_le C tgt d ht (fun h => kt (Nat.not_lt.mpr ((nI_leI ha hb).mp h))) (fun h => kf (Nat.not_le.mp fun z => h ((nI_leI ha hb).mpr z)))
theorem go_icmp_eqN (C : go_Cx X cc own rt nL fr lo rc rs G) (tgt : Nat) (d : decode cc pc = .ok (.if_icmp .eq off, 3)) (ht : (pc : Int) + off = (tgt : Int)) (ha : a < 2 ^ 31) (hb : b < 2 ^ 31) (kt : a = b → go_Go X kz ws lv st tgt) (kf : ¬ a = b → go_Go X kz ws lv st (pc + 3)) : go_Go X kz ws lv (.int (nI b) :: .int (nI a) :: st) pc := go_icmp_eq C tgt d ht (fun h => kt ((nI_eq ha hb).mp h)) (fun h => kf (fun z => h ((nI_eq ha hb).mpr z)))
theorem go_icmp_neN (C : go_Cx X cc own rt nL fr lo rc rs G) (tgt : Nat) (d : decode cc pc = .ok (.if_icmp .ne off, 3)) (ht : (pc : Int) + off = (tgt : Int)) (ha : a < 2 ^ 31) (hb : b < 2 ^ 31) (kt : ¬ a = b → go_Go X kz ws lv st tgt) (kf : a = b → go_Go X kz ws lv st (pc + 3)) : go_Go X kz ws lv (.int (nI b) :: .int (nI a) :: st) pc := go_icmp_ne C tgt d ht (fun h => kt (fun z => h ((nI_eq ha hb).mpr z))) (fun h => kf ((nI_eq ha hb).mp h))
theorem go_nz (ha : a < 2 ^ 31) : nI a = 0 ↔ a = 0 := by rw [← nI_0]; exact nI_eq ha (by decide)
theorem go_if_eqN (C : go_Cx X cc own rt nL fr lo rc rs G) (tgt : Nat) (d : decode cc pc = .ok (.ifCond .eq off, 3)) (ht : (pc : Int) + off = (tgt : Int)) (ha : a < 2 ^ 31) (kt : a = 0 → go_Go X kz ws lv st tgt) (kf : ¬ a = 0 → go_Go X kz ws lv st (pc + 3)) : go_Go X kz ws lv (.int (nI a) :: st) pc := go_if_eq C tgt d ht (fun h => kt ((go_nz ha).mp h)) (fun h => kf (fun z => h ((go_nz ha).mpr z)))
theorem go_if_neN (C : go_Cx X cc own rt nL fr lo rc rs G) (tgt : Nat) (d : decode cc pc = .ok (.ifCond .ne off, 3)) (ht : (pc : Int) + off = (tgt : Int)) (ha : a < 2 ^ 31) (kt : ¬ a = 0 → go_Go X kz ws lv st tgt) (kf : a = 0 → go_Go X kz ws lv st (pc + 3)) : go_Go X kz ws lv (.int (nI a) :: st) pc := go_if_ne C tgt d ht (fun h => kt (fun z => h ((go_nz ha).mpr z))) (fun h => kf ((go_nz ha).mp h))
theorem go_if_ltN (C : go_Cx X cc own rt nL fr lo rc rs G) (tgt : Nat) (d : decode cc pc = .ok (.ifCond .lt off, 3)) (ht : (pc : Int) + off = (tgt : Int)) (ha : a < 2 ^ 31) (kf : go_Go X kz ws lv st (pc + 3)) : go_Go X kz ws lv (.int (nI a) :: st) pc := go_if_lt C tgt d ht (fun h => absurd h (nI_pos ha)) (fun _ => kf)
theorem go_if_geN (C : go_Cx X cc own rt nL fr lo rc rs G) (tgt : Nat) (d : decode cc pc = .ok (.ifCond .ge off, 3)) (ht : (pc : Int) + off = (tgt : Int)) (ha : a < 2 ^ 31) (kt : go_Go X kz ws lv st tgt) : go_Go X kz ws lv (.int (nI a) :: st) pc := go_if_ge C tgt d ht (fun _ => kt) (fun h => absurd (nI_pos' ha) h)
theorem go_if_eqB (C : go_Cx X cc own rt nL fr lo rc rs G) (tgt : Nat) (d : decode cc pc = .ok (.ifCond .eq off, 3)) (ht : (pc : Int) + off = (tgt : Int)) (kt : t = false → go_Go X kz ws lv st tgt) (kf : t = true → go_Go X kz ws lv st (pc + 3)) : go_Go X kz ws lv (.int (go_b t) :: st) pc := go_if_eq C tgt d ht (fun h => kt (go_b0.mp h)) (fun h => kf (by cases t; exact absurd rfl h; rfl))
theorem go_if_neB (C : go_Cx X cc own rt nL fr lo rc rs G) (tgt : Nat) (d : decode cc pc = .ok (.ifCond .ne off, 3)) (ht : (pc : Int) + off = (tgt : Int)) (kt : t = true → go_Go X kz ws lv st tgt) (kf : t = false → go_Go X kz ws lv st (pc + 3)) : go_Go X kz ws lv (.int (go_b t) :: st) pc := go_if_ne C tgt d ht (fun h => kt (by cases t; exact absurd rfl h; rfl)) (fun h => kf (go_b0.mp h))
/-- the contents of a row of ints under another name -/
theorem go_cont {f : Nat → Int32} {c : ClassId} {n : Nat} (q0 : Nat) (he : ws[q0]? = some (a, .inl (c, n, .inl f))) (g : Nat → Int32) (hfg : ∀ j, j < n → f j = g j) (ws' : va_W) (hw : ws.set q0 (a, .inl (c, n, .inl g)) = ws') (kk : go_Go X kz ws' lv st pc) : go_Go X kz ws lv st pc := by
  obtain ⟨p, l, e, R, s, m, args, below, meth, c, G', nL', A, Q⟩ := X
  intro H locs ls hP hD hS hl
  subst hw
  refine kk H locs ls (hP.set hD he ?_ (fun _ _ => rfl)) (hD.set he) hS hl
  have h1 := hP q0 _ he
  show H[a]? = some (vp_cell _ (n, .inl g))
  have h2 : H[a]? = some (vp_cell _ (n, .inl f)) := h1
  rw [h2, vp_cell_i, vp_cell_i]
  congr 1
  unfold arrV
  congr 1
  apply Array.ext
  · simp
  · intro i h3 h4
    simp at h3
    simp [hfg i h3]
end GN
/-- a contract that leaves something open: u -/
def go_Qe (G : go_G) (A : Nat → Prop) {S : Type} (P : S → Prop) (r : S → Option Value) (W1 : S → va_W) : Array Value → State → Outcome → State → Prop := fun _ st oc t => (∃ u : S, P u ∧ oc = .returned (r u) ∧ va_P G.1 vwCl (W1 u) t.heap) ∧ va_F A st t
def go_Fe (y : MethodName) (cc : ByteArray) (nL : Nat) (rt : Option FieldType) (fr lo : Nat) (G : go_G) (As : List Value) (W0 : va_W) {S : Type} (P : S → Prop) (r : S → Option Value) (W1 : S → va_W) : Prop :=
  ∀ (l : Launch) (sz : Nat), Met l y (.code y cc nL rt :: go_tb) { frames := fr, cells := 0, slots := 0, locals := lo } (va_Pc As (fun U => U.heap.size = sz ∧ va_P G.1 vwCl W0 U.heap ∧ go_KK G U ∧ va_D (fun _ => True) W0)) (go_Qe G (va_A W0 sz) P r W1) 0 0 (va_A W0 sz)
def go_Ee (X : go_X) {S : Type} (P : S → Prop) (r : S → Option Value) (W1 : S → va_W) : Prop :=
  match X with
  | (_, _, _, _, s, _, args, below, _, _, G, _, A, Q) => Q = MQ below (go_Qe G A P r W1) args s 0 0 A
theorem go_Fe_of {y : MethodName} {cc : ByteArray} {nL : Nat} {rt : Option FieldType} {fr lo : Nat} {G : go_G} {As : List Value} {W0 : va_W} {S : Type} {P : S → Prop} {r : S → Option Value} {W1 : S → va_W} (hy : plainName y.cls = true) (hn : (lg_sl As).length ≤ nL)
    (h : ∀ X : go_X, go_Cx X cc y.cls rt nL fr lo 0 0 G → go_Ee X P r W1 → go_Go X (0, 0) W0 (lv_args 0 As) [] 0) : go_Fe y cc nL rt fr lo G As W0 P r W1 := by
  intro l sz
  refine Met.ofW (cc := cc) (maxL := nL) (ret := rt) hy rfl ?_
  intro p e s m args below meth c s₁ B hml hv
  obtain ⟨rfl, hsz, hP, hK, hD0⟩ := hv
  subst hsz
  have hts := atoms_spec (ws := .code y cc nL rt :: go_tb) B.pre
  have hown : s.vm.findClass y.cls = some m.cls := findClass_of_methodNamed B.named
  have hg := h (p, l, e, (headSpec (.code y cc nL rt :: go_tb) { frames := fr, cells := 0, slots := 0, locals := lo }).room, s, m, As.toArray, below, meth, c, G, nL, va_A W0 s.heap.size, MQ below (go_Qe G (va_A W0 s.heap.size) P r W1) As.toArray s 0 0 (va_A W0 s.heap.size))
    ⟨B.exec, B.bytes, B.returns, hml, hown, fun w hw => hts w (List.mem_cons_of_mem _ hw), B.notSynchronized, hK, rfl, rfl, rfl, fun q hq => Or.inr hq⟩ rfl
  have hl := lv_entry As (n := nL) hn
  rw [lg_entry_eq]
  exact hg s.heap [] _ hP hD0.self va_S.rf hl
theorem go_afterE {p : Program} {l : Launch} {e : Env} {R : Room} {s : State} {m : MethodId} {args a : Array Value} {below : List Frame} {meth : Method} {c : Code} {H : Heap} {locs : List Loc} {cells slots : Nat} {Q : State → Prop} {pc : Nat} {ls : Array Slot} {rest st0 : List Value} {A : Nat → Prop} {G : go_G} {ws wc : va_W} {S : Type} {P : S → Prop} {r : S → Option Value} {w1 : S → va_W}
    (hr : va_Run p l e R s m args below meth c H locs cells slots 0 0 (F0 m pc ls st0) rest (go_Qe G (va_A wc H.size) P r w1 a) (va_A wc H.size)) (hP : va_P G.1 vwCl ws H) (hD : va_D A ws) (hS : va_S A s.heap H locs) (hA : ∀ q, s.heap.size ≤ q → A q) (isC : List Nat) (hC : isC.map (fun i => ws[i]?) = wc.map some) (ha : ∀ u, (w1 u).map (·.1) = wc.map (·.1))
    (kk : ∀ (u : S) (H1 : Heap) (locs1 : List Loc), P u → va_P G.1 vwCl (go_pa ws isC (w1 u)) H1 → va_D A (go_pa ws isC (w1 u)) → va_S A s.heap H1 locs1 → W p l e R s m args below meth c H1 locs1 cells slots Q (F0 m (pc + 3) ls ((r u).toList ++ rest))) : W p l e R s m args below meth c H locs cells slots Q (F0 m pc ls st0) := by
  intro T hT X
  obtain ⟨v, st₀, t, T', L, h0, X', hL, e1, e2, ⟨⟨u, hu, hv, hp1⟩, hz, hk⟩, st⟩ := hr T hT X
  cases hv
  rw [h0] at hz hk
  have hF := va_free (wc := wc) hD hS hA isC hC
  rw [← e1] at hp1 hz hk
  obtain ⟨j1, j2⟩ := go_join hP hD isC hC (ha u) hk hp1
  obtain ⟨t2, a1, b1⟩ := kk u T'.heap (locs ++ L) hu j1 j2
    ⟨Nat.le_trans hS.1 hz, fun q h1 h2 => by rw [hk q (Nat.lt_of_lt_of_le h1 hS.1) (fun z => h2 (hF q z))]; exact hS.2.1 q h1 h2, fun q hq => by
      rcases List.mem_append.mp hq with h | h
      · exact hS.2.2 q h
      · exact hF _ (hL q h)⟩ T' rfl X'
  exact ⟨t2, st t2 a1, b1⟩
section GE
variable {X : go_X} {cc : ByteArray} {own : String} {rt : Option FieldType} {nL fr lo rc rs : Nat} {G : go_G} {kz : Nat × Nat} {ws : va_W} {lv : List (Nat × Value)} {st : List Value} {pc : Nat}
variable {y : MethodName} {bytes : ByteArray} {nL' fr' lo' : Nat} {rt' : Option FieldType} {As : List Value} {wc : va_W} {S : Type} {P : S → Prop} {ra : S → Option Value} {w1 : S → va_W} {b n index ci : Nat}
theorem go_callVe (C : go_Cx X cc own rt nL fr lo rc rs G) (hF : go_Fe y bytes nL' rt' fr' lo' G (.ref b :: As) wc P ra w1) (M : go_MV own index y n) (hcode : Cond.code y bytes nL' rt' ∈ go_tb) (d : decode cc pc = .ok (.invokevirtual index, 3)) (rest : List Value) (hst : st = As.reverse ++ .ref b :: rest) (isC : List Nat) (hC : isC.map (fun i => ws[i]?) = wc.map some) (hnd : va_nd isC = true) (ha : ∀ u, (w1 u).map (·.1) = wc.map (·.1))
    (q0 : Nat) {fs : List Value} {T : u_T} {N : Nat} (hq : ws[q0]? = some (b, .inr (ci, fs))) (hcl : vwCl[ci]? = some (y.cls, T, N)) (hn : As.length = n) (hR : fr' + 1 ≤ fr ∧ 8 + (nL' + 11) + lo' ≤ lo ∧ kz.1 ≤ rc ∧ kz.2 ≤ rs ∧ (rest.map fun v => v.category).sum ≤ 8) (ws' : S → va_W) (hw : ∀ u, go_pa ws isC (w1 u) = ws' u) (kk : ∀ u, P u → go_Go X kz (ws' u) lv ((ra u).toList ++ rest) (pc + 3)) : go_Go X kz ws lv st pc := by
  obtain ⟨p, l, e, R, s, m, args, below, meth, c, G', nL0, A, Q⟩ := X
  obtain ⟨hx, hb, hr, hml, hown, hts, hlk, hK, rfl, rfl, rfl, hA⟩ := C
  intro H locs ls hP hD hS hl
  subst hst
  obtain ⟨m1, m2, m3, m4, m5⟩ := M
  have hPc : va_P G'.1 vwCl wc H := hP.sub isC (by
    have : isC.filterMap (fun i => ws[i]?) = (isC.map (fun i => ws[i]?)).filterMap id := by rw [List.filterMap_map]; rfl
    rw [this, hC, List.filterMap_map]; exact List.filterMap_some)
  have hDc : va_D A wc := hD.sub isC hnd hC
  have cb : CallB { frames := fr, cells := rc, slots := rs, locals := lo } s args own index y bytes nL' rt' (Cond.code y bytes nL' rt' :: go_tb) { frames := fr', cells := 0, slots := 0, locals := lo' } 0 0 n := callB_of n hts (go_goodW hcode) rfl rfl rfl (hts _ m4) (hts _ m1) m5 ⟨hR.1, hR.2.1⟩
  refine go_afterE (G := G') (va_runV (As := As) (rest := rest) ⟨hx, hb, hml, hown, hts⟩ (hF l H.size) ⟨cb, hts _ m2, hts _ m3⟩ ⟨go_blind, va_recv hK.1 hP hcl hq, fun U hU hW => ⟨rfl, by rw [hU], by rw [hU]; exact hPc, go_KK_warm hW hK, hDc.weaken (fun _ _ _ _ => trivial)⟩⟩ rfl hn hl.1 rfl (lv_room hR.2.2.2.2) d ⟨hR.2.2.1, hR.2.2.2.1⟩) hP hD hS hA isC hC ha (fun u H1 locs1 hu hP1 hD1 hS1 => by
    rw [hw u] at hP1 hD1
    exact kk u hu H1 locs1 ls hP1 hD1 hS1 hl)
theorem go_callSe (C : go_Cx X cc own rt nL fr lo rc rs G) (hF : go_Fe y bytes nL' rt' fr' lo' G As wc P ra w1) (M : go_MS own index y n) (hcode : Cond.code y bytes nL' rt' ∈ go_tb) (d : decode cc pc = .ok (.invokestatic index, 3)) (rest : List Value) (hst : st = As.reverse ++ rest) (isC : List Nat) (hC : isC.map (fun i => ws[i]?) = wc.map some) (hnd : va_nd isC = true) (ha : ∀ u, (w1 u).map (·.1) = wc.map (·.1))
    (hn : As.length = n) (hR : fr' + 1 ≤ fr ∧ 8 + (nL' + 11) + lo' ≤ lo ∧ kz.1 ≤ rc ∧ kz.2 ≤ rs ∧ (rest.map fun v => v.category).sum ≤ 8) (ws' : S → va_W) (hw : ∀ u, go_pa ws isC (w1 u) = ws' u) (kk : ∀ u, P u → go_Go X kz (ws' u) lv ((ra u).toList ++ rest) (pc + 3)) : go_Go X kz ws lv st pc := by
  obtain ⟨p, l, e, R, s, m, args, below, meth, c, G', nL0, A, Q⟩ := X
  obtain ⟨hx, hb, hr, hml, hown, hts, hlk, hK, rfl, rfl, rfl, hA⟩ := C
  intro H locs ls hP hD hS hl
  subst hst
  obtain ⟨m1, m2, m4, m5⟩ := M
  have hPc : va_P G'.1 vwCl wc H := hP.sub isC (by
    have : isC.filterMap (fun i => ws[i]?) = (isC.map (fun i => ws[i]?)).filterMap id := by rw [List.filterMap_map]; rfl
    rw [this, hC, List.filterMap_map]; exact List.filterMap_some)
  have hDc : va_D A wc := hD.sub isC hnd hC
  have cb : CallB { frames := fr, cells := rc, slots := rs, locals := lo } s args own index y bytes nL' rt' (Cond.code y bytes nL' rt' :: go_tb) { frames := fr', cells := 0, slots := 0, locals := lo' } 0 0 n := callB_of n hts (go_goodW hcode) rfl rfl rfl (hts _ m4) (hts _ m1) m5 ⟨hR.1, hR.2.1⟩
  refine go_afterE (G := G') (va_runS (As := As) (rest := rest) ⟨hx, hb, hml, hown, hts⟩ (hF l H.size) ⟨cb, hts _ m2⟩ ⟨go_blind, fun U hU hW => ⟨rfl, by rw [hU], by rw [hU]; exact hPc, go_KK_warm hW hK, hDc.weaken (fun _ _ _ _ => trivial)⟩⟩ rfl hn hl.1 rfl (lv_room hR.2.2.2.2) d ⟨hR.2.2.1, hR.2.2.2.1⟩) hP hD hS hA isC hC ha (fun u H1 locs1 hu hP1 hD1 hS1 => by
    rw [hw u] at hP1 hD1
    exact kk u hu H1 locs1 ls hP1 hD1 hS1 hl)
theorem go_iretE (C : go_Cx X cc own (some .int) nL fr lo rc rs G) (E : go_Ee X P ra w1) {v : Int32} (d : decode cc pc = .ok (.ireturn, 1)) (u : S) (hu : P u) (hr : some (.int v) = ra u) (hw : ws = w1 u) : go_Go X (0, 0) ws lv [.int v] pc := by
  obtain ⟨p, l, e, R, s, m, args, below, meth, c, G', nL', A, Q⟩ := X
  obtain ⟨hx, hb, hrt, hml, hown, hts, hlk, hK, rfl, rfl, rfl, hA⟩ := C
  intro H locs ls hP hD hS hl
  have E : Q = _ := E
  subst E; subst hw
  exact W.iret hx hb hrt (fun t ht hW => ⟨⟨u, hu, by rw [hr], by rw [ht]; exact hP⟩, hS.F ht⟩) hS.2.2 d hlk
theorem go_zretE (C : go_Cx X cc own (some .boolean) nL fr lo rc rs G) (E : go_Ee X P ra w1) {v : Int32} (d : decode cc pc = .ok (.ireturn, 1)) (hn : narrow .boolean (.int v) = .int v) (u : S) (hu : P u) (hr : some (.int v) = ra u) (hw : ws = w1 u) : go_Go X (0, 0) ws lv [.int v] pc := by
  obtain ⟨p, l, e, R, s, m, args, below, meth, c, G', nL', A, Q⟩ := X
  obtain ⟨hx, hb, hrt, hml, hown, hts, hlk, hK, rfl, rfl, rfl, hA⟩ := C
  intro H locs ls hP hD hS hl
  have E : Q = _ := E
  subst E; subst hw
  exact W.zret hx hb hrt hn (fun t ht hW => ⟨⟨u, hu, by rw [hr], by rw [ht]; exact hP⟩, hS.F ht⟩) hS.2.2 d hlk
theorem go_vretE (C : go_Cx X cc own none nL fr lo rc rs G) (E : go_Ee X P ra w1) (d : decode cc pc = .ok (.return_, 1)) (u : S) (hu : P u) (hr : none = ra u) (hw : ws = w1 u) : go_Go X (0, 0) ws lv [] pc := by
  obtain ⟨p, l, e, R, s, m, args, below, meth, c, G', nL', A, Q⟩ := X
  obtain ⟨hx, hb, hrt, hml, hown, hts, hlk, hK, rfl, rfl, rfl, hA⟩ := C
  intro H locs ls hP hD hS hl
  have E : Q = _ := E
  subst E; subst hw
  exact W.vret hx hb hrt (fun t ht hW => ⟨⟨u, hu, by rw [hr], by rw [ht]; exact hP⟩, hS.F ht⟩) hS.2.2 d hlk
end GE
end
section
/-! ===== more rows of the go layer: the world in another order, calls that take the whole world ===== -/
def go_us (x y : Int32) : Int32 := (x.toUInt32 >>> (y.toUInt32 &&& Int32.toUInt32 31)).toInt32
theorem go_nd_range (n : Nat) : va_nd (List.range n) = true := by
  have key : ∀ l : List Nat, l.Nodup → va_nd l = true := by
    intro l
    induction l with
    | nil => intro _; rfl
    | cons a l ih =>
      intro h
      rw [List.nodup_cons] at h
      simp [va_nd, h.1, ih h.2]
  exact key _ List.nodup_range
theorem go_all_range (ws : va_W) : (List.range ws.length).map (fun i => ws[i]?) = ws.map some := by
  apply List.ext_getElem?
  intro i
  by_cases h : i < ws.length
  · simp [h]
  · simp [h]
theorem go_pa_len : ∀ (is : List Nat) (w1 ws : va_W), (go_pa ws is w1).length = ws.length
  | [], w1, ws => by simp [go_pa]
  | i :: is, [], ws => rfl
  | i :: is, c :: cs, ws => by
    show (go_pa (ws.set i c) is cs).length = _
    rw [go_pa_len is cs, List.length_set]
theorem go_pa_out : ∀ (is : List Nat) (w1 ws : va_W) (k : Nat), k ∉ is → (go_pa ws is w1)[k]? = ws[k]?
  | [], w1, ws, k, _ => by simp [go_pa]
  | i :: is, [], ws, k, _ => rfl
  | i :: is, c :: cs, ws, k, h => by
    rw [List.mem_cons, not_or] at h
    show (go_pa (ws.set i c) is cs)[k]? = _
    rw [go_pa_out is cs _ k h.2, List.getElem?_set_ne (Ne.symm h.1)]
theorem go_pa_rng : ∀ (w1 ws : va_W) (k : Nat), k + w1.length = ws.length → ws.take k ++ w1 = go_pa ws ((List.range w1.length).map (· + k)) w1
  | [], ws, k, h => by
    simp at h
    simp [go_pa, h]
  | c :: cs, ws, k, h => by
    rw [List.length_cons, List.range_succ_eq_map, List.map_cons, List.map_map]
    show _ = go_pa (ws.set (0 + k) c) _ cs
    have e : (List.range cs.length).map ((· + k) ∘ Nat.succ) = (List.range cs.length).map (· + (k + 1)) := List.map_congr_left (fun j _ => by simp; omega)
    rw [e, ← go_pa_rng cs (ws.set (0 + k) c) (k + 1) (by rw [List.length_set]; simp at h; omega), Nat.zero_add]
    have hk : k < ws.length := by simp at h; omega
    rw [List.take_succ, List.getElem?_set_self hk]
    simp [List.take_set_of_le]
theorem go_pa_all {ws w1 : va_W} (h : w1.length = ws.length) : go_pa ws (List.range ws.length) w1 = w1 := by
  have h1 := go_pa_rng w1 ws 0 (by omega)
  simp at h1
  rw [← h]
  exact h1.symm
theorem go_len_ad {w1 ws : va_W} (h : w1.map (·.1) = ws.map (·.1)) : w1.length = ws.length := by simpa using congrArg List.length h
section GM
variable {X : go_X} {cc : ByteArray} {own : String} {rt : Option FieldType} {nL fr lo rc rs : Nat} {G : go_G} {kz : Nat × Nat} {ws : va_W} {lv : List (Nat × Value)} {st : List Value} {pc : Nat}
theorem go_se (st' : List Value) (h : st = st') (kk : go_Go X kz ws lv st' pc) : go_Go X kz ws lv st pc := by subst h; exact kk
theorem go_we (ws' : va_W) (h : ws = ws') (kk : go_Go X kz ws' lv st pc) : go_Go X kz ws lv st pc := by subst h; exact kk
theorem go_le (lv' : List (Nat × Value)) (h : lv = lv') (kk : go_Go X kz ws lv' st pc) : go_Go X kz ws lv st pc := by subst h; exact kk
/-- the first cells in another order -/
theorem go_perm (L L' tl : va_W) (is : List Nat) (h : is.map (fun i => L[i]?) = L'.map some) (hn : va_nd is = true) (hl : L'.length = L.length) (kk : go_Go X kz (L' ++ tl) lv st pc) : go_Go X kz (L ++ tl) lv st pc := by
  obtain ⟨p, l, e, R, s, m, args, below, meth, c, G', nL', A, Q⟩ := X
  intro H locs ls hP hD hS hl'
  have hlen : is.length = L'.length := by simpa using congrArg List.length h
  have key : ∀ (k : Nat) (q : Nat × va_E), (L' ++ tl)[k]? = some q → ∃ j : Nat, (L ++ tl)[j]? = some q ∧ ((k < L'.length ∧ is[k]? = some j ∧ j < L.length) ∨ (L'.length ≤ k ∧ j = k)) := by
    intro k q hk
    by_cases hkl : k < L'.length
    · rw [List.getElem?_append_left hkl] at hk
      have h1 : (is.map (fun i => L[i]?))[k]? = some (some q) := by rw [h, List.getElem?_map, hk]; rfl
      rw [List.getElem?_map] at h1
      cases hi : is[k]? with
      | none => rw [hi] at h1; cases h1
      | some j =>
        rw [hi] at h1
        have h2 : L[j]? = some q := Option.some.inj h1
        have h3 : j < L.length := (List.getElem?_eq_some_iff.mp h2).1
        exact ⟨j, by rw [List.getElem?_append_left h3]; exact h2, Or.inl ⟨hkl, rfl, h3⟩⟩
    · have hk2 := hk
      rw [List.getElem?_append_right (by omega)] at hk
      exact ⟨k, by rw [List.getElem?_append_right (by omega), ← hl]; exact hk, Or.inr ⟨by omega, rfl⟩⟩
  refine kk H locs ls (fun k q hk => ?_) ⟨fun i j x y hi hj hxy => ?_, fun k q hk => ?_⟩ hS hl'
  · obtain ⟨j, hj, -⟩ := key k q hk
    exact hP j q hj
  · obtain ⟨a, ha, hca⟩ := key i x hi
    obtain ⟨b, hb, hcb⟩ := key j y hj
    have hab := hD.1 a b x y ha hb hxy
    subst hab
    rcases hca with ⟨h1, h2, h3⟩ | ⟨h1, h2⟩ <;> rcases hcb with ⟨g1, g2, g3⟩ | ⟨g1, g2⟩
    · exact va_nd_inj is hn i j a h2 g2
    · omega
    · omega
    · omega
  · obtain ⟨j, hj, -⟩ := key k q hk
    exact hD.2 j q hj
variable {y : MethodName} {bytes : ByteArray} {nL' fr' lo' : Nat} {rt' : Option FieldType} {As : List Value} {w1 : va_W} {ra : Option Value} {b n index ci : Nat}
theorem go_cV (C : go_Cx X cc own rt nL fr lo rc rs G) (hF : go_Fn y bytes nL' rt' fr' lo' G (.ref b :: As) ws ra w1) (M : go_MV own index y n) (hcode : Cond.code y bytes nL' rt' ∈ go_tb) (d : decode cc pc = .ok (.invokevirtual index, 3)) (rest : List Value) (hst : st = As.reverse ++ .ref b :: rest) (ha : w1.map (·.1) = ws.map (·.1))
    (q0 : Nat) {fs : List Value} {T : u_T} {N : Nat} (hq : ws[q0]? = some (b, .inr (ci, fs))) (hcl : vwCl[ci]? = some (y.cls, T, N)) (hn : As.length = n) (hR : fr' + 1 ≤ fr ∧ 8 + (nL' + 11) + lo' ≤ lo ∧ kz.1 ≤ rc ∧ kz.2 ≤ rs ∧ (rest.map fun v => v.category).sum ≤ 8) (st' : List Value) (hst' : ra.toList ++ rest = st') (kk : go_Go X kz w1 lv st' (pc + 3)) : go_Go X kz ws lv st pc :=
  go_callV C hF M hcode d rest hst (List.range ws.length) (go_all_range ws) (go_nd_range _) ha q0 hq hcl hn hR w1 (go_pa_all (go_len_ad ha)) (by rw [hst']; exact kk)
theorem go_cS (C : go_Cx X cc own rt nL fr lo rc rs G) (hF : go_Fn y bytes nL' rt' fr' lo' G As ws ra w1) (M : go_MS own index y n) (hcode : Cond.code y bytes nL' rt' ∈ go_tb) (d : decode cc pc = .ok (.invokestatic index, 3)) (rest : List Value) (hst : st = As.reverse ++ rest) (ha : w1.map (·.1) = ws.map (·.1))
    (hn : As.length = n) (hR : fr' + 1 ≤ fr ∧ 8 + (nL' + 11) + lo' ≤ lo ∧ kz.1 ≤ rc ∧ kz.2 ≤ rs ∧ (rest.map fun v => v.category).sum ≤ 8) (st' : List Value) (hst' : ra.toList ++ rest = st') (kk : go_Go X kz w1 lv st' (pc + 3)) : go_Go X kz ws lv st pc :=
  go_callS C hF M hcode d rest hst (List.range ws.length) (go_all_range ws) (go_nd_range _) ha hn hR w1 (go_pa_all (go_len_ad ha)) (by rw [hst']; exact kk)
theorem go_cN (C : go_Cx X cc own rt nL fr lo rc rs G) (hF : go_Fn y bytes nL' rt' fr' lo' G As ws ra w1) (M : go_MN own index y n) (hcode : Cond.code y bytes nL' rt' ∈ go_tb) (d : decode cc pc = .ok (.invokestatic index, 3)) (rest : List Value) (hst : st = As.reverse ++ rest) (ha : w1.map (·.1) = ws.map (·.1))
    (hn : As.length = n) (hR : fr' + 1 ≤ fr ∧ 8 + (nL' + 11) + lo' ≤ lo ∧ kz.1 ≤ rc ∧ kz.2 ≤ rs ∧ (rest.map fun v => v.category).sum ≤ 8) (st' : List Value) (hst' : ra.toList ++ rest = st') (kk : go_Go X kz w1 lv st' (pc + 3)) : go_Go X kz ws lv st pc :=
  go_callN C hF M hcode d rest hst (List.range ws.length) (go_all_range ws) (go_nd_range _) ha hn hR w1 (go_pa_all (go_len_ad ha)) (by rw [hst']; exact kk)
variable {S : Type} {P : S → Prop} {rf : S → Option Value} {wf : S → va_W}
theorem go_cVe (C : go_Cx X cc own rt nL fr lo rc rs G) (hF : go_Fe y bytes nL' rt' fr' lo' G (.ref b :: As) ws P rf wf) (M : go_MV own index y n) (hcode : Cond.code y bytes nL' rt' ∈ go_tb) (d : decode cc pc = .ok (.invokevirtual index, 3)) (rest : List Value) (hst : st = As.reverse ++ .ref b :: rest) (ha : ∀ u, (wf u).map (·.1) = ws.map (·.1))
    (q0 : Nat) {fs : List Value} {T : u_T} {N : Nat} (hq : ws[q0]? = some (b, .inr (ci, fs))) (hcl : vwCl[ci]? = some (y.cls, T, N)) (hn : As.length = n) (hR : fr' + 1 ≤ fr ∧ 8 + (nL' + 11) + lo' ≤ lo ∧ kz.1 ≤ rc ∧ kz.2 ≤ rs ∧ (rest.map fun v => v.category).sum ≤ 8) (kk : ∀ u, P u → go_Go X kz (wf u) lv ((rf u).toList ++ rest) (pc + 3)) : go_Go X kz ws lv st pc :=
  go_callVe C hF M hcode d rest hst (List.range ws.length) (go_all_range ws) (go_nd_range _) ha q0 hq hcl hn hR wf (fun u => go_pa_all (go_len_ad (ha u))) kk
theorem go_cSe (C : go_Cx X cc own rt nL fr lo rc rs G) (hF : go_Fe y bytes nL' rt' fr' lo' G As ws P rf wf) (M : go_MS own index y n) (hcode : Cond.code y bytes nL' rt' ∈ go_tb) (d : decode cc pc = .ok (.invokestatic index, 3)) (rest : List Value) (hst : st = As.reverse ++ rest) (ha : ∀ u, (wf u).map (·.1) = ws.map (·.1))
    (hn : As.length = n) (hR : fr' + 1 ≤ fr ∧ 8 + (nL' + 11) + lo' ≤ lo ∧ kz.1 ≤ rc ∧ kz.2 ≤ rs ∧ (rest.map fun v => v.category).sum ≤ 8) (kk : ∀ u, P u → go_Go X kz (wf u) lv ((rf u).toList ++ rest) (pc + 3)) : go_Go X kz ws lv st pc :=
  go_callSe C hF M hcode d rest hst (List.range ws.length) (go_all_range ws) (go_nd_range _) ha hn hR wf (fun u => go_pa_all (go_len_ad (ha u))) kk
end GM
end
section
/-! ===== what the words mean ===== -/
def pc_isV (v : Int32) : Bool := if v < 0 then false else if 6 ≤ v then false else true
def pc_op (w : Int32) : Int32 := w &&& 255
def pc_k (w : Int32) : Int32 := w >>> 8
def pc_isW (w : Int32) : Bool := if pc_op w = 0 then true else if pc_op w = 1 then pc_isV (pc_k w) else if pc_op w = 11 then pc_isV (pc_k w) else if 12 < pc_op w then false else if pc_k w = 0 then true else false
def pc_ex (w a b : Int32) : Int32 := if pc_op w = 1 ∨ pc_op w = 11 then (if pc_k w = a then b <<< 8 ||| pc_op w else if pc_k w = b then a <<< 8 ||| pc_op w else w) else w
/-- word j of a row of ln words -/
def pc_at (ln : Nat) (f : Nat → Int32) (j : Nat) : Int32 := if j < ln then f j else 0
def pc_next (ln : Nat) (f : Nat → Int32) (o : Int32) : Nat → Nat → Nat
  | 0, _ => ln
  | n + 1, i => if i < ln then (if pc_op (f i) = o then i else pc_next ln f o n (i + 1)) else ln
/-- the exchange of a and b in n words from a on makes of the first row the second -/
def pc_ti (F H : Nat → Int32) (n a b : Nat) (u v : Int32) : Nat → Nat → Bool
  | 0, _ => true
  | k + 1, i => if i < n then (if pc_ex (F (a + i)) u v = H (b + i) then pc_ti F H n a b u v k (i + 1) else false) else true
/-! heights -/
def pc_oi : Option Nat → Int32
  | none => -1
  | some h => nI h
def pc_hA (h : Nat) (o : Int32) (m : Bool) : Option Nat := if o = 10 then none else if o = 12 then none else if o = 11 ∧ m = false then none else if o = 0 ∨ o = 1 then (if h < 8 then some (h + 1) else none) else if o = 9 then (if h < 1 then none else some h) else if o = 11 then (if h < 1 then none else some (h - 1)) else (if h < 2 then none else some (h - 1))
theorem pc_hA_le {h h' : Nat} {o : Int32} {m : Bool} (hh : h ≤ 8) (e : pc_hA h o m = some h') : h' ≤ 8 := by
  unfold pc_hA at e
  repeat' split at e
  all_goals first | cases e; done | (cases e; omega)
theorem pc_m1 {h : Nat} (hh : h < 2 ^ 31) : ¬ nI h = -1 := by
  intro q
  have a := nI_toInt hh
  rw [q] at a
  have b : (-1 : Int32).toInt = -1 := by decide
  omega
theorem pc_oi_m1 {h : Nat} {o : Int32} {m : Bool} (hh : h ≤ 8) : pc_oi (pc_hA h o m) = -1 ↔ pc_hA h o m = none := by
  cases e : pc_hA h o m with
  | none => simp [pc_oi]
  | some h' =>
    have := pc_hA_le hh e
    simp only [pc_oi, reduceCtorEq, iff_false]
    exact pc_m1 (by omega)
theorem pc_oi_ne {h : Nat} {o : Int32} {m : Bool} (hh : h ≤ 8) (c : ¬ pc_oi (pc_hA h o m) = -1) : ∃ h', pc_hA h o m = some h' ∧ h' ≤ 8 := by
  rw [pc_oi_m1 hh] at c
  cases e : pc_hA h o m with
  | none => exact absurd e c
  | some h' => exact ⟨h', rfl, pc_hA_le hh e⟩
/-- a rule is right, as the class looks at it -/
def pc_rR (ln : Nat) (f : Nat → Int32) : Nat → Nat → Bool → Nat → Bool
  | 0, _, _, _ => false
  | n + 1, i, bt, h => if i < ln then (if pc_op (f i) = 10 ∧ bt = false then (if h = 1 then pc_rR ln f n (i + 1) true 0 else false) else (match pc_hA h (pc_op (f i)) bt with | none => false | some h' => pc_rR ln f n (i + 1) bt h')) else (bt && decide (h = 0))
def pc_iR (ln : Nat) (f : Nat → Int32) : Nat → Nat → Nat → Bool
  | 0, _, _ => false
  | n + 1, i, h => if i < ln then (if pc_op (f i) = 12 then (if h = 1 then pc_iR ln f n (i + 1) 0 else false) else (match pc_hA h (pc_op (f i)) false with | none => false | some h' => pc_iR ln f n (i + 1) h')) else decide (h = 1)
/-- parts of the invariant -/
def pc_ps (f : Nat → Int32) (i : Nat) : Bool := if i = 0 then true else if pc_op (f (i - 1)) = 12 then true else false
def pc_pe (ln : Nat) (f : Nat → Int32) (i : Nat) : Nat := pc_next ln f 12 (ln + 1) i
theorem pc_next_bd {ln : Nat} {f : Nat → Int32} {o : Int32} : ∀ (n i : Nat), i ≤ ln → i ≤ pc_next ln f o n i ∧ pc_next ln f o n i ≤ ln
  | 0, i, h => ⟨h, Nat.le_refl _⟩
  | n + 1, i, h => by
    unfold pc_next
    split
    · split
      · omega
      · have := pc_next_bd (ln := ln) (f := f) (o := o) n (i + 1) (by omega)
        omega
    · omega
theorem pc_pe_bd {ln : Nat} {f : Nat → Int32} {i : Nat} (h : i ≤ ln) : i ≤ pc_pe ln f i ∧ pc_pe ln f i ≤ ln := pc_next_bd _ i h
def pc_hE (ln : Nat) (f : Nat → Int32) (s : Nat) (u v : Int32) : Nat → Nat → Bool
  | 0, _ => false
  | n + 1, i => if i < ln then (if pc_ps f i = true ∧ pc_pe ln f i - i = pc_pe ln f s - s ∧ pc_ti (pc_at ln f) (pc_at ln f) (pc_pe ln f s - s) s i u v (pc_pe ln f s - s + 1) 0 = true then true else pc_hE ln f s u v n (i + 1)) else false
def pc_bE (ln : Nat) (f : Nat → Int32) (u v : Int32) : Nat → Nat → Bool
  | 0, _ => true
  | n + 1, i => if i < ln then (if pc_ps f i = true ∧ pc_hE ln f i u v (ln + 1) 0 = false then false else pc_bE ln f u v n (i + 1)) else true
/-- all rules -/
def pc_aR (nr : Nat) (ln : Nat → Nat) (F : Nat → Nat → Int32) : Nat → Nat → Bool
  | 0, _ => true
  | n + 1, r => if r < nr then (if pc_rR (ln r) (F r) (ln r + 1) 0 false 0 = true then pc_aR nr ln F n (r + 1) else false) else true
def pc_hX (nr : Nat) (ln : Nat → Nat) (F : Nat → Nat → Int32) (q : Nat) (u v : Int32) : Nat → Nat → Bool
  | 0, _ => false
  | n + 1, r => if r < nr then (if ln r = ln q ∧ pc_ti (pc_at (ln q) (F q)) (pc_at (ln r) (F r)) (ln q) 0 0 u v (ln q + 1) 0 = true then true else pc_hX nr ln F q u v n (r + 1)) else false
def pc_bX (nr : Nat) (ln : Nat → Nat) (F : Nat → Nat → Int32) (u v : Int32) : Nat → Nat → Bool
  | 0, _ => true
  | n + 1, r => if r < nr then (if pc_hX nr ln F r u v (nr + 1) 0 = true then pc_bX nr ln F u v n (r + 1) else false) else true
/-! rows of numbers -/
def pc_fill (n : Nat) (x : Int32) (f : Nat → Int32) : Nat → Int32 := fun j => if j < n then x else f j
theorem pc_fill_s (i : Nat) (x : Int32) (f : Nat → Int32) : upd (pc_fill i x f) i x = pc_fill (i + 1) x f := by
  funext j
  simp only [upd, pc_fill]
  by_cases h : j = i
  · subst h; simp
  · simp only [if_neg h]
    by_cases h2 : j < i
    · simp [h2, Nat.lt_succ_of_lt h2]
    · rw [if_neg h2, if_neg (by omega)]
theorem pc_fill_0 (x : Int32) (f : Nat → Int32) : pc_fill 0 x f = f := by funext j; simp [pc_fill]
theorem pc_isV_t {v : Nat} (h : v < 6) : pc_isV (nI v) = true := by
  unfold pc_isV
  rw [if_neg (nI_pos (by omega)), if_neg (show ¬ (6 : Int32) ≤ nI v from nI_ge (b := 6) h (by decide))]
theorem pc_isV_nI {v : Int32} (h : pc_isV v = true) : v = nI v.toNatClampNeg ∧ v.toNatClampNeg < 6 := by
  unfold pc_isV at h
  split at h
  · cases h
  · rename_i h0
    split at h
    · cases h
    · rename_i h6
      obtain ⟨j, hj, rfl⟩ := nI_of h0
      have h7 : j < 6 := by
        rcases Nat.lt_or_ge j 6 with z | z
        · exact z
        · exact absurd (nI_le (a := 6) z hj) h6
      rw [nI_clamp hj]
      exact ⟨rfl, h7⟩
/-! blocks, standard form -/
def pc_jn (B : Nat → Int32) (a b : Nat) : Bool := if B a = 0 then false else if B a = B b then true else false
def pc_sw (B s : Nat → Int32) (a b : Nat) : Nat → Int32 := if pc_jn B a b = true ∧ ¬ s a ≤ s b then upd (upd s a (s b)) b (s a) else s
def pc_si (B : Nat → Int32) (a : Nat) : Nat → Nat → (Nat → Int32) → (Nat → Int32)
  | 0, _, s => s
  | n + 1, b, s => if b < 6 then pc_si B a n (b + 1) (pc_sw B s a b) else s
def pc_so (B : Nat → Int32) : Nat → Nat → (Nat → Int32) → (Nat → Int32)
  | 0, _, s => s
  | n + 1, a, s => if a < 6 then pc_so B n (a + 1) (pc_si B a 7 (a + 1) s) else s
/-- the standard form -/
def pc_sf (B s : Nat → Int32) : Nat → Int32 := pc_so B 7 0 s
/-! the stack machine -/
def pc_bo (o : Int32) : Prop := o = 2 ∨ o = 3 ∨ o = 4 ∨ o = 5 ∨ o = 6 ∨ o = 7 ∨ o = 8
def pc_bin (o x y : Int32) : Int32 := if o = 2 then x + y else if o = 3 then x - y else if o = 4 then x * y else if o = 5 then (if x = y then 1 else 0) else if o = 6 then (if y ≤ x then 0 else 1) else if o = 7 then x &&& y else x ||| y
def pc_okw (h : Nat) (w : Int32) : Prop := (pc_op w = 0 ∧ h < 8) ∨ (pc_op w = 1 ∧ h < 8 ∧ pc_isV (pc_k w) = true) ∨ (pc_op w = 9 ∧ 1 ≤ h ∧ h ≤ 8) ∨ (pc_bo (pc_op w) ∧ 2 ≤ h ∧ h ≤ 8)
def pc_hw (h : Nat) (w : Int32) : Nat := if pc_op w = 0 then h + 1 else if pc_op w = 1 then h + 1 else if pc_op w = 9 then h else h - 1
def pc_s1 (b : Nat → Int32) (h : Nat) (st : Nat → Int32) (w : Int32) : Nat → Int32 := if pc_op w = 0 then upd st h (pc_k w) else if pc_op w = 1 then upd st h (b (pc_k w).toNatClampNeg) else if pc_op w = 9 then upd st (h - 1) (if st (h - 1) = 0 then 1 else 0) else upd st (h - 1 - 1) (pc_bin (pc_op w) (st (h - 1 - 1)) (st (h - 1)))
theorem pc_okw_0 {h : Nat} {w : Int32} (ok : pc_okw h w) (e : pc_op w = 0) : h < 8 := by
  rcases ok with ⟨-, q⟩ | ⟨q, -⟩ | ⟨q, -⟩ | ⟨q, -⟩
  · exact q
  · rw [e] at q; exact absurd q (by decide)
  · rw [e] at q; exact absurd q (by decide)
  · rw [e] at q; exact absurd q (by unfold pc_bo; decide)
theorem pc_okw_1 {h : Nat} {w : Int32} (ok : pc_okw h w) (e : pc_op w = 1) : h < 8 ∧ pc_isV (pc_k w) = true := by
  rcases ok with ⟨q, -⟩ | ⟨-, q⟩ | ⟨q, -⟩ | ⟨q, -⟩
  · rw [e] at q; exact absurd q (by decide)
  · exact q
  · rw [e] at q; exact absurd q (by decide)
  · rw [e] at q; exact absurd q (by unfold pc_bo; decide)
theorem pc_okw_9 {h : Nat} {w : Int32} (ok : pc_okw h w) (e : pc_op w = 9) : 1 ≤ h ∧ h ≤ 8 := by
  rcases ok with ⟨q, -⟩ | ⟨q, -⟩ | ⟨-, q⟩ | ⟨q, -⟩
  · rw [e] at q; exact absurd q (by decide)
  · rw [e] at q; exact absurd q (by decide)
  · exact q
  · rw [e] at q; exact absurd q (by unfold pc_bo; decide)
theorem pc_okw_b {h : Nat} {w : Int32} (ok : pc_okw h w) (e0 : ¬ pc_op w = 0) (e1 : ¬ pc_op w = 1) (e9 : ¬ pc_op w = 9) : pc_bo (pc_op w) ∧ 2 ≤ h ∧ h ≤ 8 := by
  rcases ok with ⟨q, -⟩ | ⟨q, -⟩ | ⟨q, -⟩ | q
  · exact absurd q e0
  · exact absurd q e1
  · exact absurd q e9
  · exact q
theorem pc_bo_11 {o : Int32} (h : pc_bo o) : ¬ o = 11 := by
  intro e
  subst e
  revert h
  unfold pc_bo
  decide
/-- right words from a height on: n of them, from i on -/
def pc_okf (f : Nat → Int32) : Nat → Nat → Nat → Prop
  | 0, _, _ => True
  | n + 1, i, h => pc_okw h (f i) ∧ pc_okf f n (i + 1) (pc_hw h (f i))
def pc_fo (f b : Nat → Int32) : Nat → Nat → Nat → (Nat → Int32) → Nat × (Nat → Int32)
  | 0, _, h, st => (h, st)
  | n + 1, i, h, st => pc_fo f b n (i + 1) (pc_hw h (f i)) (pc_s1 b h st (f i))
/-- the same with SET -/
def pc_okw' (h : Nat) (w : Int32) : Prop := (pc_op w = 11 ∧ pc_isV (pc_k w) = true ∧ 1 ≤ h ∧ h ≤ 8) ∨ (¬ pc_op w = 11 ∧ pc_okw h w)
def pc_hw' (h : Nat) (w : Int32) : Nat := if pc_op w = 11 then h - 1 else pc_hw h w
def pc_s1' (b : Nat → Int32) (h : Nat) (st : Nat → Int32) (w : Int32) : Nat → Int32 := if pc_op w = 11 then st else pc_s1 b h st w
def pc_a1' (h : Nat) (st a : Nat → Int32) (w : Int32) : Nat → Int32 := if pc_op w = 11 then upd a (pc_k w).toNatClampNeg (st (h - 1)) else a
def pc_okf' (f : Nat → Int32) : Nat → Nat → Nat → Prop
  | 0, _, _ => True
  | n + 1, i, h => pc_okw' h (f i) ∧ pc_okf' f n (i + 1) (pc_hw' h (f i))
def pc_fo' (f b : Nat → Int32) : Nat → Nat → Nat → (Nat → Int32) → (Nat → Int32) → Nat × (Nat → Int32) × (Nat → Int32)
  | 0, _, h, st, a => (h, st, a)
  | n + 1, i, h, st, a => pc_fo' f b n (i + 1) (pc_hw' h (f i)) (pc_s1' b h st (f i)) (pc_a1' h st a (f i))
/-- what does not lie below the height does not count -/
theorem pc_s1_eq {b st st' : Nat → Int32} {h : Nat} {w : Int32} (ok : pc_okw h w) (e : ∀ i, i < h → st i = st' i) : ∀ i, i < pc_hw h w → pc_s1 b h st w i = pc_s1 b h st' w i := by
  intro i hi
  unfold pc_s1 pc_hw at *
  by_cases h0 : pc_op w = 0
  · simp only [if_pos h0] at *
    unfold upd
    split
    · rfl
    · exact e i (by omega)
  · simp only [if_neg h0] at *
    by_cases h1 : pc_op w = 1
    · simp only [if_pos h1] at *
      unfold upd
      split
      · rfl
      · exact e i (by omega)
    · simp only [if_neg h1] at *
      by_cases h9 : pc_op w = 9
      · have hb := pc_okw_9 ok h9
        simp only [if_pos h9] at *
        rw [e (h - 1) (by omega)]
        unfold upd
        split
        · rfl
        · exact e i (by omega)
      · have hb := pc_okw_b ok h0 h1 h9
        simp only [if_neg h9] at *
        rw [e (h - 1) (by omega), e (h - 1 - 1) (by omega)]
        unfold upd
        split
        · rfl
        · exact e i (by omega)
theorem pc_fo_eq {f b : Nat → Int32} : ∀ (n i h : Nat) (st st' : Nat → Int32), pc_okf f n i h → (∀ j, j < h → st j = st' j) → (pc_fo f b n i h st).1 = (pc_fo f b n i h st').1 ∧ ∀ j, j < (pc_fo f b n i h st).1 → (pc_fo f b n i h st).2 j = (pc_fo f b n i h st').2 j
  | 0, i, h, st, st', _, e => ⟨rfl, e⟩
  | n + 1, i, h, st, st', ok, e => pc_fo_eq n (i + 1) (pc_hw h (f i)) _ _ ok.2 (pc_s1_eq ok.1 e)
/-! heights alone; what a rule does -/
def pc_hs (f : Nat → Int32) : Nat → Nat → Nat → Nat
  | 0, _, h => h
  | n + 1, i, h => pc_hs f n (i + 1) (pc_hw h (f i))
def pc_hs' (f : Nat → Int32) : Nat → Nat → Nat → Nat
  | 0, _, h => h
  | n + 1, i, h => pc_hs' f n (i + 1) (pc_hw' h (f i))
theorem pc_fo_1 {f b : Nat → Int32} : ∀ (n i h : Nat) (st : Nat → Int32), (pc_fo f b n i h st).1 = pc_hs f n i h
  | 0, _, _, _ => rfl
  | n + 1, i, h, st => pc_fo_1 n (i + 1) _ _
theorem pc_fo'_1 {f b : Nat → Int32} : ∀ (n i h : Nat) (st a : Nat → Int32), (pc_fo' f b n i h st a).1 = pc_hs' f n i h
  | 0, _, _, _, _ => rfl
  | n + 1, i, h, st, a => pc_fo'_1 n (i + 1) _ _ _
theorem pc_fo'_eq {f b : Nat → Int32} : ∀ (n i h : Nat) (st st' a : Nat → Int32), pc_okf' f n i h → (∀ j, j < h → st j = st' j) → (pc_fo' f b n i h st a).2.2 = (pc_fo' f b n i h st' a).2.2
  | 0, i, h, st, st', a, _, e => rfl
  | n + 1, i, h, st, st', a, ok, e => by
    show (pc_fo' f b n (i + 1) (pc_hw' h (f i)) (pc_s1' b h st (f i)) (pc_a1' h st a (f i))).2.2 = (pc_fo' f b n (i + 1) (pc_hw' h (f i)) (pc_s1' b h st' (f i)) (pc_a1' h st' a (f i))).2.2
    have ha : pc_a1' h st a (f i) = pc_a1' h st' a (f i) := by
      unfold pc_a1'
      rcases ok.1 with ⟨h1, h2, h3, h4⟩ | ⟨h1, h2⟩
      · rw [if_pos h1, if_pos h1, e (h - 1) (by omega)]
      · rw [if_neg h1, if_neg h1]
    rw [ha]
    refine pc_fo'_eq n (i + 1) _ _ _ _ ok.2 ?_
    intro j hj
    rcases ok.1 with ⟨h1, h2, h3, h4⟩ | ⟨h1, h2⟩
    · unfold pc_hw' at hj
      unfold pc_s1'
      rw [if_pos h1] at hj ⊢
      rw [if_pos h1]
      exact e j (by omega)
    · unfold pc_hw' at hj
      unfold pc_s1'
      rw [if_neg h1] at hj ⊢
      rw [if_neg h1]
      exact pc_s1_eq h2 e j hj
/-- the value that m words from i on leave -/
def pc_rv (f b : Nat → Int32) (i m : Nat) : Int32 := (pc_fo f b m i 0 (fun _ => 0)).2 0
/-- what m words from i on make of a -/
def pc_av (f b : Nat → Int32) (i m : Nat) (a : Nat → Int32) : Nat → Int32 := (pc_fo' f b m i 0 (fun _ => 0) a).2.2
/-- where THEN stands -/
def pc_th (ln : Nat) (f : Nat → Int32) : Nat := pc_next ln f 10 (ln + 1) 0
theorem pc_th_le (ln : Nat) (f : Nat → Int32) : pc_th ln f ≤ ln := (pc_next_bd _ 0 (Nat.zero_le _)).2
/-- a right rule, by heights -/
def pc_RK (ln : Nat) (f : Nat → Int32) : Prop := pc_th ln f < ln ∧ pc_okf f (pc_th ln f) 0 0 ∧ pc_hs f (pc_th ln f) 0 0 = 1 ∧ pc_okf' f (ln - (pc_th ln f + 1)) (pc_th ln f + 1) 0 ∧ pc_hs' f (ln - (pc_th ln f + 1)) (pc_th ln f + 1) 0 = 0
def pc_IK (ln : Nat) (f : Nat → Int32) : Prop := ∀ i, i < ln → pc_ps f i = true → pc_okf f (pc_pe ln f i - i) i 0 ∧ pc_hs f (pc_pe ln f i - i) i 0 = 1
/-- the rule may fire; the state after it -/
def pc_mf (ln : Nat) (f b : Nat → Int32) : Bool := if pc_rv f b 0 (pc_th ln f) = 0 then false else true
def pc_af (ln : Nat) (f b : Nat → Int32) : Nat → Int32 := pc_av f b (pc_th ln f + 1) (ln - (pc_th ln f + 1)) b
/-- the invariant holds -/
def pc_hd (ln : Nat) (f b : Nat → Int32) : Nat → Nat → Bool
  | 0, _ => true
  | n + 1, i => if i < ln then (if pc_ps f i = true ∧ pc_rv f b i (pc_pe ln f i - i) = 0 then false else pc_hd ln f b n (i + 1)) else true
def pc_ho (ln : Nat) (f b : Nat → Int32) : Bool := pc_hd ln f b (ln + 1) 0
/-! the store of states -/
def pc_has (ct : Nat) (s : Int32) : Bool := if s < 0 then false else if nI ct ≤ s then false else true
theorem pc_has_t {ct s : Nat} (h : s < ct) (hc : ct < 2 ^ 31) : pc_has ct (nI s) = true := by
  unfold pc_has
  rw [if_neg (nI_pos (by omega)), if_neg (nI_ge h hc)]
theorem pc_has_nI {ct : Nat} {s : Int32} (hc : ct < 2 ^ 31) (h : pc_has ct s = true) : s = nI s.toNatClampNeg ∧ s.toNatClampNeg < ct := by
  unfold pc_has at h
  split at h
  · cases h
  · rename_i h0
    split at h
    · cases h
    · rename_i h6
      obtain ⟨j, hj, rfl⟩ := nI_of h0
      have h7 : j < ct := by
        rcases Nat.lt_or_ge j ct with z | z
        · exact z
        · exact absurd (nI_le z hj) h6
      rw [nI_clamp hj]
      exact ⟨rfl, h7⟩
def pc_par (ct : Nat) (P : Nat → Int32) (s : Int32) : Int32 := if pc_has ct s = true then P s.toNatClampNeg else -1
/-- state s out of a row of states; a state written into it -/
def pc_stt (V : Nat → Int32) (s : Nat) : Nat → Int32 := fun v => V (6 * s + v)
def pc_wr (V : Nat → Int32) (c : Nat) (t : Nat → Int32) : Nat → Int32 := fun j => if 6 * c ≤ j ∧ j < 6 * c + 6 then t (j - 6 * c) else V j
theorem pc_wr_eq (V : Nat → Int32) (c d : Nat) (t : Nat → Int32) (h : d = 6 * c) : va_cpy t V 0 d 6 = pc_wr V c t := by
  funext j
  subst h
  simp [va_cpy, pc_wr]
def pc_mx (s : Nat → Int32) : Nat → Nat → Int32 → Int32
  | 0, _, m => m
  | n + 1, i, m => if i < 6 then pc_mx s n (i + 1) (m * 31 + s i) else m
/-- the bucket of a state -/
def pc_bk (s : Nat → Int32) : Nat := ((pc_mx s 7 0 0 ^^^ go_us (pc_mx s 7 0 0) 9) ^^^ go_us (pc_mx s 7 0 0) 18).toBitVec.toNat % 2 ^ 9
theorem pc_bk_lt (s : Nat → Int32) : pc_bk s < 512 := Nat.mod_lt _ (by decide)
def pc_e6 (V : Nat → Int32) (s : Nat) (t : Nat → Int32) : Nat → Nat → Bool
  | 0, _ => true
  | n + 1, i => if i < 6 then (if V (s * 6 + i) = t i then pc_e6 V s t n (i + 1) else false) else true
def pc_fd (ct : Nat) (V O : Nat → Int32) (t : Nat → Int32) : Nat → Nat → Int32 → Int32
  | 0, _, _ => -1
  | n + 1, i, s => if i < 400 then (if pc_has ct s = true then (if pc_e6 V s.toNatClampNeg t 7 0 = true then s else pc_fd ct V O t n (i + 1) (O s.toNatClampNeg)) else -1) else -1
/-! the trace -/
def pc_hst (sp : Nat) (i : Int32) : Bool := if i < 0 then false else if nI sp < i then false else if 400 ≤ i then false else true
theorem pc_hst_t {sp i : Nat} (h : i ≤ sp) (h4 : i < 400) (hs : sp < 2 ^ 31) : pc_hst sp (nI i) = true := by
  unfold pc_hst
  rw [if_neg (nI_pos (by omega)), if_neg (nI_nlt h hs), if_neg (show ¬ (400 : Int32) ≤ nI i from nI_ge (b := 400) h4 (by decide))]
theorem pc_hst_nI {sp : Nat} {i : Int32} (hs : sp < 2 ^ 31) (h : pc_hst sp i = true) : i = nI i.toNatClampNeg ∧ i.toNatClampNeg ≤ sp ∧ i.toNatClampNeg < 400 := by
  unfold pc_hst at h
  split at h
  · cases h
  · rename_i h0
    split at h
    · cases h
    · rename_i h6
      split at h
      · cases h
      · rename_i h7
        obtain ⟨j, hj, rfl⟩ := nI_of h0
        rw [nI_clamp hj]
        refine ⟨rfl, ?_, ?_⟩
        · rcases Nat.lt_or_ge sp j with z | z
          · exact absurd (nI_lt z hj) h6
          · exact z
        · rcases Nat.lt_or_ge j 400 with z | z
          · exact z
          · exact absurd (nI_le (a := 400) z hj) h7
def pc_d1 (k : Nat) : Int32 := nI k + (-1)
theorem pc_d1_s (k : Nat) : pc_d1 (k + 1) = nI k := pk_m1 k
def pc_sp (ct : Nat) (P : Nat → Int32) : Nat → Nat → Int32 → Nat
  | 0, k, _ => k
  | n + 1, k, s => if k < 399 then (if pc_par ct P s = -1 then k else pc_sp ct P n (k + 1) (pc_par ct P s)) else k
theorem pc_sp_le {ct : Nat} {P : Nat → Int32} : ∀ (n k : Nat) (s : Int32), k ≤ 399 → pc_sp ct P n k s ≤ 399
  | 0, k, _, h => h
  | n + 1, k, s, h => by
    unfold pc_sp
    split
    · split
      · exact h
      · exact pc_sp_le n (k + 1) _ (by omega)
    · exact h
def pc_wl (ct : Nat) (P : Nat → Int32) : Nat → Int32 → (Nat → Int32) → (Nat → Int32)
  | 0, _, w => w
  | i + 1, s, w => pc_wl ct P i (pc_par ct P s) (upd w i s)
def pc_ra (sp : Nat) (D : Nat → Int32) (i : Int32) : Int32 := if i < 0 then -1 else if nI sp ≤ i then -1 else D i.toNatClampNeg
/-! the checker: feeding -/
def pc_fr (ln : Nat) (x : Int32) : Int32 := if pc_isW x = true then (if 32 ≤ ln then -3 else 0) else -1
def pc_fl (ln : Nat) (x : Int32) : Nat := if pc_isW x = true ∧ ¬ 32 ≤ ln then ln + 1 else ln
def pc_fw (ln : Nat) (f : Nat → Int32) (x : Int32) : Nat → Int32 := if pc_isW x = true ∧ ¬ 32 ≤ ln then upd f ln x else f
/-! the checker: the blocks are right -/
def pc_bi (nr : Nat) (ln : Nat → Nat) (F : Nat → Nat → Int32) (B : Nat → Int32) (il : Nat) (iv : Nat → Int32) (a : Nat) : Nat → Nat → Bool
  | 0, _ => true
  | n + 1, b => if b < 6 then (if pc_jn B a b = true ∧ ¬ (pc_bX nr ln F (nI a) (nI b) (nr + 1) 0 = true ∧ pc_bE il iv (nI a) (nI b) (il + 1) 0 = true) then false else pc_bi nr ln F B il iv a n (b + 1)) else true
def pc_ba (nr : Nat) (ln : Nat → Nat) (F : Nat → Nat → Int32) (B : Nat → Int32) (il : Nat) (iv : Nat → Int32) : Nat → Nat → Bool
  | 0, _ => true
  | n + 1, a => if a < 6 then (if pc_bi nr ln F B il iv a 7 (a + 1) = true then pc_ba nr ln F B il iv n (a + 1) else false) else true
/-! the checker: expanding -/
def pc_fA (ln : Nat) (f b d : Nat → Int32) : Nat → Int32 := if pc_mf ln f b = true then pc_af ln f b else d
def pc_fF (B : Nat → Int32) (ln : Nat) (f b e : Nat → Int32) : Nat → Int32 := if pc_mf ln f b = true then pc_sf B (pc_af ln f b) else e
/-- count, states, parents, newest, older, violated, no room -/
abbrev pc_Z : Type := Nat × (Nat → Int32) × (Nat → Int32) × (Nat → Int32) × (Nat → Int32) × Bool × Bool
def pc_fdz (z : pc_Z) (t : Nat → Int32) : Int32 := pc_fd z.1 z.2.1 z.2.2.2.2.1 t 401 0 (z.2.2.2.1 (pc_bk t))
def pc_sto (il : Nat) (iv : Nat → Int32) (z : pc_Z) (t : Nat → Int32) (q : Int32) : pc_Z := if z.1 < 400 then (z.1 + 1, pc_wr z.2.1 z.1 t, upd z.2.2.1 z.1 q, upd z.2.2.2.1 (pc_bk t) (nI z.1), upd z.2.2.2.2.1 z.1 (z.2.2.2.1 (pc_bk t)), !(pc_ho il iv t), z.2.2.2.2.2.2) else (z.1, z.2.1, z.2.2.1, z.2.2.2.1, z.2.2.2.2.1, z.2.2.2.2.2.1, true)
theorem pc_sto_le {il : Nat} {iv : Nat → Int32} {z : pc_Z} {t : Nat → Int32} {q : Int32} (h : z.1 ≤ 400) : (pc_sto il iv z t q).1 ≤ 400 := by
  unfold pc_sto
  split
  · show z.1 + 1 ≤ 400; omega
  · exact h
def pc_xr (B : Nat → Int32) (il : Nat) (iv : Nat → Int32) (ln : Nat) (f b : Nat → Int32) (ex : Nat) (z : pc_Z) : pc_Z := if pc_mf ln f b = true then (if pc_fdz z (pc_sf B (pc_af ln f b)) = -1 then pc_sto il iv z (pc_sf B (pc_af ln f b)) (nI ex) else z) else z
def pc_xl (nr : Nat) (ln : Nat → Nat) (F : Nat → Nat → Int32) (B : Nat → Int32) (il : Nat) (iv b : Nat → Int32) (ex : Nat) : Nat → Nat → pc_Z → pc_Z × Nat
  | 0, _, z => (z, ex)
  | n + 1, r, z => if r < nr then (if (pc_xr B il iv (ln r) (F r) b ex z).2.2.2.2.2.1 = true then (pc_xr B il iv (ln r) (F r) b ex z, ex) else if (pc_xr B il iv (ln r) (F r) b ex z).2.2.2.2.2.2 = true then (pc_xr B il iv (ln r) (F r) b ex z, ex) else pc_xl nr ln F B il iv b ex n (r + 1) (pc_xr B il iv (ln r) (F r) b ex z)) else (z, ex + 1)
def pc_xp (nr : Nat) (ln : Nat → Nat) (F : Nat → Nat → Int32) (B : Nat → Int32) (il : Nat) (iv : Nat → Int32) (ex : Nat) (z : pc_Z) : pc_Z × Nat := pc_xl nr ln F B il iv (pc_stt z.2.1 ex) ex (nr + 1) 0 z
/-! the checker: the trace -/
def pc_fn (nr : Nat) (ln : Nat → Nat) (F : Nat → Nat → Int32) (B : Nat → Int32) (z : pc_Z) (b : Nat → Int32) (s : Int32) : Nat → Nat → Option Nat
  | 0, _ => none
  | n + 1, r => if r < nr then (if pc_mf (ln r) (F r) b = true ∧ pc_fdz z (pc_sf B (pc_af (ln r) (F r) b)) = s then some r else pc_fn nr ln F B z b s n (r + 1)) else none
/-- rules fired and states of the trace, from step i on -/
def pc_lo (ln : Nat → Nat) (F : Nat → Nat → Int32) (b : Nat → Int32) (i : Nat) (D T : Nat → Int32) : Option Nat → (Nat → Int32) × (Nat → Int32)
  | none => (D, T)
  | some q => (upd D i (nI q), pc_wr T (i + 1) (pc_af (ln q) (F q) b))
def pc_lt (nr : Nat) (ln : Nat → Nat) (F : Nat → Nat → Int32) (B : Nat → Int32) (z : pc_Z) (W : Nat → Int32) (sp : Nat) : Nat → Nat → (Nat → Int32) → (Nat → Int32) → (Nat → Int32) × (Nat → Int32)
  | 0, _, D, T => (D, T)
  | n + 1, i, D, T => if i < sp then pc_lt nr ln F B z W sp n (i + 1) (pc_lo ln F (pc_stt T i) i D T (pc_fn nr ln F B z (pc_stt T i) (W (i + 1)) (nr + 1) 0)).1 (pc_lo ln F (pc_stt T i) i D T (pc_fn nr ln F B z (pc_stt T i) (W (i + 1)) (nr + 1) 0)).2 else (D, T)
/-! the checker: exploring -/
def pc_mn (x : Int32) : Int32 := if 400 < x then 400 else x
theorem pc_mn_lt {x : Int32} {i : Nat} (hi : i < 2 ^ 31) (h : ¬ pc_mn x ≤ nI i) : i < 400 := by
  rcases Nat.lt_or_ge i 400 with z | z
  · exact z
  · refine absurd ?_ h
    have h4 : (400 : Int32) ≤ nI i := nI_le (a := 400) z hi
    unfold pc_mn
    split
    · exact h4
    · rename_i h5
      exact Int32.le_trans (Int32.not_lt.mp h5) h4
def pc_el (nr : Nat) (ln : Nat → Nat) (F : Nat → Nat → Int32) (B : Nat → Int32) (il : Nat) (iv : Nat → Int32) (x : Int32) : Nat → Nat → pc_Z → Nat → pc_Z × Nat
  | 0, _, z, ex => (z, ex)
  | n + 1, i, z, ex => if pc_mn x ≤ nI i then (z, ex) else if z.2.2.2.2.2.1 = true then (z, ex) else if z.2.2.2.2.2.2 = true then (z, ex) else if z.1 ≤ ex then (z, ex) else pc_el nr ln F B il iv x n (i + 1) (pc_xp nr ln F B il iv ex z).1 (pc_xp nr ln F B il iv ex z).2
/-- steps, way, rules, states of the trace that is laid -/
def pc_ly (nr : Nat) (ln : Nat → Nat) (F : Nat → Nat → Int32) (B : Nat → Int32) (z : pc_Z) (f0 W D T : Nat → Int32) : Nat × (Nat → Int32) × (Nat → Int32) × (Nat → Int32) :=
  (pc_sp z.1 z.2.2.1 400 0 (nI (z.1 - 1)), pc_wl z.1 z.2.2.1 (pc_sp z.1 z.2.2.1 400 0 (nI (z.1 - 1)) + 1) (nI (z.1 - 1)) W,
   pc_lt nr ln F B z (pc_wl z.1 z.2.2.1 (pc_sp z.1 z.2.2.1 400 0 (nI (z.1 - 1)) + 1) (nI (z.1 - 1)) W) (pc_sp z.1 z.2.2.1 400 0 (nI (z.1 - 1))) 400 0 D (pc_wr T 0 f0))
theorem pc_xr_le {B iv f b : Nat → Int32} {il ln ex : Nat} {z : pc_Z} (h : z.1 ≤ 400) : (pc_xr B il iv ln f b ex z).1 ≤ 400 := by
  unfold pc_xr
  split
  · split
    · exact pc_sto_le h
    · exact h
  · exact h
theorem pc_xl_le {nr : Nat} {ln : Nat → Nat} {F : Nat → Nat → Int32} {B iv b : Nat → Int32} {il ex : Nat} : ∀ (n r : Nat) (z : pc_Z), z.1 ≤ 400 → (pc_xl nr ln F B il iv b ex n r z).1.1 ≤ 400 ∧ (pc_xl nr ln F B il iv b ex n r z).2 ≤ ex + 1
  | 0, r, z, h => ⟨h, Nat.le_succ _⟩
  | n + 1, r, z, h => by
    unfold pc_xl
    split
    · split
      · exact ⟨pc_xr_le h, Nat.le_succ _⟩
      · split
        · exact ⟨pc_xr_le h, Nat.le_succ _⟩
        · exact pc_xl_le n (r + 1) _ (pc_xr_le h)
    · exact ⟨h, Nat.le_refl _⟩
end
section
set_option maxHeartbeats 4000000 in
set_option maxRecDepth 100000 in
theorem c_X8_isVariable (G : go_G) (rs : va_W)  (v : Int32)   : go_Fn yX8_isVariable cX8_isVariable 1 (some .boolean) 0 0 G [.int v] rs (some (.int (go_b (pc_isV v)))) rs := by
  refine go_Fn_of (by decide) (Nat.le_of_ble_eq_true rfl) (fun X C E => ?_)
  show go_Go X (0, 0) rs [(0, .int v)] [] 0
  refine go_iload_n C dX8_isVariable_0 0 rfl rfl ?_
  refine go_if_lt C 14 dX8_isVariable_1 (by decide) (fun c_1 => ?_) (fun c_1 => ?_)
  · refine go_iconst C (0) dX8_isVariable_14 (by decide) ?_
    refine go_se [.int (go_b (false))] rfl ?_
    exact go_zret C E dX8_isVariable_15 (go_bn _) (by first | contradiction | rfl | (simp [pc_isV, *]; done) | (rw [decide_eq_true (by omega)]; done) | (rw [decide_eq_false (by omega)]; done) | (simp_all [pc_isV]; done) | (simp [pc_isV]; omega) | (simp_all [pc_isV]; omega) | omega) rfl
  · refine go_iload_n C dX8_isVariable_4 0 rfl rfl ?_
    refine go_bipush C (6) dX8_isVariable_5 (by decide) ?_
    refine go_icmp_ge C 14 dX8_isVariable_7 (by decide) (fun c_7 => ?_) (fun c_7 => ?_)
    · refine go_iconst C (0) dX8_isVariable_14 (by decide) ?_
      refine go_se [.int (go_b (false))] rfl ?_
      exact go_zret C E dX8_isVariable_15 (go_bn _) (by first | contradiction | rfl | (simp [pc_isV, *]; done) | (rw [decide_eq_true (by omega)]; done) | (rw [decide_eq_false (by omega)]; done) | (simp_all [pc_isV]; done) | (simp [pc_isV]; omega) | (simp_all [pc_isV]; omega) | omega) rfl
    · refine go_iconst C (1) dX8_isVariable_10 (by decide) ?_
      refine go_goto C 15 dX8_isVariable_11 (by decide) ?_
      refine go_se [.int (go_b (true))] rfl ?_
      exact go_zret C E dX8_isVariable_15 (go_bn _) (by first | contradiction | rfl | (simp [pc_isV, *]; done) | (rw [decide_eq_true (by omega)]; done) | (rw [decide_eq_false (by omega)]; done) | (simp_all [pc_isV]; done) | (simp [pc_isV]; omega) | (simp_all [pc_isV]; omega) | omega) rfl
set_option maxHeartbeats 4000000 in
set_option maxRecDepth 100000 in
theorem c_X6_op (G : go_G) (rs : va_W)  (w : Int32)   : go_Fn yX6_op cX6_op 1 (some .int) 0 0 G [.int w] rs (some (.int (pc_op w))) rs := by
  refine go_Fn_of (by decide) (Nat.le_of_ble_eq_true rfl) (fun X C E => ?_)
  show go_Go X (0, 0) rs [(0, .int w)] [] 0
  refine go_iload_n C dX6_op_0 0 rfl rfl ?_
  refine go_sipush C (255) dX6_op_1 (by decide) ?_
  refine go_iand C (z := w &&& 255) dX6_op_4 rfl ?_
  exact go_iret C E dX6_op_5 rfl rfl
set_option maxHeartbeats 4000000 in
set_option maxRecDepth 100000 in
theorem c_X6_operand (G : go_G) (rs : va_W)  (w : Int32)   : go_Fn yX6_operand cX6_operand 1 (some .int) 0 0 G [.int w] rs (some (.int (pc_k w))) rs := by
  refine go_Fn_of (by decide) (Nat.le_of_ble_eq_true rfl) (fun X C E => ?_)
  show go_Go X (0, 0) rs [(0, .int w)] [] 0
  refine go_iload_n C dX6_operand_0 0 rfl rfl ?_
  refine go_bipush C (8) dX6_operand_1 (by decide) ?_
  refine go_ishr C (z := w >>> 8) dX6_operand_3 rfl ?_
  exact go_iret C E dX6_operand_4 rfl rfl
set_option maxHeartbeats 4000000 in
set_option maxRecDepth 100000 in
theorem c_X6_isWord (G : go_G) (rs : va_W)  (w : Int32)   : go_Fn yX6_isWord cX6_isWord 2 (some .boolean) 1 20 G [.int w] rs (some (.int (go_b (pc_isW w)))) rs := by
  refine go_Fn_of (by decide) (Nat.le_of_ble_eq_true rfl) (fun X C E => ?_)
  show go_Go X (0, 0) rs [(0, .int w)] [] 0
  refine go_iload_n C dX6_isWord_0 0 rfl rfl ?_
  refine go_cS C (c_X6_op G rs  w  ) ml_X6_9 mc_X6_op dX6_isWord_1 [] rfl rfl rfl ⟨Nat.le_of_ble_eq_true rfl, Nat.le_of_ble_eq_true rfl, Nat.zero_le _, Nat.zero_le _, Nat.le_of_ble_eq_true rfl⟩ [.int (pc_op w)] rfl ?_
  refine go_istore_n C [(0, .int w), (1, .int (pc_op w))] dX6_isWord_4 [1, 0] rfl (by decide) rfl ?_
  refine go_iload_n C dX6_isWord_5 1 rfl rfl ?_
  refine go_if_ne C 11 dX6_isWord_6 (by decide) (fun c_6 => ?_) (fun c_6 => ?_)
  · refine go_iload_n C dX6_isWord_11 1 rfl rfl ?_
    refine go_iconst C (1) dX6_isWord_12 (by decide) ?_
    refine go_icmp_eq C 22 dX6_isWord_13 (by decide) (fun c_13 => ?_) (fun c_13 => ?_)
    · refine go_iload_n C dX6_isWord_22 0 rfl rfl ?_
      refine go_cS C (c_X6_operand G rs  w  ) ml_X6_15 mc_X6_operand dX6_isWord_23 [] rfl rfl rfl ⟨Nat.le_of_ble_eq_true rfl, Nat.le_of_ble_eq_true rfl, Nat.zero_le _, Nat.zero_le _, Nat.le_of_ble_eq_true rfl⟩ [.int (pc_k w)] rfl ?_
      refine go_cN C (c_X8_isVariable G rs  (pc_k w)  ) ml_X6_18 mc_X8_isVariable dX6_isWord_26 [] rfl rfl rfl ⟨Nat.le_of_ble_eq_true rfl, Nat.le_of_ble_eq_true rfl, Nat.zero_le _, Nat.zero_le _, Nat.le_of_ble_eq_true rfl⟩ [.int (go_b (pc_isV (pc_k w)))] rfl ?_
      exact go_zret C E dX6_isWord_29 (go_bn _) (by first | contradiction | rfl | (simp [pc_isW, *]; done) | (rw [decide_eq_true (by omega)]; done) | (rw [decide_eq_false (by omega)]; done) | (simp_all [pc_isW]; done) | (simp [pc_isW]; omega) | (simp_all [pc_isW]; omega) | omega) rfl
    · refine go_iload_n C dX6_isWord_16 1 rfl rfl ?_
      refine go_bipush C (11) dX6_isWord_17 (by decide) ?_
      refine go_icmp_ne C 30 dX6_isWord_19 (by decide) (fun c_19 => ?_) (fun c_19 => ?_)
      · refine go_iload_n C dX6_isWord_30 1 rfl rfl ?_
        refine go_bipush C (12) dX6_isWord_31 (by decide) ?_
        refine go_icmp_gt C 47 dX6_isWord_33 (by decide) (fun c_33 => ?_) (fun c_33 => ?_)
        · refine go_iconst C (0) dX6_isWord_47 (by decide) ?_
          refine go_se [.int (go_b (false))] rfl ?_
          exact go_zret C E dX6_isWord_48 (go_bn _) (by first | contradiction | rfl | (simp [pc_isW, *]; done) | (rw [decide_eq_true (by omega)]; done) | (rw [decide_eq_false (by omega)]; done) | (simp_all [pc_isW]; done) | (simp [pc_isW]; omega) | (simp_all [pc_isW]; omega) | omega) rfl
        · refine go_iload_n C dX6_isWord_36 0 rfl rfl ?_
          refine go_cS C (c_X6_operand G rs  w  ) ml_X6_15 mc_X6_operand dX6_isWord_37 [] rfl rfl rfl ⟨Nat.le_of_ble_eq_true rfl, Nat.le_of_ble_eq_true rfl, Nat.zero_le _, Nat.zero_le _, Nat.le_of_ble_eq_true rfl⟩ [.int (pc_k w)] rfl ?_
          refine go_if_ne C 47 dX6_isWord_40 (by decide) (fun c_40 => ?_) (fun c_40 => ?_)
          · refine go_iconst C (0) dX6_isWord_47 (by decide) ?_
            refine go_se [.int (go_b (false))] rfl ?_
            exact go_zret C E dX6_isWord_48 (go_bn _) (by first | contradiction | rfl | (simp [pc_isW, *]; done) | (rw [decide_eq_true (by omega)]; done) | (rw [decide_eq_false (by omega)]; done) | (simp_all [pc_isW]; done) | (simp [pc_isW]; omega) | (simp_all [pc_isW]; omega) | omega) rfl
          · refine go_iconst C (1) dX6_isWord_43 (by decide) ?_
            refine go_goto C 48 dX6_isWord_44 (by decide) ?_
            refine go_se [.int (go_b (true))] rfl ?_
            exact go_zret C E dX6_isWord_48 (go_bn _) (by first | contradiction | rfl | (simp [pc_isW, *]; done) | (rw [decide_eq_true (by omega)]; done) | (rw [decide_eq_false (by omega)]; done) | (simp_all [pc_isW]; done) | (simp [pc_isW]; omega) | (simp_all [pc_isW]; omega) | omega) rfl
      · refine go_iload_n C dX6_isWord_22 0 rfl rfl ?_
        refine go_cS C (c_X6_operand G rs  w  ) ml_X6_15 mc_X6_operand dX6_isWord_23 [] rfl rfl rfl ⟨Nat.le_of_ble_eq_true rfl, Nat.le_of_ble_eq_true rfl, Nat.zero_le _, Nat.zero_le _, Nat.le_of_ble_eq_true rfl⟩ [.int (pc_k w)] rfl ?_
        refine go_cN C (c_X8_isVariable G rs  (pc_k w)  ) ml_X6_18 mc_X8_isVariable dX6_isWord_26 [] rfl rfl rfl ⟨Nat.le_of_ble_eq_true rfl, Nat.le_of_ble_eq_true rfl, Nat.zero_le _, Nat.zero_le _, Nat.le_of_ble_eq_true rfl⟩ [.int (go_b (pc_isV (pc_k w)))] rfl ?_
        exact go_zret C E dX6_isWord_29 (go_bn _) (by first | contradiction | rfl | (simp [pc_isW, *]; done) | (rw [decide_eq_true (by omega)]; done) | (rw [decide_eq_false (by omega)]; done) | (simp_all [pc_isW]; done) | (simp [pc_isW]; omega) | (simp_all [pc_isW]; omega) | omega) rfl
  · refine go_iconst C (1) dX6_isWord_9 (by decide) ?_
    refine go_se [.int (go_b (true))] rfl ?_
    exact go_zret C E dX6_isWord_10 (go_bn _) (by first | contradiction | rfl | (simp [pc_isW, *]; done) | (rw [decide_eq_true (by omega)]; done) | (rw [decide_eq_false (by omega)]; done) | (simp_all [pc_isW]; done) | (simp [pc_isW]; omega) | (simp_all [pc_isW]; omega) | omega) rfl
set_option maxHeartbeats 4000000 in
set_option maxRecDepth 100000 in
theorem c_X6_exchanged (G : go_G) (rs : va_W)  (w : Int32) (a : Int32) (b : Int32)   : go_Fn yX6_exchanged cX6_exchanged 5 (some .int) 1 20 G [.int w, .int a, .int b] rs (some (.int (pc_ex w a b))) rs := by
  refine go_Fn_of (by decide) (Nat.le_of_ble_eq_true rfl) (fun X C E => ?_)
  show go_Go X (0, 0) rs [(0, .int w), (1, .int a), (2, .int b)] [] 0
  refine go_iload_n C dX6_exchanged_0 0 rfl rfl ?_
  refine go_cS C (c_X6_op G rs  w  ) ml_X6_9 mc_X6_op dX6_exchanged_1 [] rfl rfl rfl ⟨Nat.le_of_ble_eq_true rfl, Nat.le_of_ble_eq_true rfl, Nat.zero_le _, Nat.zero_le _, Nat.le_of_ble_eq_true rfl⟩ [.int (pc_op w)] rfl ?_
  refine go_istore_n C [(0, .int w), (1, .int a), (2, .int b), (3, .int (pc_op w))] dX6_exchanged_4 [1, 2, 3, 0] rfl (by decide) rfl ?_
  refine go_iload_n C dX6_exchanged_5 0 rfl rfl ?_
  refine go_cS C (c_X6_operand G rs  w  ) ml_X6_15 mc_X6_operand dX6_exchanged_6 [] rfl rfl rfl ⟨Nat.le_of_ble_eq_true rfl, Nat.le_of_ble_eq_true rfl, Nat.zero_le _, Nat.zero_le _, Nat.le_of_ble_eq_true rfl⟩ [.int (pc_k w)] rfl ?_
  refine go_istore C [(0, .int w), (1, .int a), (2, .int b), (3, .int (pc_op w)), (4, .int (pc_k w))] dX6_exchanged_9 [1, 2, 3, 4, 0] (by decide) rfl ?_
  refine go_iload_n C dX6_exchanged_11 3 rfl rfl ?_
  refine go_iconst C (1) dX6_exchanged_12 (by decide) ?_
  refine go_icmp_eq C 22 dX6_exchanged_13 (by decide) (fun c_13 => ?_) (fun c_13 => ?_)
  · refine go_iload C dX6_exchanged_22 4 rfl ?_
    refine go_iload_n C dX6_exchanged_24 1 rfl rfl ?_
    refine go_icmp_eq C 36 dX6_exchanged_25 (by decide) (fun c_25 => ?_) (fun c_25 => ?_)
    · refine go_iload C dX6_exchanged_36 4 rfl ?_
      refine go_iload_n C dX6_exchanged_38 1 rfl rfl ?_
      refine go_icmp_ne C 46 dX6_exchanged_39 (by decide) (fun c_39 => ?_) (fun c_39 => ?_)
      · refine go_iload_n C dX6_exchanged_46 1 rfl rfl ?_
        refine go_bipush C (8) dX6_exchanged_47 (by decide) ?_
        refine go_ishl C (z := a <<< 8) dX6_exchanged_49 rfl ?_
        refine go_iload_n C dX6_exchanged_50 3 rfl rfl ?_
        refine go_ior C (z := (a <<< 8) ||| (pc_op w)) dX6_exchanged_51 rfl ?_
        exact go_iret C E dX6_exchanged_52 (by first | contradiction | rfl | (simp [pc_ex, *]; done) | (rw [decide_eq_true (by omega)]; done) | (rw [decide_eq_false (by omega)]; done) | (simp_all [pc_ex]; done) | (simp [pc_ex]; omega) | (simp_all [pc_ex]; omega) | omega) rfl
      · refine go_iload_n C dX6_exchanged_42 2 rfl rfl ?_
        refine go_goto C 47 dX6_exchanged_43 (by decide) ?_
        refine go_bipush C (8) dX6_exchanged_47 (by decide) ?_
        refine go_ishl C (z := b <<< 8) dX6_exchanged_49 rfl ?_
        refine go_iload_n C dX6_exchanged_50 3 rfl rfl ?_
        refine go_ior C (z := (b <<< 8) ||| (pc_op w)) dX6_exchanged_51 rfl ?_
        exact go_iret C E dX6_exchanged_52 (by first | contradiction | rfl | (simp [pc_ex, *]; done) | (rw [decide_eq_true (by omega)]; done) | (rw [decide_eq_false (by omega)]; done) | (simp_all [pc_ex]; done) | (simp [pc_ex]; omega) | (simp_all [pc_ex]; omega) | omega) rfl
    · refine go_iload C dX6_exchanged_28 4 rfl ?_
      refine go_iload_n C dX6_exchanged_30 2 rfl rfl ?_
      refine go_icmp_eq C 36 dX6_exchanged_31 (by decide) (fun c_31 => ?_) (fun c_31 => ?_)
      · refine go_iload C dX6_exchanged_36 4 rfl ?_
        refine go_iload_n C dX6_exchanged_38 1 rfl rfl ?_
        refine go_icmp_ne C 46 dX6_exchanged_39 (by decide) (fun c_39 => ?_) (fun c_39 => ?_)
        · refine go_iload_n C dX6_exchanged_46 1 rfl rfl ?_
          refine go_bipush C (8) dX6_exchanged_47 (by decide) ?_
          refine go_ishl C (z := a <<< 8) dX6_exchanged_49 rfl ?_
          refine go_iload_n C dX6_exchanged_50 3 rfl rfl ?_
          refine go_ior C (z := (a <<< 8) ||| (pc_op w)) dX6_exchanged_51 rfl ?_
          exact go_iret C E dX6_exchanged_52 (by first | contradiction | rfl | (simp [pc_ex, *]; done) | (rw [decide_eq_true (by omega)]; done) | (rw [decide_eq_false (by omega)]; done) | (simp_all [pc_ex]; done) | (simp [pc_ex]; omega) | (simp_all [pc_ex]; omega) | omega) rfl
        · refine go_iload_n C dX6_exchanged_42 2 rfl rfl ?_
          refine go_goto C 47 dX6_exchanged_43 (by decide) ?_
          refine go_bipush C (8) dX6_exchanged_47 (by decide) ?_
          refine go_ishl C (z := b <<< 8) dX6_exchanged_49 rfl ?_
          refine go_iload_n C dX6_exchanged_50 3 rfl rfl ?_
          refine go_ior C (z := (b <<< 8) ||| (pc_op w)) dX6_exchanged_51 rfl ?_
          exact go_iret C E dX6_exchanged_52 (by first | contradiction | rfl | (simp [pc_ex, *]; done) | (rw [decide_eq_true (by omega)]; done) | (rw [decide_eq_false (by omega)]; done) | (simp_all [pc_ex]; done) | (simp [pc_ex]; omega) | (simp_all [pc_ex]; omega) | omega) rfl
      · refine go_iload_n C dX6_exchanged_34 0 rfl rfl ?_
        exact go_iret C E dX6_exchanged_35 (by first | contradiction | rfl | (simp [pc_ex, *]; done) | (rw [decide_eq_true (by omega)]; done) | (rw [decide_eq_false (by omega)]; done) | (simp_all [pc_ex]; done) | (simp [pc_ex]; omega) | (simp_all [pc_ex]; omega) | omega) rfl
  · refine go_iload_n C dX6_exchanged_16 3 rfl rfl ?_
    refine go_bipush C (11) dX6_exchanged_17 (by decide) ?_
    refine go_icmp_ne C 34 dX6_exchanged_19 (by decide) (fun c_19 => ?_) (fun c_19 => ?_)
    · refine go_iload_n C dX6_exchanged_34 0 rfl rfl ?_
      exact go_iret C E dX6_exchanged_35 (by first | contradiction | rfl | (simp [pc_ex, *]; done) | (rw [decide_eq_true (by omega)]; done) | (rw [decide_eq_false (by omega)]; done) | (simp_all [pc_ex]; done) | (simp [pc_ex]; omega) | (simp_all [pc_ex]; omega) | omega) rfl
    · refine go_iload C dX6_exchanged_22 4 rfl ?_
      refine go_iload_n C dX6_exchanged_24 1 rfl rfl ?_
      refine go_icmp_eq C 36 dX6_exchanged_25 (by decide) (fun c_25 => ?_) (fun c_25 => ?_)
      · refine go_iload C dX6_exchanged_36 4 rfl ?_
        refine go_iload_n C dX6_exchanged_38 1 rfl rfl ?_
        refine go_icmp_ne C 46 dX6_exchanged_39 (by decide) (fun c_39 => ?_) (fun c_39 => ?_)
        · refine go_iload_n C dX6_exchanged_46 1 rfl rfl ?_
          refine go_bipush C (8) dX6_exchanged_47 (by decide) ?_
          refine go_ishl C (z := a <<< 8) dX6_exchanged_49 rfl ?_
          refine go_iload_n C dX6_exchanged_50 3 rfl rfl ?_
          refine go_ior C (z := (a <<< 8) ||| (pc_op w)) dX6_exchanged_51 rfl ?_
          exact go_iret C E dX6_exchanged_52 (by first | contradiction | rfl | (simp [pc_ex, *]; done) | (rw [decide_eq_true (by omega)]; done) | (rw [decide_eq_false (by omega)]; done) | (simp_all [pc_ex]; done) | (simp [pc_ex]; omega) | (simp_all [pc_ex]; omega) | omega) rfl
        · refine go_iload_n C dX6_exchanged_42 2 rfl rfl ?_
          refine go_goto C 47 dX6_exchanged_43 (by decide) ?_
          refine go_bipush C (8) dX6_exchanged_47 (by decide) ?_
          refine go_ishl C (z := b <<< 8) dX6_exchanged_49 rfl ?_
          refine go_iload_n C dX6_exchanged_50 3 rfl rfl ?_
          refine go_ior C (z := (b <<< 8) ||| (pc_op w)) dX6_exchanged_51 rfl ?_
          exact go_iret C E dX6_exchanged_52 (by first | contradiction | rfl | (simp [pc_ex, *]; done) | (rw [decide_eq_true (by omega)]; done) | (rw [decide_eq_false (by omega)]; done) | (simp_all [pc_ex]; done) | (simp [pc_ex]; omega) | (simp_all [pc_ex]; omega) | omega) rfl
      · refine go_iload C dX6_exchanged_28 4 rfl ?_
        refine go_iload_n C dX6_exchanged_30 2 rfl rfl ?_
        refine go_icmp_eq C 36 dX6_exchanged_31 (by decide) (fun c_31 => ?_) (fun c_31 => ?_)
        · refine go_iload C dX6_exchanged_36 4 rfl ?_
          refine go_iload_n C dX6_exchanged_38 1 rfl rfl ?_
          refine go_icmp_ne C 46 dX6_exchanged_39 (by decide) (fun c_39 => ?_) (fun c_39 => ?_)
          · refine go_iload_n C dX6_exchanged_46 1 rfl rfl ?_
            refine go_bipush C (8) dX6_exchanged_47 (by decide) ?_
            refine go_ishl C (z := a <<< 8) dX6_exchanged_49 rfl ?_
            refine go_iload_n C dX6_exchanged_50 3 rfl rfl ?_
            refine go_ior C (z := (a <<< 8) ||| (pc_op w)) dX6_exchanged_51 rfl ?_
            exact go_iret C E dX6_exchanged_52 (by first | contradiction | rfl | (simp [pc_ex, *]; done) | (rw [decide_eq_true (by omega)]; done) | (rw [decide_eq_false (by omega)]; done) | (simp_all [pc_ex]; done) | (simp [pc_ex]; omega) | (simp_all [pc_ex]; omega) | omega) rfl
          · refine go_iload_n C dX6_exchanged_42 2 rfl rfl ?_
            refine go_goto C 47 dX6_exchanged_43 (by decide) ?_
            refine go_bipush C (8) dX6_exchanged_47 (by decide) ?_
            refine go_ishl C (z := b <<< 8) dX6_exchanged_49 rfl ?_
            refine go_iload_n C dX6_exchanged_50 3 rfl rfl ?_
            refine go_ior C (z := (b <<< 8) ||| (pc_op w)) dX6_exchanged_51 rfl ?_
            exact go_iret C E dX6_exchanged_52 (by first | contradiction | rfl | (simp [pc_ex, *]; done) | (rw [decide_eq_true (by omega)]; done) | (rw [decide_eq_false (by omega)]; done) | (simp_all [pc_ex]; done) | (simp [pc_ex]; omega) | (simp_all [pc_ex]; omega) | omega) rfl
        · refine go_iload_n C dX6_exchanged_34 0 rfl rfl ?_
          exact go_iret C E dX6_exchanged_35 (by first | contradiction | rfl | (simp [pc_ex, *]; done) | (rw [decide_eq_true (by omega)]; done) | (rw [decide_eq_false (by omega)]; done) | (simp_all [pc_ex]; done) | (simp [pc_ex]; omega) | (simp_all [pc_ex]; omega) | omega) rfl
set_option maxHeartbeats 4000000 in
set_option maxRecDepth 100000 in
theorem c_X7_length (G : go_G) (rs : va_W) (p0 : Nat) (a : Nat) (w : Nat) (ln : Nat) (hp0 : rs[p0]? = some (a, .inr (6, [.ref w, .int (nI ln)])))  : go_Fn yX7_length cX7_length 1 (some .int) 0 0 G [.ref a] rs (some (.int (nI ln))) rs := by
  refine go_Fn_of (by decide) (Nat.le_of_ble_eq_true rfl) (fun X C E => ?_)
  show go_Go X (0, 0) rs [(0, .ref a)] [] 0
  refine go_aload_n C dX7_length_0 0 rfl rfl ?_
  refine go_get C (v := .int (nI ln)) fl_X7_15 dX7_length_1 p0 hp0 rfl ?_
  exact go_iret C E dX7_length_4 rfl rfl
set_option maxHeartbeats 4000000 in
set_option maxRecDepth 100000 in
theorem c_X7_isFull (G : go_G) (rs : va_W) (p0 : Nat) (a : Nat) (w : Nat) (ln : Nat) (hp0 : rs[p0]? = some (a, .inr (6, [.ref w, .int (nI ln)]))) (hl : ln ≤ 32) : go_Fn yX7_isFull cX7_isFull 1 (some .boolean) 0 0 G [.ref a] rs (some (.int (go_b (decide (32 ≤ ln))))) rs := by
  refine go_Fn_of (by decide) (Nat.le_of_ble_eq_true rfl) (fun X C E => ?_)
  show go_Go X (0, 0) rs [(0, .ref a)] [] 0
  refine go_aload_n C dX7_isFull_0 0 rfl rfl ?_
  refine go_get C (v := .int (nI ln)) fl_X7_15 dX7_isFull_1 p0 hp0 rfl ?_
  refine go_bipush C (32) dX7_isFull_4 (by decide) ?_
  refine go_icmp_ltN (a := ln) (b := 32) C 13 dX7_isFull_6 (by decide) (by omega) (by omega) (fun c_6 => ?_) (fun c_6 => ?_)
  · refine go_iconst C (0) dX7_isFull_13 (by decide) ?_
    refine go_se [.int (go_b (false))] rfl ?_
    exact go_zret C E dX7_isFull_14 (go_bn _) (by first | contradiction | rfl | (simp [decide_eq_true_eq, *]; done) | (rw [decide_eq_true (by omega)]; done) | (rw [decide_eq_false (by omega)]; done) | (simp_all [decide_eq_true_eq]; done) | (simp [decide_eq_true_eq]; omega) | (simp_all [decide_eq_true_eq]; omega) | omega) rfl
  · refine go_iconst C (1) dX7_isFull_9 (by decide) ?_
    refine go_goto C 14 dX7_isFull_10 (by decide) ?_
    refine go_se [.int (go_b (true))] rfl ?_
    exact go_zret C E dX7_isFull_14 (go_bn _) (by first | contradiction | rfl | (simp [decide_eq_true_eq, *]; done) | (rw [decide_eq_true (by omega)]; done) | (rw [decide_eq_false (by omega)]; done) | (simp_all [decide_eq_true_eq]; done) | (simp [decide_eq_true_eq]; omega) | (simp_all [decide_eq_true_eq]; omega) | omega) rfl
set_option maxHeartbeats 4000000 in
set_option maxRecDepth 100000 in
theorem c_X7_clear (G : go_G) (rs : va_W)  (a : Nat) (w : Nat) (ln : Nat)   : go_Fn yX7_clear cX7_clear 1 none 0 0 G [.ref a] ((a, .inr (6, [.ref w, .int (nI ln)])) :: rs) (none) ((a, .inr (6, [.ref w, .int (nI 0)])) :: rs) := by
  refine go_Fn_of (by decide) (Nat.le_of_ble_eq_true rfl) (fun X C E => ?_)
  show go_Go X (0, 0) ((a, .inr (6, [.ref w, .int (nI ln)])) :: rs) [(0, .ref a)] [] 0
  refine go_aload_n C dX7_clear_0 0 rfl rfl ?_
  refine go_iconst C (0) dX7_clear_1 (by decide) ?_
  refine go_put C fp_X7_15 dX7_clear_2 0 rfl rfl rfl (Nat.le_of_ble_eq_true rfl) ((a, .inr (6, [.ref w, .int 0])) :: rs) rfl ?_
  exact go_vret C E dX7_clear_5 rfl rfl
set_option maxHeartbeats 4000000 in
set_option maxRecDepth 100000 in
theorem c_X7_add (G : go_G) (rs : va_W)  (a : Nat) (w : Nat) (ln : Nat) (f : Nat → Int32) (x : Int32)  (hl : ln < 32) : go_Fn yX7_add cX7_add 2 none 0 0 G [.ref a, .int x] ((a, .inr (6, [.ref w, .int (nI ln)])) :: (w, .inl (G.2.1, 32, .inl f)) :: rs) (none) ((a, .inr (6, [.ref w, .int (nI (ln + 1))])) :: (w, .inl (G.2.1, 32, .inl (upd f ln x))) :: rs) := by
  refine go_Fn_of (by decide) (Nat.le_of_ble_eq_true rfl) (fun X C E => ?_)
  show go_Go X (0, 0) ((a, .inr (6, [.ref w, .int (nI ln)])) :: (w, .inl (G.2.1, 32, .inl f)) :: rs) [(0, .ref a), (1, .int x)] [] 0
  refine go_aload_n C dX7_add_0 0 rfl rfl ?_
  refine go_get C (v := .int (nI ln)) fl_X7_15 dX7_add_1 0 rfl rfl ?_
  refine go_bipush C (32) dX7_add_4 (by decide) ?_
  refine go_icmp_geN (a := ln) (b := 32) C 29 dX7_add_6 (by decide) (by omega) (by omega) (fun c_6 => ?_) (fun c_6 => ?_)
  · omega
  · refine go_aload_n C dX7_add_9 0 rfl rfl ?_
    refine go_get C (v := .ref w) fl_X7_9 dX7_add_10 0 rfl rfl ?_
    refine go_aload_n C dX7_add_13 0 rfl rfl ?_
    refine go_get C (v := .int (nI ln)) fl_X7_15 dX7_add_14 0 rfl rfl ?_
    refine go_iload_n C dX7_add_17 1 rfl rfl ?_
    refine go_iast C dX7_add_18 1 rfl (ln) rfl (by omega) (by decide) ((a, .inr (6, [.ref w, .int (nI ln)])) :: (w, .inl (G.2.1, 32, .inl (upd f ln x))) :: rs) rfl ?_
    refine go_aload_n C dX7_add_19 0 rfl rfl ?_
    refine go_dup C dX7_add_20 rfl ?_
    refine go_get C (v := .int (nI ln)) fl_X7_15 dX7_add_21 0 rfl rfl ?_
    refine go_iconst C (1) dX7_add_24 (by decide) ?_
    refine go_iadd C (z := nI (ln + 1)) dX7_add_25 (nI_add ln 1) ?_
    refine go_put C fp_X7_15 dX7_add_26 0 rfl rfl rfl (Nat.le_of_ble_eq_true rfl) ((a, .inr (6, [.ref w, .int (nI (ln + 1))])) :: (w, .inl (G.2.1, 32, .inl (upd f ln x))) :: rs) rfl ?_
    exact go_vret C E dX7_add_29 rfl rfl
set_option maxHeartbeats 4000000 in
set_option maxRecDepth 100000 in
theorem c_X7_at (G : go_G) (rs : va_W) (p0 : Nat) (p1 : Nat) (a : Nat) (w : Nat) (ln : Nat) (f : Nat → Int32) (j : Nat) (hp0 : rs[p0]? = some (a, .inr (6, [.ref w, .int (nI ln)]))) (hp1 : rs[p1]? = some (w, .inl (G.2.1, 32, .inl f))) (hl : ln ≤ 32) (hj : j < 2 ^ 31) : go_Fn yX7_at cX7_at 2 (some .int) 0 0 G [.ref a, .int (nI j)] rs (some (.int (pc_at ln f j))) rs := by
  refine go_Fn_of (by decide) (Nat.le_of_ble_eq_true rfl) (fun X C E => ?_)
  show go_Go X (0, 0) rs [(0, .ref a), (1, .int (nI j))] [] 0
  refine go_iload_n C dX7_at_0 1 rfl rfl ?_
  refine go_if_ltN C 21 dX7_at_1 (by decide) (by omega) ?_
  refine go_iload_n C dX7_at_4 1 rfl rfl ?_
  refine go_aload_n C dX7_at_5 0 rfl rfl ?_
  refine go_get C (v := .int (nI ln)) fl_X7_15 dX7_at_6 p0 hp0 rfl ?_
  refine go_icmp_geN (a := j) (b := ln) C 21 dX7_at_9 (by decide) (by omega) (by omega) (fun c_9 => ?_) (fun c_9 => ?_)
  · refine go_iconst C (0) dX7_at_21 (by decide) ?_
    exact go_iret C E dX7_at_22 (by first | contradiction | rfl | (simp [pc_at, *]; done) | (rw [decide_eq_true (by omega)]; done) | (rw [decide_eq_false (by omega)]; done) | (simp_all [pc_at]; done) | (simp [pc_at]; omega) | (simp_all [pc_at]; omega) | omega) rfl
  · refine go_aload_n C dX7_at_12 0 rfl rfl ?_
    refine go_get C (v := .ref w) fl_X7_9 dX7_at_13 p0 hp0 rfl ?_
    refine go_iload_n C dX7_at_16 1 rfl rfl ?_
    refine go_iald C dX7_at_17 p1 hp1 (j) rfl (by omega) (by decide) ?_
    refine go_goto C 22 dX7_at_18 (by decide) ?_
    exact go_iret C E dX7_at_22 (by first | contradiction | rfl | (simp [pc_at, *]; done) | (rw [decide_eq_true (by omega)]; done) | (rw [decide_eq_false (by omega)]; done) | (simp_all [pc_at]; done) | (simp [pc_at]; omega) | (simp_all [pc_at]; omega) | omega) rfl
set_option maxHeartbeats 4000000 in
set_option maxRecDepth 100000 in
theorem c_X7_opAt (G : go_G) (rs : va_W) (p0 : Nat) (p1 : Nat) (a : Nat) (w : Nat) (ln : Nat) (f : Nat → Int32) (j : Nat) (hp0 : rs[p0]? = some (a, .inr (6, [.ref w, .int (nI ln)]))) (hp1 : rs[p1]? = some (w, .inl (G.2.1, 32, .inl f))) (hl : ln ≤ 32) (hj : j < 2 ^ 31) : go_Fn yX7_opAt cX7_opAt 2 (some .int) 1 21 G [.ref a, .int (nI j)] rs (some (.int (pc_op (pc_at ln f j)))) rs := by
  refine go_Fn_of (by decide) (Nat.le_of_ble_eq_true rfl) (fun X C E => ?_)
  show go_Go X (0, 0) rs [(0, .ref a), (1, .int (nI j))] [] 0
  refine go_aload_n C dX7_opAt_0 0 rfl rfl ?_
  refine go_iload_n C dX7_opAt_1 1 rfl rfl ?_
  refine go_cV C (c_X7_at G rs p0 p1 a w ln f j hp0 hp1 (by omega) (by omega)) ml_X7_19 mc_X7_at dX7_opAt_2 [] rfl rfl p0 hp0 rfl rfl ⟨Nat.le_of_ble_eq_true rfl, Nat.le_of_ble_eq_true rfl, Nat.zero_le _, Nat.zero_le _, Nat.le_of_ble_eq_true rfl⟩ [.int (pc_at ln f j)] rfl ?_
  refine go_cS C (c_X6_op G rs  (pc_at ln f j)  ) ml_X7_23 mc_X6_op dX7_opAt_5 [] rfl rfl rfl ⟨Nat.le_of_ble_eq_true rfl, Nat.le_of_ble_eq_true rfl, Nat.zero_le _, Nat.zero_le _, Nat.le_of_ble_eq_true rfl⟩ [.int (pc_op (pc_at ln f j))] rfl ?_
  exact go_iret C E dX7_opAt_8 rfl rfl
set_option maxHeartbeats 4000000 in
set_option maxRecDepth 100000 in
theorem l_X7_next_2 {X : go_X} (G : go_G) (rs : va_W) (p0 : Nat) (p1 : Nat) (a : Nat) (w : Nat) (ln : Nat) (f : Nat → Int32) (o : Int32) (j : Nat) (hp0 : rs[p0]? = some (a, .inr (6, [.ref w, .int (nI ln)]))) (hp1 : rs[p1]? = some (w, .inl (G.2.1, 32, .inl f))) (hl : ln ≤ 32) (hj : j ≤ ln) {Rr : Option Value}  (C : go_Cx X cX7_next RX7 (some .int) 4 1 21 0 0 G) (E : go_Ex X Rr rs)  : ∀ (n : Nat) (i : Nat) (hin : ln < i + n) (hi : i ≤ ln) (hR : some (.int (nI (pc_next ln f o n i))) = Rr), go_Go X (0, 0) rs [(0, .ref a), (1, .int o), (2, .int (nI j)), (3, .int (nI i))] [] 2 := by
  intro n
  induction n with
  | zero => intro i hin hi hR; omega
  | succ n ih =>
    intro i hin hi hR
    refine go_iload_n C dX7_next_2 3 rfl rfl ?_
    refine go_aload_n C dX7_next_3 0 rfl rfl ?_
    refine go_get C (v := .int (nI ln)) fl_X7_15 dX7_next_4 p0 hp0 rfl ?_
    refine go_icmp_geN (a := i) (b := ln) C 30 dX7_next_7 (by decide) (by omega) (by omega) (fun c_7 => ?_) (fun c_7 => ?_)
    · refine go_aload_n C dX7_next_30 0 rfl rfl ?_
      refine go_get C (v := .int (nI ln)) fl_X7_15 dX7_next_31 p0 hp0 rfl ?_
      exact go_iret C E dX7_next_34 (by rw [← hR]; first | contradiction | rfl | (simp [pc_next, pc_at, *]; done) | (rw [decide_eq_true (by omega)]; done) | (rw [decide_eq_false (by omega)]; done) | (simp_all [pc_next, pc_at]; done) | (simp [pc_next, pc_at]; omega) | (simp_all [pc_next, pc_at]; omega) | omega) rfl
    · refine go_aload_n C dX7_next_10 0 rfl rfl ?_
      refine go_iload_n C dX7_next_11 3 rfl rfl ?_
      refine go_cV C (c_X7_at G rs p0 p1 a w ln f i hp0 hp1 (by omega) (by omega)) ml_X7_19 mc_X7_at dX7_next_12 [] rfl rfl p0 hp0 rfl rfl ⟨Nat.le_of_ble_eq_true rfl, Nat.le_of_ble_eq_true rfl, Nat.zero_le _, Nat.zero_le _, Nat.le_of_ble_eq_true rfl⟩ [.int (pc_at ln f i)] rfl ?_
      refine go_cS C (c_X6_op G rs  (pc_at ln f i)  ) ml_X7_23 mc_X6_op dX7_next_15 [] rfl rfl rfl ⟨Nat.le_of_ble_eq_true rfl, Nat.le_of_ble_eq_true rfl, Nat.zero_le _, Nat.zero_le _, Nat.le_of_ble_eq_true rfl⟩ [.int (pc_op (pc_at ln f i))] rfl ?_
      refine go_iload_n C dX7_next_18 1 rfl rfl ?_
      refine go_icmp_ne C 24 dX7_next_19 (by decide) (fun c_19 => ?_) (fun c_19 => ?_)
      · refine go_iinc C (nI (i + 1)) [(0, .ref a), (1, .int o), (2, .int (nI j)), (3, .int (nI (i + 1)))] dX7_next_24 3 [1, 2, 3, 0] rfl (nI_add i 1) (by decide) rfl ?_
        refine go_goto C 2 dX7_next_27 (by decide) ?_
        exact ih (i + 1) (by omega) (by omega) (by rw [← hR]; first | contradiction | rfl | (simp [pc_next, pc_at, *]; done) | (rw [decide_eq_true (by omega)]; done) | (rw [decide_eq_false (by omega)]; done) | (simp_all [pc_next, pc_at]; done) | (simp [pc_next, pc_at]; omega) | (simp_all [pc_next, pc_at]; omega) | omega)
      · refine go_iload_n C dX7_next_22 3 rfl rfl ?_
        exact go_iret C E dX7_next_23 (by rw [← hR]; first | contradiction | rfl | (simp [pc_next, pc_at, *]; done) | (rw [decide_eq_true (by omega)]; done) | (rw [decide_eq_false (by omega)]; done) | (simp_all [pc_next, pc_at]; done) | (simp [pc_next, pc_at]; omega) | (simp_all [pc_next, pc_at]; omega) | omega) rfl
set_option maxHeartbeats 4000000 in
set_option maxRecDepth 100000 in
theorem c_X7_next (G : go_G) (rs : va_W) (p0 : Nat) (p1 : Nat) (a : Nat) (w : Nat) (ln : Nat) (f : Nat → Int32) (o : Int32) (j : Nat) (hp0 : rs[p0]? = some (a, .inr (6, [.ref w, .int (nI ln)]))) (hp1 : rs[p1]? = some (w, .inl (G.2.1, 32, .inl f))) (hl : ln ≤ 32) (hj : j ≤ ln) : go_Fn yX7_next cX7_next 4 (some .int) 1 21 G [.ref a, .int o, .int (nI j)] rs (some (.int (nI (pc_next ln f o (ln + 1) j)))) rs := by
  refine go_Fn_of (by decide) (Nat.le_of_ble_eq_true rfl) (fun X C E => ?_)
  show go_Go X (0, 0) rs [(0, .ref a), (1, .int o), (2, .int (nI j))] [] 0
  refine go_iload_n C dX7_next_0 2 rfl rfl ?_
  refine go_istore_n C [(0, .ref a), (1, .int o), (2, .int (nI j)), (3, .int (nI j))] dX7_next_1 [1, 2, 3, 0] rfl (by decide) rfl ?_
  exact l_X7_next_2 G rs p0 p1 a w ln f o j hp0 hp1 hl hj  C E (ln + 1) j (by omega) (by omega) rfl
set_option maxHeartbeats 4000000 in
set_option maxRecDepth 100000 in
theorem l_X7_turnsInto_3 {X : go_X} (G : go_G) (rs : va_W) (p0 : Nat) (p1 : Nat) (p2 : Nat) (p3 : Nat) (a : Nat) (w : Nat) (ln : Nat) (f : Nat → Int32) (b : Nat) (x : Nat) (lm : Nat) (g : Nat → Int32) (fs : Nat) (m : Nat) (gs : Nat) (u : Int32) (v : Int32) (hp0 : rs[p0]? = some (a, .inr (6, [.ref w, .int (nI ln)]))) (hp1 : rs[p1]? = some (w, .inl (G.2.1, 32, .inl f))) (hp2 : rs[p2]? = some (b, .inr (6, [.ref x, .int (nI lm)]))) (hp3 : rs[p3]? = some (x, .inl (G.2.1, 32, .inl g))) (hl : ln ≤ 32) (hm : lm ≤ 32) (hf : fs < 2 ^ 20) (hg : gs < 2 ^ 20) (hk : m < 2 ^ 20) {Rr : Option Value}  (C : go_Cx X cX7_turnsInto RX7 (some .boolean) 8 2 44 0 0 G) (E : go_Ex X Rr rs)  : ∀ (n : Nat) (i : Nat) (hin : m < i + n) (hi : i ≤ m) (hR : some (.int (go_b (pc_ti (pc_at ln f) (pc_at lm g) m fs gs u v n i))) = Rr), go_Go X (0, 0) rs [(0, .ref a), (1, .int (nI fs)), (2, .int (nI m)), (3, .ref b), (4, .int (nI gs)), (5, .int u), (6, .int v), (7, .int (nI i))] [] 3 := by
  intro n
  induction n with
  | zero => intro i hin hi hR; omega
  | succ n ih =>
    intro i hin hi hR
    refine go_iload C dX7_turnsInto_3 7 rfl ?_
    refine go_iload_n C dX7_turnsInto_5 2 rfl rfl ?_
    refine go_icmp_geN (a := i) (b := m) C 44 dX7_turnsInto_6 (by decide) (by omega) (by omega) (fun c_6 => ?_) (fun c_6 => ?_)
    · refine go_iconst C (1) dX7_turnsInto_44 (by decide) ?_
      refine go_se [.int (go_b (true))] rfl ?_
      exact go_zret C E dX7_turnsInto_45 (go_bn _) (by rw [← hR]; first | contradiction | rfl | (simp [pc_ti, *]; done) | (rw [decide_eq_true (by omega)]; done) | (rw [decide_eq_false (by omega)]; done) | (simp_all [pc_ti]; done) | (simp [pc_ti]; omega) | (simp_all [pc_ti]; omega) | omega) rfl
    · refine go_aload_n C dX7_turnsInto_9 0 rfl rfl ?_
      refine go_iload_n C dX7_turnsInto_10 1 rfl rfl ?_
      refine go_iload C dX7_turnsInto_11 7 rfl ?_
      refine go_iadd C (z := nI (fs + i)) dX7_turnsInto_13 (nI_add fs i) ?_
      refine go_cV C (c_X7_at G rs p0 p1 a w ln f (fs + i) hp0 hp1 (by omega) (by omega)) ml_X7_19 mc_X7_at dX7_turnsInto_14 [] rfl rfl p0 hp0 rfl rfl ⟨Nat.le_of_ble_eq_true rfl, Nat.le_of_ble_eq_true rfl, Nat.zero_le _, Nat.zero_le _, Nat.le_of_ble_eq_true rfl⟩ [.int (pc_at ln f (fs + i))] rfl ?_
      refine go_iload C dX7_turnsInto_17 5 rfl ?_
      refine go_iload C dX7_turnsInto_19 6 rfl ?_
      refine go_cS C (c_X6_exchanged G rs  (pc_at ln f (fs + i)) u v  ) ml_X7_28 mc_X6_exchanged dX7_turnsInto_21 [] rfl rfl rfl ⟨Nat.le_of_ble_eq_true rfl, Nat.le_of_ble_eq_true rfl, Nat.zero_le _, Nat.zero_le _, Nat.le_of_ble_eq_true rfl⟩ [.int (pc_ex (pc_at ln f (fs + i)) u v)] rfl ?_
      refine go_aload_n C dX7_turnsInto_24 3 rfl rfl ?_
      refine go_iload C dX7_turnsInto_25 4 rfl ?_
      refine go_iload C dX7_turnsInto_27 7 rfl ?_
      refine go_iadd C (z := nI (gs + i)) dX7_turnsInto_29 (nI_add gs i) ?_
      refine go_cV C (c_X7_at G rs p2 p3 b x lm g (gs + i) hp2 hp3 (by omega) (by omega)) ml_X7_19 mc_X7_at dX7_turnsInto_30 [.int (pc_ex (pc_at ln f (fs + i)) u v)] rfl rfl p2 hp2 rfl rfl ⟨Nat.le_of_ble_eq_true rfl, Nat.le_of_ble_eq_true rfl, Nat.zero_le _, Nat.zero_le _, Nat.le_of_ble_eq_true rfl⟩ [.int (pc_at lm g (gs + i)), .int (pc_ex (pc_at ln f (fs + i)) u v)] rfl ?_
      refine go_icmp_eq C 38 dX7_turnsInto_33 (by decide) (fun c_33 => ?_) (fun c_33 => ?_)
      · refine go_iinc C (nI (i + 1)) [(0, .ref a), (1, .int (nI fs)), (2, .int (nI m)), (3, .ref b), (4, .int (nI gs)), (5, .int u), (6, .int v), (7, .int (nI (i + 1)))] dX7_turnsInto_38 7 [1, 2, 3, 4, 5, 6, 7, 0] rfl (nI_add i 1) (by decide) rfl ?_
        refine go_goto C 3 dX7_turnsInto_41 (by decide) ?_
        exact ih (i + 1) (by omega) (by omega) (by rw [← hR]; first | contradiction | rfl | (simp [pc_ti, *]; done) | (rw [decide_eq_true (by omega)]; done) | (rw [decide_eq_false (by omega)]; done) | (simp_all [pc_ti]; done) | (simp [pc_ti]; omega) | (simp_all [pc_ti]; omega) | omega)
      · refine go_iconst C (0) dX7_turnsInto_36 (by decide) ?_
        refine go_se [.int (go_b (false))] rfl ?_
        exact go_zret C E dX7_turnsInto_37 (go_bn _) (by rw [← hR]; first | contradiction | rfl | (simp [pc_ti, *]; done) | (rw [decide_eq_true (by omega)]; done) | (rw [decide_eq_false (by omega)]; done) | (simp_all [pc_ti]; done) | (simp [pc_ti]; omega) | (simp_all [pc_ti]; omega) | omega) rfl
set_option maxHeartbeats 4000000 in
set_option maxRecDepth 100000 in
theorem c_X7_turnsInto (G : go_G) (rs : va_W) (p0 : Nat) (p1 : Nat) (p2 : Nat) (p3 : Nat) (a : Nat) (w : Nat) (ln : Nat) (f : Nat → Int32) (b : Nat) (x : Nat) (lm : Nat) (g : Nat → Int32) (fs : Nat) (m : Nat) (gs : Nat) (u : Int32) (v : Int32) (hp0 : rs[p0]? = some (a, .inr (6, [.ref w, .int (nI ln)]))) (hp1 : rs[p1]? = some (w, .inl (G.2.1, 32, .inl f))) (hp2 : rs[p2]? = some (b, .inr (6, [.ref x, .int (nI lm)]))) (hp3 : rs[p3]? = some (x, .inl (G.2.1, 32, .inl g))) (hl : ln ≤ 32) (hm : lm ≤ 32) (hf : fs < 2 ^ 20) (hg : gs < 2 ^ 20) (hk : m < 2 ^ 20) : go_Fn yX7_turnsInto cX7_turnsInto 8 (some .boolean) 2 44 G [.ref a, .int (nI fs), .int (nI m), .ref b, .int (nI gs), .int u, .int v] rs (some (.int (go_b (pc_ti (pc_at ln f) (pc_at lm g) m fs gs u v (m + 1) 0)))) rs := by
  refine go_Fn_of (by decide) (Nat.le_of_ble_eq_true rfl) (fun X C E => ?_)
  show go_Go X (0, 0) rs [(0, .ref a), (1, .int (nI fs)), (2, .int (nI m)), (3, .ref b), (4, .int (nI gs)), (5, .int u), (6, .int v)] [] 0
  refine go_iconst C (0) dX7_turnsInto_0 (by decide) ?_
  refine go_istore C [(0, .ref a), (1, .int (nI fs)), (2, .int (nI m)), (3, .ref b), (4, .int (nI gs)), (5, .int u), (6, .int v), (7, .int 0)] dX7_turnsInto_1 [1, 2, 3, 4, 5, 6, 7, 0] (by decide) rfl ?_
  exact l_X7_turnsInto_3 G rs p0 p1 p2 p3 a w ln f b x lm g fs m gs u v hp0 hp1 hp2 hp3 hl hm hf hg hk  C E (m + 1) 0 (by omega) (by omega) rfl
end
section
set_option maxHeartbeats 4000000 in
set_option maxRecDepth 100000 in
theorem c_X6_heightAfter (G : go_G) (rs : va_W)  (h : Nat) (o : Int32) (m : Bool)  (hh : h ≤ 8) : go_Fn yX6_heightAfter cX6_heightAfter 3 (some .int) 0 0 G [.int (nI h), .int o, .int (go_b (m))] rs (some (.int (pc_oi (pc_hA h o m)))) rs := by
  refine go_Fn_of (by decide) (Nat.le_of_ble_eq_true rfl) (fun X C E => ?_)
  show go_Go X (0, 0) rs [(0, .int (nI h)), (1, .int o), (2, .int (go_b (m)))] [] 0
  refine go_iload_n C dX6_heightAfter_0 1 rfl rfl ?_
  refine go_bipush C (10) dX6_heightAfter_1 (by decide) ?_
  refine go_icmp_eq C 22 dX6_heightAfter_3 (by decide) (fun c_3 => ?_) (fun c_3 => ?_)
  · refine go_iconst C ((-1)) dX6_heightAfter_22 (by decide) ?_
    exact go_iret C E dX6_heightAfter_23 (by first | contradiction | rfl | (simp [pc_oi, pc_hA, *]; done) | (rw [decide_eq_true (by omega)]; done) | (rw [decide_eq_false (by omega)]; done) | (simp_all [pc_oi, pc_hA]; done) | (simp [pc_oi, pc_hA]; omega) | (simp_all [pc_oi, pc_hA]; omega) | omega) rfl
  · refine go_iload_n C dX6_heightAfter_6 1 rfl rfl ?_
    refine go_bipush C (12) dX6_heightAfter_7 (by decide) ?_
    refine go_icmp_eq C 22 dX6_heightAfter_9 (by decide) (fun c_9 => ?_) (fun c_9 => ?_)
    · refine go_iconst C ((-1)) dX6_heightAfter_22 (by decide) ?_
      exact go_iret C E dX6_heightAfter_23 (by first | contradiction | rfl | (simp [pc_oi, pc_hA, *]; done) | (rw [decide_eq_true (by omega)]; done) | (rw [decide_eq_false (by omega)]; done) | (simp_all [pc_oi, pc_hA]; done) | (simp [pc_oi, pc_hA]; omega) | (simp_all [pc_oi, pc_hA]; omega) | omega) rfl
    · refine go_iload_n C dX6_heightAfter_12 1 rfl rfl ?_
      refine go_bipush C (11) dX6_heightAfter_13 (by decide) ?_
      refine go_icmp_ne C 24 dX6_heightAfter_15 (by decide) (fun c_15 => ?_) (fun c_15 => ?_)
      · refine go_iload_n C dX6_heightAfter_24 1 rfl rfl ?_
        refine go_if_eq C 33 dX6_heightAfter_25 (by decide) (fun c_25 => ?_) (fun c_25 => ?_)
        · refine go_iload_n C dX6_heightAfter_33 0 rfl rfl ?_
          refine go_bipush C (8) dX6_heightAfter_34 (by decide) ?_
          refine go_icmp_geN (a := h) (b := 8) C 45 dX6_heightAfter_36 (by decide) (by omega) (by omega) (fun c_36 => ?_) (fun c_36 => ?_)
          · refine go_iconst C ((-1)) dX6_heightAfter_45 (by decide) ?_
            exact go_iret C E dX6_heightAfter_46 (by first | contradiction | rfl | (simp [pc_oi, pc_hA, *]; done) | (rw [decide_eq_true (by omega)]; done) | (rw [decide_eq_false (by omega)]; done) | (simp_all [pc_oi, pc_hA]; done) | (simp [pc_oi, pc_hA]; omega) | (simp_all [pc_oi, pc_hA]; omega) | omega) rfl
          · refine go_iload_n C dX6_heightAfter_39 0 rfl rfl ?_
            refine go_iconst C (1) dX6_heightAfter_40 (by decide) ?_
            refine go_iadd C (z := nI (h + 1)) dX6_heightAfter_41 (nI_add h 1) ?_
            refine go_goto C 46 dX6_heightAfter_42 (by decide) ?_
            exact go_iret C E dX6_heightAfter_46 (by first | contradiction | rfl | (simp [pc_oi, pc_hA, *]; done) | (rw [decide_eq_true (by omega)]; done) | (rw [decide_eq_false (by omega)]; done) | (simp_all [pc_oi, pc_hA]; done) | (simp [pc_oi, pc_hA]; omega) | (simp_all [pc_oi, pc_hA]; omega) | omega) rfl
        · refine go_iload_n C dX6_heightAfter_28 1 rfl rfl ?_
          refine go_iconst C (1) dX6_heightAfter_29 (by decide) ?_
          refine go_icmp_ne C 47 dX6_heightAfter_30 (by decide) (fun c_30 => ?_) (fun c_30 => ?_)
          · refine go_iload_n C dX6_heightAfter_47 1 rfl rfl ?_
            refine go_bipush C (9) dX6_heightAfter_48 (by decide) ?_
            refine go_icmp_ne C 64 dX6_heightAfter_50 (by decide) (fun c_50 => ?_) (fun c_50 => ?_)
            · refine go_iload_n C dX6_heightAfter_64 1 rfl rfl ?_
              refine go_bipush C (11) dX6_heightAfter_65 (by decide) ?_
              refine go_icmp_ne C 83 dX6_heightAfter_67 (by decide) (fun c_67 => ?_) (fun c_67 => ?_)
              · refine go_iload_n C dX6_heightAfter_83 0 rfl rfl ?_
                refine go_iconst C (2) dX6_heightAfter_84 (by decide) ?_
                refine go_icmp_ltN (a := h) (b := 2) C 94 dX6_heightAfter_85 (by decide) (by omega) (by omega) (fun c_85 => ?_) (fun c_85 => ?_)
                · refine go_iconst C ((-1)) dX6_heightAfter_94 (by decide) ?_
                  exact go_iret C E dX6_heightAfter_95 (by first | contradiction | rfl | (simp [pc_oi, pc_hA, *]; done) | (rw [decide_eq_true (by omega)]; done) | (rw [decide_eq_false (by omega)]; done) | (simp_all [pc_oi, pc_hA]; done) | (simp [pc_oi, pc_hA]; omega) | (simp_all [pc_oi, pc_hA]; omega) | omega) rfl
                · refine go_iload_n C dX6_heightAfter_88 0 rfl rfl ?_
                  refine go_iconst C (1) dX6_heightAfter_89 (by decide) ?_
                  refine go_isub C (z := nI (h - 1)) dX6_heightAfter_90 (pk_sub (a := h) (b := 1) (by omega)) ?_
                  refine go_goto C 95 dX6_heightAfter_91 (by decide) ?_
                  exact go_iret C E dX6_heightAfter_95 (by first | contradiction | rfl | (simp [pc_oi, pc_hA, *]; done) | (rw [decide_eq_true (by omega)]; done) | (rw [decide_eq_false (by omega)]; done) | (simp_all [pc_oi, pc_hA]; done) | (simp [pc_oi, pc_hA]; omega) | (simp_all [pc_oi, pc_hA]; omega) | omega) rfl
              · refine go_iload_n C dX6_heightAfter_70 0 rfl rfl ?_
                refine go_iconst C (1) dX6_heightAfter_71 (by decide) ?_
                refine go_icmp_ltN (a := h) (b := 1) C 81 dX6_heightAfter_72 (by decide) (by omega) (by omega) (fun c_72 => ?_) (fun c_72 => ?_)
                · refine go_iconst C ((-1)) dX6_heightAfter_81 (by decide) ?_
                  exact go_iret C E dX6_heightAfter_82 (by first | contradiction | rfl | (simp [pc_oi, pc_hA, *]; done) | (rw [decide_eq_true (by omega)]; done) | (rw [decide_eq_false (by omega)]; done) | (simp_all [pc_oi, pc_hA]; done) | (simp [pc_oi, pc_hA]; omega) | (simp_all [pc_oi, pc_hA]; omega) | omega) rfl
                · refine go_iload_n C dX6_heightAfter_75 0 rfl rfl ?_
                  refine go_iconst C (1) dX6_heightAfter_76 (by decide) ?_
                  refine go_isub C (z := nI (h - 1)) dX6_heightAfter_77 (pk_sub (a := h) (b := 1) (by omega)) ?_
                  refine go_goto C 82 dX6_heightAfter_78 (by decide) ?_
                  exact go_iret C E dX6_heightAfter_82 (by first | contradiction | rfl | (simp [pc_oi, pc_hA, *]; done) | (rw [decide_eq_true (by omega)]; done) | (rw [decide_eq_false (by omega)]; done) | (simp_all [pc_oi, pc_hA]; done) | (simp [pc_oi, pc_hA]; omega) | (simp_all [pc_oi, pc_hA]; omega) | omega) rfl
            · refine go_iload_n C dX6_heightAfter_53 0 rfl rfl ?_
              refine go_iconst C (1) dX6_heightAfter_54 (by decide) ?_
              refine go_icmp_ltN (a := h) (b := 1) C 62 dX6_heightAfter_55 (by decide) (by omega) (by omega) (fun c_55 => ?_) (fun c_55 => ?_)
              · refine go_iconst C ((-1)) dX6_heightAfter_62 (by decide) ?_
                exact go_iret C E dX6_heightAfter_63 (by first | contradiction | rfl | (simp [pc_oi, pc_hA, *]; done) | (rw [decide_eq_true (by omega)]; done) | (rw [decide_eq_false (by omega)]; done) | (simp_all [pc_oi, pc_hA]; done) | (simp [pc_oi, pc_hA]; omega) | (simp_all [pc_oi, pc_hA]; omega) | omega) rfl
              · refine go_iload_n C dX6_heightAfter_58 0 rfl rfl ?_
                refine go_goto C 63 dX6_heightAfter_59 (by decide) ?_
                exact go_iret C E dX6_heightAfter_63 (by first | contradiction | rfl | (simp [pc_oi, pc_hA, *]; done) | (rw [decide_eq_true (by omega)]; done) | (rw [decide_eq_false (by omega)]; done) | (simp_all [pc_oi, pc_hA]; done) | (simp [pc_oi, pc_hA]; omega) | (simp_all [pc_oi, pc_hA]; omega) | omega) rfl
          · refine go_iload_n C dX6_heightAfter_33 0 rfl rfl ?_
            refine go_bipush C (8) dX6_heightAfter_34 (by decide) ?_
            refine go_icmp_geN (a := h) (b := 8) C 45 dX6_heightAfter_36 (by decide) (by omega) (by omega) (fun c_36 => ?_) (fun c_36 => ?_)
            · refine go_iconst C ((-1)) dX6_heightAfter_45 (by decide) ?_
              exact go_iret C E dX6_heightAfter_46 (by first | contradiction | rfl | (simp [pc_oi, pc_hA, *]; done) | (rw [decide_eq_true (by omega)]; done) | (rw [decide_eq_false (by omega)]; done) | (simp_all [pc_oi, pc_hA]; done) | (simp [pc_oi, pc_hA]; omega) | (simp_all [pc_oi, pc_hA]; omega) | omega) rfl
            · refine go_iload_n C dX6_heightAfter_39 0 rfl rfl ?_
              refine go_iconst C (1) dX6_heightAfter_40 (by decide) ?_
              refine go_iadd C (z := nI (h + 1)) dX6_heightAfter_41 (nI_add h 1) ?_
              refine go_goto C 46 dX6_heightAfter_42 (by decide) ?_
              exact go_iret C E dX6_heightAfter_46 (by first | contradiction | rfl | (simp [pc_oi, pc_hA, *]; done) | (rw [decide_eq_true (by omega)]; done) | (rw [decide_eq_false (by omega)]; done) | (simp_all [pc_oi, pc_hA]; done) | (simp [pc_oi, pc_hA]; omega) | (simp_all [pc_oi, pc_hA]; omega) | omega) rfl
      · refine go_iload_n C dX6_heightAfter_18 2 rfl rfl ?_
        refine go_if_neB C 24 dX6_heightAfter_19 (by decide) (fun c_19 => ?_) (fun c_19 => ?_)
        · refine go_iload_n C dX6_heightAfter_24 1 rfl rfl ?_
          refine go_if_eq C 33 dX6_heightAfter_25 (by decide) (fun c_25 => ?_) (fun c_25 => ?_)
          · refine go_iload_n C dX6_heightAfter_33 0 rfl rfl ?_
            refine go_bipush C (8) dX6_heightAfter_34 (by decide) ?_
            refine go_icmp_geN (a := h) (b := 8) C 45 dX6_heightAfter_36 (by decide) (by omega) (by omega) (fun c_36 => ?_) (fun c_36 => ?_)
            · refine go_iconst C ((-1)) dX6_heightAfter_45 (by decide) ?_
              exact go_iret C E dX6_heightAfter_46 (by first | contradiction | rfl | (simp [pc_oi, pc_hA, *]; done) | (rw [decide_eq_true (by omega)]; done) | (rw [decide_eq_false (by omega)]; done) | (simp_all [pc_oi, pc_hA]; done) | (simp [pc_oi, pc_hA]; omega) | (simp_all [pc_oi, pc_hA]; omega) | omega) rfl
            · refine go_iload_n C dX6_heightAfter_39 0 rfl rfl ?_
              refine go_iconst C (1) dX6_heightAfter_40 (by decide) ?_
              refine go_iadd C (z := nI (h + 1)) dX6_heightAfter_41 (nI_add h 1) ?_
              refine go_goto C 46 dX6_heightAfter_42 (by decide) ?_
              exact go_iret C E dX6_heightAfter_46 (by first | contradiction | rfl | (simp [pc_oi, pc_hA, *]; done) | (rw [decide_eq_true (by omega)]; done) | (rw [decide_eq_false (by omega)]; done) | (simp_all [pc_oi, pc_hA]; done) | (simp [pc_oi, pc_hA]; omega) | (simp_all [pc_oi, pc_hA]; omega) | omega) rfl
          · refine go_iload_n C dX6_heightAfter_28 1 rfl rfl ?_
            refine go_iconst C (1) dX6_heightAfter_29 (by decide) ?_
            refine go_icmp_ne C 47 dX6_heightAfter_30 (by decide) (fun c_30 => ?_) (fun c_30 => ?_)
            · refine go_iload_n C dX6_heightAfter_47 1 rfl rfl ?_
              refine go_bipush C (9) dX6_heightAfter_48 (by decide) ?_
              refine go_icmp_ne C 64 dX6_heightAfter_50 (by decide) (fun c_50 => ?_) (fun c_50 => ?_)
              · refine go_iload_n C dX6_heightAfter_64 1 rfl rfl ?_
                refine go_bipush C (11) dX6_heightAfter_65 (by decide) ?_
                refine go_icmp_ne C 83 dX6_heightAfter_67 (by decide) (fun c_67 => ?_) (fun c_67 => ?_)
                · refine go_iload_n C dX6_heightAfter_83 0 rfl rfl ?_
                  refine go_iconst C (2) dX6_heightAfter_84 (by decide) ?_
                  refine go_icmp_ltN (a := h) (b := 2) C 94 dX6_heightAfter_85 (by decide) (by omega) (by omega) (fun c_85 => ?_) (fun c_85 => ?_)
                  · refine go_iconst C ((-1)) dX6_heightAfter_94 (by decide) ?_
                    exact go_iret C E dX6_heightAfter_95 (by first | contradiction | rfl | (simp [pc_oi, pc_hA, *]; done) | (rw [decide_eq_true (by omega)]; done) | (rw [decide_eq_false (by omega)]; done) | (simp_all [pc_oi, pc_hA]; done) | (simp [pc_oi, pc_hA]; omega) | (simp_all [pc_oi, pc_hA]; omega) | omega) rfl
                  · refine go_iload_n C dX6_heightAfter_88 0 rfl rfl ?_
                    refine go_iconst C (1) dX6_heightAfter_89 (by decide) ?_
                    refine go_isub C (z := nI (h - 1)) dX6_heightAfter_90 (pk_sub (a := h) (b := 1) (by omega)) ?_
                    refine go_goto C 95 dX6_heightAfter_91 (by decide) ?_
                    exact go_iret C E dX6_heightAfter_95 (by first | contradiction | rfl | (simp [pc_oi, pc_hA, *]; done) | (rw [decide_eq_true (by omega)]; done) | (rw [decide_eq_false (by omega)]; done) | (simp_all [pc_oi, pc_hA]; done) | (simp [pc_oi, pc_hA]; omega) | (simp_all [pc_oi, pc_hA]; omega) | omega) rfl
                · refine go_iload_n C dX6_heightAfter_70 0 rfl rfl ?_
                  refine go_iconst C (1) dX6_heightAfter_71 (by decide) ?_
                  refine go_icmp_ltN (a := h) (b := 1) C 81 dX6_heightAfter_72 (by decide) (by omega) (by omega) (fun c_72 => ?_) (fun c_72 => ?_)
                  · refine go_iconst C ((-1)) dX6_heightAfter_81 (by decide) ?_
                    exact go_iret C E dX6_heightAfter_82 (by first | contradiction | rfl | (simp [pc_oi, pc_hA, *]; done) | (rw [decide_eq_true (by omega)]; done) | (rw [decide_eq_false (by omega)]; done) | (simp_all [pc_oi, pc_hA]; done) | (simp [pc_oi, pc_hA]; omega) | (simp_all [pc_oi, pc_hA]; omega) | omega) rfl
                  · refine go_iload_n C dX6_heightAfter_75 0 rfl rfl ?_
                    refine go_iconst C (1) dX6_heightAfter_76 (by decide) ?_
                    refine go_isub C (z := nI (h - 1)) dX6_heightAfter_77 (pk_sub (a := h) (b := 1) (by omega)) ?_
                    refine go_goto C 82 dX6_heightAfter_78 (by decide) ?_
                    exact go_iret C E dX6_heightAfter_82 (by first | contradiction | rfl | (simp [pc_oi, pc_hA, *]; done) | (rw [decide_eq_true (by omega)]; done) | (rw [decide_eq_false (by omega)]; done) | (simp_all [pc_oi, pc_hA]; done) | (simp [pc_oi, pc_hA]; omega) | (simp_all [pc_oi, pc_hA]; omega) | omega) rfl
              · refine go_iload_n C dX6_heightAfter_53 0 rfl rfl ?_
                refine go_iconst C (1) dX6_heightAfter_54 (by decide) ?_
                refine go_icmp_ltN (a := h) (b := 1) C 62 dX6_heightAfter_55 (by decide) (by omega) (by omega) (fun c_55 => ?_) (fun c_55 => ?_)
                · refine go_iconst C ((-1)) dX6_heightAfter_62 (by decide) ?_
                  exact go_iret C E dX6_heightAfter_63 (by first | contradiction | rfl | (simp [pc_oi, pc_hA, *]; done) | (rw [decide_eq_true (by omega)]; done) | (rw [decide_eq_false (by omega)]; done) | (simp_all [pc_oi, pc_hA]; done) | (simp [pc_oi, pc_hA]; omega) | (simp_all [pc_oi, pc_hA]; omega) | omega) rfl
                · refine go_iload_n C dX6_heightAfter_58 0 rfl rfl ?_
                  refine go_goto C 63 dX6_heightAfter_59 (by decide) ?_
                  exact go_iret C E dX6_heightAfter_63 (by first | contradiction | rfl | (simp [pc_oi, pc_hA, *]; done) | (rw [decide_eq_true (by omega)]; done) | (rw [decide_eq_false (by omega)]; done) | (simp_all [pc_oi, pc_hA]; done) | (simp [pc_oi, pc_hA]; omega) | (simp_all [pc_oi, pc_hA]; omega) | omega) rfl
            · refine go_iload_n C dX6_heightAfter_33 0 rfl rfl ?_
              refine go_bipush C (8) dX6_heightAfter_34 (by decide) ?_
              refine go_icmp_geN (a := h) (b := 8) C 45 dX6_heightAfter_36 (by decide) (by omega) (by omega) (fun c_36 => ?_) (fun c_36 => ?_)
              · refine go_iconst C ((-1)) dX6_heightAfter_45 (by decide) ?_
                exact go_iret C E dX6_heightAfter_46 (by first | contradiction | rfl | (simp [pc_oi, pc_hA, *]; done) | (rw [decide_eq_true (by omega)]; done) | (rw [decide_eq_false (by omega)]; done) | (simp_all [pc_oi, pc_hA]; done) | (simp [pc_oi, pc_hA]; omega) | (simp_all [pc_oi, pc_hA]; omega) | omega) rfl
              · refine go_iload_n C dX6_heightAfter_39 0 rfl rfl ?_
                refine go_iconst C (1) dX6_heightAfter_40 (by decide) ?_
                refine go_iadd C (z := nI (h + 1)) dX6_heightAfter_41 (nI_add h 1) ?_
                refine go_goto C 46 dX6_heightAfter_42 (by decide) ?_
                exact go_iret C E dX6_heightAfter_46 (by first | contradiction | rfl | (simp [pc_oi, pc_hA, *]; done) | (rw [decide_eq_true (by omega)]; done) | (rw [decide_eq_false (by omega)]; done) | (simp_all [pc_oi, pc_hA]; done) | (simp [pc_oi, pc_hA]; omega) | (simp_all [pc_oi, pc_hA]; omega) | omega) rfl
        · refine go_iconst C ((-1)) dX6_heightAfter_22 (by decide) ?_
          exact go_iret C E dX6_heightAfter_23 (by first | contradiction | rfl | (simp [pc_oi, pc_hA, *]; done) | (rw [decide_eq_true (by omega)]; done) | (rw [decide_eq_false (by omega)]; done) | (simp_all [pc_oi, pc_hA]; done) | (simp [pc_oi, pc_hA]; omega) | (simp_all [pc_oi, pc_hA]; omega) | omega) rfl
set_option maxHeartbeats 4000000 in
set_option maxRecDepth 100000 in
theorem l_X3_isRight_6 {X : go_X} (G : go_G) (rs : va_W) (p0 : Nat) (p1 : Nat) (a : Nat) (w : Nat) (ln : Nat) (f : Nat → Int32) (hp0 : rs[p0]? = some (a, .inr (6, [.ref w, .int (nI ln)]))) (hp1 : rs[p1]? = some (w, .inl (G.2.1, 32, .inl f))) (hl : ln ≤ 32) {Rr : Option Value}  (C : go_Cx X cX3_isRight RX3 (some .boolean) 4 2 42 0 0 G) (E : go_Ex X Rr rs)  : ∀ (n : Nat) (i : Nat) (bt : Bool) (h : Nat) (hin : ln < i + n) (hi : i ≤ ln) (hh : h ≤ 8) (hR : some (.int (go_b (pc_rR ln f n i bt h))) = Rr), go_Go X (0, 0) rs [(0, .ref a), (1, .int (go_b (bt))), (2, .int (nI h)), (3, .int (nI i))] [] 6 := by
  intro n
  induction n with
  | zero => intro i bt h hin hi hh hR; omega
  | succ n ih =>
    intro i bt h hin hi hh hR
    refine go_iload_n C dX3_isRight_6 3 rfl rfl ?_
    refine go_aload_n C dX3_isRight_7 0 rfl rfl ?_
    refine go_cV C (c_X7_length G rs p0 a w ln hp0 ) ml_X3_37 mc_X7_length dX3_isRight_8 [.int (nI i)] rfl rfl p0 hp0 rfl rfl ⟨Nat.le_of_ble_eq_true rfl, Nat.le_of_ble_eq_true rfl, Nat.zero_le _, Nat.zero_le _, Nat.le_of_ble_eq_true rfl⟩ [.int (nI ln), .int (nI i)] rfl ?_
    refine go_icmp_geN (a := i) (b := ln) C 66 dX3_isRight_11 (by decide) (by omega) (by omega) (fun c_11 => ?_) (fun c_11 => ?_)
    · refine go_iload_n C dX3_isRight_66 1 rfl rfl ?_
      refine go_if_eqB C 78 dX3_isRight_67 (by decide) (fun c_67 => ?_) (fun c_67 => ?_)
      · refine go_iconst C (0) dX3_isRight_78 (by decide) ?_
        refine go_se [.int (go_b (false))] rfl ?_
        exact go_zret C E dX3_isRight_79 (go_bn _) (by rw [← hR]; first | contradiction | rfl | (simp [pc_rR, pc_oi_m1 hh, *]; done) | (rw [decide_eq_true (by omega)]; done) | (rw [decide_eq_false (by omega)]; done) | (simp_all [pc_rR, pc_oi_m1 hh]; done) | (simp [pc_rR, pc_oi_m1 hh]; omega) | (simp_all [pc_rR, pc_oi_m1 hh]; omega) | omega) rfl
      · refine go_iload_n C dX3_isRight_70 2 rfl rfl ?_
        refine go_if_neN C 78 dX3_isRight_71 (by decide) (by omega) (fun c_71 => ?_) (fun c_71 => ?_)
        · refine go_iconst C (0) dX3_isRight_78 (by decide) ?_
          refine go_se [.int (go_b (false))] rfl ?_
          exact go_zret C E dX3_isRight_79 (go_bn _) (by rw [← hR]; first | contradiction | rfl | (simp [pc_rR, pc_oi_m1 hh, *]; done) | (rw [decide_eq_true (by omega)]; done) | (rw [decide_eq_false (by omega)]; done) | (simp_all [pc_rR, pc_oi_m1 hh]; done) | (simp [pc_rR, pc_oi_m1 hh]; omega) | (simp_all [pc_rR, pc_oi_m1 hh]; omega) | omega) rfl
        · refine go_iconst C (1) dX3_isRight_74 (by decide) ?_
          refine go_goto C 79 dX3_isRight_75 (by decide) ?_
          refine go_se [.int (go_b (true))] rfl ?_
          exact go_zret C E dX3_isRight_79 (go_bn _) (by rw [← hR]; first | contradiction | rfl | (simp [pc_rR, pc_oi_m1 hh, *]; done) | (rw [decide_eq_true (by omega)]; done) | (rw [decide_eq_false (by omega)]; done) | (simp_all [pc_rR, pc_oi_m1 hh]; done) | (simp [pc_rR, pc_oi_m1 hh]; omega) | (simp_all [pc_rR, pc_oi_m1 hh]; omega) | omega) rfl
    · refine go_aload_n C dX3_isRight_14 0 rfl rfl ?_
      refine go_iload_n C dX3_isRight_15 3 rfl rfl ?_
      refine go_cV C (c_X7_opAt G rs p0 p1 a w ln f i hp0 hp1 (by omega) (by omega)) ml_X3_41 mc_X7_opAt dX3_isRight_16 [] rfl rfl p0 hp0 rfl rfl ⟨Nat.le_of_ble_eq_true rfl, Nat.le_of_ble_eq_true rfl, Nat.zero_le _, Nat.zero_le _, Nat.le_of_ble_eq_true rfl⟩ [.int (pc_op (f i))] (by simp [pc_at, *]) ?_
      refine go_bipush C (10) dX3_isRight_19 (by decide) ?_
      refine go_icmp_ne C 42 dX3_isRight_21 (by decide) (fun c_21 => ?_) (fun c_21 => ?_)
      · refine go_iload_n C dX3_isRight_42 2 rfl rfl ?_
        refine go_aload_n C dX3_isRight_43 0 rfl rfl ?_
        refine go_iload_n C dX3_isRight_44 3 rfl rfl ?_
        refine go_cV C (c_X7_opAt G rs p0 p1 a w ln f i hp0 hp1 (by omega) (by omega)) ml_X3_41 mc_X7_opAt dX3_isRight_45 [.int (nI h)] rfl rfl p0 hp0 rfl rfl ⟨Nat.le_of_ble_eq_true rfl, Nat.le_of_ble_eq_true rfl, Nat.zero_le _, Nat.zero_le _, Nat.le_of_ble_eq_true rfl⟩ [.int (pc_op (f i)), .int (nI h)] (by simp [pc_at, *]) ?_
        refine go_iload_n C dX3_isRight_48 1 rfl rfl ?_
        refine go_cS C (c_X6_heightAfter G rs  h (pc_op (f i)) bt  (by omega)) ml_X3_45 mc_X6_heightAfter dX3_isRight_49 [] rfl rfl rfl ⟨Nat.le_of_ble_eq_true rfl, Nat.le_of_ble_eq_true rfl, Nat.zero_le _, Nat.zero_le _, Nat.le_of_ble_eq_true rfl⟩ [.int (pc_oi (pc_hA h (pc_op (f i)) bt))] rfl ?_
        refine go_istore_n C [(0, .ref a), (1, .int (go_b (bt))), (2, .int (pc_oi (pc_hA h (pc_op (f i)) bt))), (3, .int (nI i))] dX3_isRight_52 [1, 2, 0, 3] rfl (by decide) rfl ?_
        refine go_iload_n C dX3_isRight_53 2 rfl rfl ?_
        refine go_iconst C ((-1)) dX3_isRight_54 (by decide) ?_
        refine go_icmp_ne C 60 dX3_isRight_55 (by decide) (fun c_55 => ?_) (fun c_55 => ?_)
        · obtain ⟨h_1, hh_1, hb_1⟩ := pc_oi_ne (by omega) c_55
          refine go_le [(0, .ref a), (1, .int (go_b (bt))), (2, .int (nI h_1)), (3, .int (nI i))] (by rw [hh_1]; rfl) ?_
          refine go_iinc C (nI (i + 1)) [(0, .ref a), (1, .int (go_b (bt))), (2, .int (nI h_1)), (3, .int (nI (i + 1)))] dX3_isRight_60 3 [1, 2, 3, 0] rfl (nI_add i 1) (by decide) rfl ?_
          refine go_goto C 6 dX3_isRight_63 (by decide) ?_
          exact ih (i + 1) bt h_1 (by omega) (by omega) (by omega) (by rw [← hR]; first | contradiction | rfl | (simp [pc_rR, *]; done) | (rw [decide_eq_true (by omega)]; done) | (rw [decide_eq_false (by omega)]; done) | (simp_all [pc_rR]; done) | (simp [pc_rR]; omega) | (simp_all [pc_rR]; omega) | omega)
        · refine go_iconst C (0) dX3_isRight_58 (by decide) ?_
          refine go_se [.int (go_b (false))] rfl ?_
          exact go_zret C E dX3_isRight_59 (go_bn _) (by rw [← hR]; first | contradiction | rfl | (simp [pc_rR, pc_oi_m1 hh, *]; done) | (rw [decide_eq_true (by omega)]; done) | (rw [decide_eq_false (by omega)]; done) | (simp_all [pc_rR, pc_oi_m1 hh]; done) | (simp [pc_rR, pc_oi_m1 hh]; omega) | (simp_all [pc_rR, pc_oi_m1 hh]; omega) | omega) rfl
      · refine go_iload_n C dX3_isRight_24 1 rfl rfl ?_
        refine go_if_neB C 42 dX3_isRight_25 (by decide) (fun c_25 => ?_) (fun c_25 => ?_)
        · refine go_iload_n C dX3_isRight_42 2 rfl rfl ?_
          refine go_aload_n C dX3_isRight_43 0 rfl rfl ?_
          refine go_iload_n C dX3_isRight_44 3 rfl rfl ?_
          refine go_cV C (c_X7_opAt G rs p0 p1 a w ln f i hp0 hp1 (by omega) (by omega)) ml_X3_41 mc_X7_opAt dX3_isRight_45 [.int (nI h)] rfl rfl p0 hp0 rfl rfl ⟨Nat.le_of_ble_eq_true rfl, Nat.le_of_ble_eq_true rfl, Nat.zero_le _, Nat.zero_le _, Nat.le_of_ble_eq_true rfl⟩ [.int (pc_op (f i)), .int (nI h)] (by simp [pc_at, *]) ?_
          refine go_iload_n C dX3_isRight_48 1 rfl rfl ?_
          refine go_cS C (c_X6_heightAfter G rs  h (pc_op (f i)) bt  (by omega)) ml_X3_45 mc_X6_heightAfter dX3_isRight_49 [] rfl rfl rfl ⟨Nat.le_of_ble_eq_true rfl, Nat.le_of_ble_eq_true rfl, Nat.zero_le _, Nat.zero_le _, Nat.le_of_ble_eq_true rfl⟩ [.int (pc_oi (pc_hA h (pc_op (f i)) bt))] rfl ?_
          refine go_istore_n C [(0, .ref a), (1, .int (go_b (bt))), (2, .int (pc_oi (pc_hA h (pc_op (f i)) bt))), (3, .int (nI i))] dX3_isRight_52 [1, 2, 0, 3] rfl (by decide) rfl ?_
          refine go_iload_n C dX3_isRight_53 2 rfl rfl ?_
          refine go_iconst C ((-1)) dX3_isRight_54 (by decide) ?_
          refine go_icmp_ne C 60 dX3_isRight_55 (by decide) (fun c_55 => ?_) (fun c_55 => ?_)
          · obtain ⟨h_2, hh_2, hb_2⟩ := pc_oi_ne (by omega) c_55
            refine go_le [(0, .ref a), (1, .int (go_b (bt))), (2, .int (nI h_2)), (3, .int (nI i))] (by rw [hh_2]; rfl) ?_
            refine go_iinc C (nI (i + 1)) [(0, .ref a), (1, .int (go_b (bt))), (2, .int (nI h_2)), (3, .int (nI (i + 1)))] dX3_isRight_60 3 [1, 2, 3, 0] rfl (nI_add i 1) (by decide) rfl ?_
            refine go_goto C 6 dX3_isRight_63 (by decide) ?_
            exact ih (i + 1) bt h_2 (by omega) (by omega) (by omega) (by rw [← hR]; first | contradiction | rfl | (simp [pc_rR, *]; done) | (rw [decide_eq_true (by omega)]; done) | (rw [decide_eq_false (by omega)]; done) | (simp_all [pc_rR]; done) | (simp [pc_rR]; omega) | (simp_all [pc_rR]; omega) | omega)
          · refine go_iconst C (0) dX3_isRight_58 (by decide) ?_
            refine go_se [.int (go_b (false))] rfl ?_
            exact go_zret C E dX3_isRight_59 (go_bn _) (by rw [← hR]; first | contradiction | rfl | (simp [pc_rR, pc_oi_m1 hh, *]; done) | (rw [decide_eq_true (by omega)]; done) | (rw [decide_eq_false (by omega)]; done) | (simp_all [pc_rR, pc_oi_m1 hh]; done) | (simp [pc_rR, pc_oi_m1 hh]; omega) | (simp_all [pc_rR, pc_oi_m1 hh]; omega) | omega) rfl
        · refine go_iload_n C dX3_isRight_28 2 rfl rfl ?_
          refine go_iconst C (1) dX3_isRight_29 (by decide) ?_
          refine go_icmp_eqN (a := h) (b := 1) C 35 dX3_isRight_30 (by decide) (by omega) (by omega) (fun c_30 => ?_) (fun c_30 => ?_)
          · refine go_iconst C (1) dX3_isRight_35 (by decide) ?_
            refine go_istore_n C [(0, .ref a), (1, .int 1), (2, .int (nI h)), (3, .int (nI i))] dX3_isRight_36 [1, 0, 2, 3] rfl (by decide) rfl ?_
            refine go_iconst C (0) dX3_isRight_37 (by decide) ?_
            refine go_istore_n C [(0, .ref a), (1, .int 1), (2, .int 0), (3, .int (nI i))] dX3_isRight_38 [1, 2, 0, 3] rfl (by decide) rfl ?_
            refine go_goto C 53 dX3_isRight_39 (by decide) ?_
            refine go_iload_n C dX3_isRight_53 2 rfl rfl ?_
            refine go_iconst C ((-1)) dX3_isRight_54 (by decide) ?_
            refine go_icmp_ne C 60 dX3_isRight_55 (by decide) (fun c_55 => ?_) (fun c_55 => ?_)
            · refine go_iinc C (nI (i + 1)) [(0, .ref a), (1, .int 1), (2, .int 0), (3, .int (nI (i + 1)))] dX3_isRight_60 3 [1, 2, 3, 0] rfl (nI_add i 1) (by decide) rfl ?_
              refine go_goto C 6 dX3_isRight_63 (by decide) ?_
              exact ih (i + 1) true 0 (by omega) (by omega) (by omega) (by rw [← hR]; first | contradiction | rfl | (simp [pc_rR, *]; done) | (rw [decide_eq_true (by omega)]; done) | (rw [decide_eq_false (by omega)]; done) | (simp_all [pc_rR]; done) | (simp [pc_rR]; omega) | (simp_all [pc_rR]; omega) | omega)
            · exact absurd c_55 (by decide)
          · refine go_iconst C (0) dX3_isRight_33 (by decide) ?_
            refine go_se [.int (go_b (false))] rfl ?_
            exact go_zret C E dX3_isRight_34 (go_bn _) (by rw [← hR]; first | contradiction | rfl | (simp [pc_rR, pc_oi_m1 hh, *]; done) | (rw [decide_eq_true (by omega)]; done) | (rw [decide_eq_false (by omega)]; done) | (simp_all [pc_rR, pc_oi_m1 hh]; done) | (simp [pc_rR, pc_oi_m1 hh]; omega) | (simp_all [pc_rR, pc_oi_m1 hh]; omega) | omega) rfl
set_option maxHeartbeats 4000000 in
set_option maxRecDepth 100000 in
theorem c_X3_isRight (G : go_G) (rs : va_W) (p0 : Nat) (p1 : Nat) (a : Nat) (w : Nat) (ln : Nat) (f : Nat → Int32) (hp0 : rs[p0]? = some (a, .inr (6, [.ref w, .int (nI ln)]))) (hp1 : rs[p1]? = some (w, .inl (G.2.1, 32, .inl f))) (hl : ln ≤ 32) : go_Fn yX3_isRight cX3_isRight 4 (some .boolean) 2 42 G [.ref a] rs (some (.int (go_b (pc_rR ln f (ln + 1) 0 false 0)))) rs := by
  refine go_Fn_of (by decide) (Nat.le_of_ble_eq_true rfl) (fun X C E => ?_)
  show go_Go X (0, 0) rs [(0, .ref a)] [] 0
  refine go_iconst C (0) dX3_isRight_0 (by decide) ?_
  refine go_istore_n C [(0, .ref a), (1, .int 0)] dX3_isRight_1 [1, 0] rfl (by decide) rfl ?_
  refine go_iconst C (0) dX3_isRight_2 (by decide) ?_
  refine go_istore_n C [(0, .ref a), (1, .int 0), (2, .int 0)] dX3_isRight_3 [1, 2, 0] rfl (by decide) rfl ?_
  refine go_iconst C (0) dX3_isRight_4 (by decide) ?_
  refine go_istore_n C [(0, .ref a), (1, .int 0), (2, .int 0), (3, .int 0)] dX3_isRight_5 [1, 2, 3, 0] rfl (by decide) rfl ?_
  exact l_X3_isRight_6 G rs p0 p1 a w ln f hp0 hp1 hl  C E (ln + 1) 0 false 0 (by omega) (by omega) (by omega) rfl
set_option maxHeartbeats 4000000 in
set_option maxRecDepth 100000 in
theorem l_X1_isRight_4 {X : go_X} (G : go_G) (rs : va_W) (p0 : Nat) (p1 : Nat) (p2 : Nat) (v : Nat) (a : Nat) (w : Nat) (ln : Nat) (f : Nat → Int32) (hp0 : rs[p0]? = some (v, .inr (1, [.ref a]))) (hp1 : rs[p1]? = some (a, .inr (6, [.ref w, .int (nI ln)]))) (hp2 : rs[p2]? = some (w, .inl (G.2.1, 32, .inl f))) (hl : ln ≤ 32) {Rr : Option Value}  (C : go_Cx X cX1_isRight RX1 (some .boolean) 3 2 42 0 0 G) (E : go_Ex X Rr rs)  : ∀ (n : Nat) (i : Nat) (h : Nat) (hin : ln < i + n) (hi : i ≤ ln) (hh : h ≤ 8) (hR : some (.int (go_b (pc_iR ln f n i h))) = Rr), go_Go X (0, 0) rs [(0, .ref v), (1, .int (nI h)), (2, .int (nI i))] [] 4 := by
  intro n
  induction n with
  | zero => intro i h hin hi hh hR; omega
  | succ n ih =>
    intro i h hin hi hh hR
    refine go_iload_n C dX1_isRight_4 2 rfl rfl ?_
    refine go_aload_n C dX1_isRight_5 0 rfl rfl ?_
    refine go_get C (v := .ref a) fl_X1_12 dX1_isRight_6 p0 hp0 rfl ?_
    refine go_cV C (c_X7_length G rs p1 a w ln hp1 ) ml_X1_18 mc_X7_length dX1_isRight_9 [.int (nI i)] rfl rfl p1 hp1 rfl rfl ⟨Nat.le_of_ble_eq_true rfl, Nat.le_of_ble_eq_true rfl, Nat.zero_le _, Nat.zero_le _, Nat.le_of_ble_eq_true rfl⟩ [.int (nI ln), .int (nI i)] rfl ?_
    refine go_icmp_geN (a := i) (b := ln) C 67 dX1_isRight_12 (by decide) (by omega) (by omega) (fun c_12 => ?_) (fun c_12 => ?_)
    · refine go_iload_n C dX1_isRight_67 1 rfl rfl ?_
      refine go_iconst C (1) dX1_isRight_68 (by decide) ?_
      refine go_icmp_neN (a := h) (b := 1) C 76 dX1_isRight_69 (by decide) (by omega) (by omega) (fun c_69 => ?_) (fun c_69 => ?_)
      · refine go_iconst C (0) dX1_isRight_76 (by decide) ?_
        refine go_se [.int (go_b (false))] rfl ?_
        exact go_zret C E dX1_isRight_77 (go_bn _) (by rw [← hR]; first | contradiction | rfl | (simp [pc_iR, pc_oi_m1 hh, *]; done) | (rw [decide_eq_true (by omega)]; done) | (rw [decide_eq_false (by omega)]; done) | (simp_all [pc_iR, pc_oi_m1 hh]; done) | (simp [pc_iR, pc_oi_m1 hh]; omega) | (simp_all [pc_iR, pc_oi_m1 hh]; omega) | omega) rfl
      · refine go_iconst C (1) dX1_isRight_72 (by decide) ?_
        refine go_goto C 77 dX1_isRight_73 (by decide) ?_
        refine go_se [.int (go_b (true))] rfl ?_
        exact go_zret C E dX1_isRight_77 (go_bn _) (by rw [← hR]; first | contradiction | rfl | (simp [pc_iR, pc_oi_m1 hh, *]; done) | (rw [decide_eq_true (by omega)]; done) | (rw [decide_eq_false (by omega)]; done) | (simp_all [pc_iR, pc_oi_m1 hh]; done) | (simp [pc_iR, pc_oi_m1 hh]; omega) | (simp_all [pc_iR, pc_oi_m1 hh]; omega) | omega) rfl
    · refine go_aload_n C dX1_isRight_15 0 rfl rfl ?_
      refine go_get C (v := .ref a) fl_X1_12 dX1_isRight_16 p0 hp0 rfl ?_
      refine go_iload_n C dX1_isRight_19 2 rfl rfl ?_
      refine go_cV C (c_X7_opAt G rs p1 p2 a w ln f i hp1 hp2 (by omega) (by omega)) ml_X1_22 mc_X7_opAt dX1_isRight_20 [] rfl rfl p1 hp1 rfl rfl ⟨Nat.le_of_ble_eq_true rfl, Nat.le_of_ble_eq_true rfl, Nat.zero_le _, Nat.zero_le _, Nat.le_of_ble_eq_true rfl⟩ [.int (pc_op (f i))] (by simp [pc_at, *]) ?_
      refine go_bipush C (12) dX1_isRight_23 (by decide) ?_
      refine go_icmp_ne C 40 dX1_isRight_25 (by decide) (fun c_25 => ?_) (fun c_25 => ?_)
      · refine go_iload_n C dX1_isRight_40 1 rfl rfl ?_
        refine go_aload_n C dX1_isRight_41 0 rfl rfl ?_
        refine go_get C (v := .ref a) fl_X1_12 dX1_isRight_42 p0 hp0 rfl ?_
        refine go_iload_n C dX1_isRight_45 2 rfl rfl ?_
        refine go_cV C (c_X7_opAt G rs p1 p2 a w ln f i hp1 hp2 (by omega) (by omega)) ml_X1_22 mc_X7_opAt dX1_isRight_46 [.int (nI h)] rfl rfl p1 hp1 rfl rfl ⟨Nat.le_of_ble_eq_true rfl, Nat.le_of_ble_eq_true rfl, Nat.zero_le _, Nat.zero_le _, Nat.le_of_ble_eq_true rfl⟩ [.int (pc_op (f i)), .int (nI h)] (by simp [pc_at, *]) ?_
        refine go_iconst C (0) dX1_isRight_49 (by decide) ?_
        refine go_cS C (c_X6_heightAfter G rs  h (pc_op (f i)) false  (by omega)) ml_X1_26 mc_X6_heightAfter dX1_isRight_50 [] rfl rfl rfl ⟨Nat.le_of_ble_eq_true rfl, Nat.le_of_ble_eq_true rfl, Nat.zero_le _, Nat.zero_le _, Nat.le_of_ble_eq_true rfl⟩ [.int (pc_oi (pc_hA h (pc_op (f i)) false))] rfl ?_
        refine go_istore_n C [(0, .ref v), (1, .int (pc_oi (pc_hA h (pc_op (f i)) false))), (2, .int (nI i))] dX1_isRight_53 [1, 0, 2] rfl (by decide) rfl ?_
        refine go_iload_n C dX1_isRight_54 1 rfl rfl ?_
        refine go_iconst C ((-1)) dX1_isRight_55 (by decide) ?_
        refine go_icmp_ne C 61 dX1_isRight_56 (by decide) (fun c_56 => ?_) (fun c_56 => ?_)
        · obtain ⟨h_1, hh_1, hb_1⟩ := pc_oi_ne (by omega) c_56
          refine go_le [(0, .ref v), (1, .int (nI h_1)), (2, .int (nI i))] (by rw [hh_1]; rfl) ?_
          refine go_iinc C (nI (i + 1)) [(0, .ref v), (1, .int (nI h_1)), (2, .int (nI (i + 1)))] dX1_isRight_61 2 [1, 2, 0] rfl (nI_add i 1) (by decide) rfl ?_
          refine go_goto C 4 dX1_isRight_64 (by decide) ?_
          exact ih (i + 1) h_1 (by omega) (by omega) (by omega) (by rw [← hR]; first | contradiction | rfl | (simp [pc_iR, *]; done) | (rw [decide_eq_true (by omega)]; done) | (rw [decide_eq_false (by omega)]; done) | (simp_all [pc_iR]; done) | (simp [pc_iR]; omega) | (simp_all [pc_iR]; omega) | omega)
        · refine go_iconst C (0) dX1_isRight_59 (by decide) ?_
          refine go_se [.int (go_b (false))] rfl ?_
          exact go_zret C E dX1_isRight_60 (go_bn _) (by rw [← hR]; first | contradiction | rfl | (simp [pc_iR, pc_oi_m1 hh, *]; done) | (rw [decide_eq_true (by omega)]; done) | (rw [decide_eq_false (by omega)]; done) | (simp_all [pc_iR, pc_oi_m1 hh]; done) | (simp [pc_iR, pc_oi_m1 hh]; omega) | (simp_all [pc_iR, pc_oi_m1 hh]; omega) | omega) rfl
      · refine go_iload_n C dX1_isRight_28 1 rfl rfl ?_
        refine go_iconst C (1) dX1_isRight_29 (by decide) ?_
        refine go_icmp_eqN (a := h) (b := 1) C 35 dX1_isRight_30 (by decide) (by omega) (by omega) (fun c_30 => ?_) (fun c_30 => ?_)
        · refine go_iconst C (0) dX1_isRight_35 (by decide) ?_
          refine go_istore_n C [(0, .ref v), (1, .int 0), (2, .int (nI i))] dX1_isRight_36 [1, 0, 2] rfl (by decide) rfl ?_
          refine go_goto C 54 dX1_isRight_37 (by decide) ?_
          refine go_iload_n C dX1_isRight_54 1 rfl rfl ?_
          refine go_iconst C ((-1)) dX1_isRight_55 (by decide) ?_
          refine go_icmp_ne C 61 dX1_isRight_56 (by decide) (fun c_56 => ?_) (fun c_56 => ?_)
          · refine go_iinc C (nI (i + 1)) [(0, .ref v), (1, .int 0), (2, .int (nI (i + 1)))] dX1_isRight_61 2 [1, 2, 0] rfl (nI_add i 1) (by decide) rfl ?_
            refine go_goto C 4 dX1_isRight_64 (by decide) ?_
            exact ih (i + 1) 0 (by omega) (by omega) (by omega) (by rw [← hR]; first | contradiction | rfl | (simp [pc_iR, *]; done) | (rw [decide_eq_true (by omega)]; done) | (rw [decide_eq_false (by omega)]; done) | (simp_all [pc_iR]; done) | (simp [pc_iR]; omega) | (simp_all [pc_iR]; omega) | omega)
          · exact absurd c_56 (by decide)
        · refine go_iconst C (0) dX1_isRight_33 (by decide) ?_
          refine go_se [.int (go_b (false))] rfl ?_
          exact go_zret C E dX1_isRight_34 (go_bn _) (by rw [← hR]; first | contradiction | rfl | (simp [pc_iR, pc_oi_m1 hh, *]; done) | (rw [decide_eq_true (by omega)]; done) | (rw [decide_eq_false (by omega)]; done) | (simp_all [pc_iR, pc_oi_m1 hh]; done) | (simp [pc_iR, pc_oi_m1 hh]; omega) | (simp_all [pc_iR, pc_oi_m1 hh]; omega) | omega) rfl
set_option maxHeartbeats 4000000 in
set_option maxRecDepth 100000 in
theorem c_X1_isRight (G : go_G) (rs : va_W) (p0 : Nat) (p1 : Nat) (p2 : Nat) (v : Nat) (a : Nat) (w : Nat) (ln : Nat) (f : Nat → Int32) (hp0 : rs[p0]? = some (v, .inr (1, [.ref a]))) (hp1 : rs[p1]? = some (a, .inr (6, [.ref w, .int (nI ln)]))) (hp2 : rs[p2]? = some (w, .inl (G.2.1, 32, .inl f))) (hl : ln ≤ 32) : go_Fn yX1_isRight cX1_isRight 3 (some .boolean) 2 42 G [.ref v] rs (some (.int (go_b (pc_iR ln f (ln + 1) 0 0)))) rs := by
  refine go_Fn_of (by decide) (Nat.le_of_ble_eq_true rfl) (fun X C E => ?_)
  show go_Go X (0, 0) rs [(0, .ref v)] [] 0
  refine go_iconst C (0) dX1_isRight_0 (by decide) ?_
  refine go_istore_n C [(0, .ref v), (1, .int 0)] dX1_isRight_1 [1, 0] rfl (by decide) rfl ?_
  refine go_iconst C (0) dX1_isRight_2 (by decide) ?_
  refine go_istore_n C [(0, .ref v), (1, .int 0), (2, .int 0)] dX1_isRight_3 [1, 2, 0] rfl (by decide) rfl ?_
  exact l_X1_isRight_4 G rs p0 p1 p2 v a w ln f hp0 hp1 hp2 hl  C E (ln + 1) 0 0 (by omega) (by omega) (by omega) rfl
set_option maxHeartbeats 4000000 in
set_option maxRecDepth 100000 in
theorem c_X1_isPartStart (G : go_G) (rs : va_W) (p0 : Nat) (p1 : Nat) (p2 : Nat) (v : Nat) (a : Nat) (w : Nat) (ln : Nat) (f : Nat → Int32) (i : Nat) (hp0 : rs[p0]? = some (v, .inr (1, [.ref a]))) (hp1 : rs[p1]? = some (a, .inr (6, [.ref w, .int (nI ln)]))) (hp2 : rs[p2]? = some (w, .inl (G.2.1, 32, .inl f))) (hl : ln ≤ 32) (hi : i ≤ ln) : go_Fn yX1_isPartStart cX1_isPartStart 2 (some .boolean) 2 42 G [.ref v, .int (nI i)] rs (some (.int (go_b (pc_ps f i)))) rs := by
  refine go_Fn_of (by decide) (Nat.le_of_ble_eq_true rfl) (fun X C E => ?_)
  show go_Go X (0, 0) rs [(0, .ref v), (1, .int (nI i))] [] 0
  refine go_iload_n C dX1_isPartStart_0 1 rfl rfl ?_
  refine go_if_eqN C 19 dX1_isPartStart_1 (by decide) (by omega) (fun c_1 => ?_) (fun c_1 => ?_)
  · refine go_iconst C (1) dX1_isPartStart_19 (by decide) ?_
    refine go_goto C 24 dX1_isPartStart_20 (by decide) ?_
    refine go_se [.int (go_b (true))] rfl ?_
    exact go_zret C E dX1_isPartStart_24 (go_bn _) (by first | contradiction | rfl | (simp [pc_ps, *]; done) | (rw [decide_eq_true (by omega)]; done) | (rw [decide_eq_false (by omega)]; done) | (simp_all [pc_ps]; done) | (simp [pc_ps]; omega) | (simp_all [pc_ps]; omega) | omega) rfl
  · refine go_aload_n C dX1_isPartStart_4 0 rfl rfl ?_
    refine go_get C (v := .ref a) fl_X1_12 dX1_isPartStart_5 p0 hp0 rfl ?_
    refine go_iload_n C dX1_isPartStart_8 1 rfl rfl ?_
    refine go_iconst C (1) dX1_isPartStart_9 (by decide) ?_
    refine go_isub C (z := nI (i - 1)) dX1_isPartStart_10 (pk_sub (a := i) (b := 1) (by omega)) ?_
    refine go_cV C (c_X7_opAt G rs p1 p2 a w ln f (i - 1) hp1 hp2 (by omega) (by omega)) ml_X1_22 mc_X7_opAt dX1_isPartStart_11 [] rfl rfl p1 hp1 rfl rfl ⟨Nat.le_of_ble_eq_true rfl, Nat.le_of_ble_eq_true rfl, Nat.zero_le _, Nat.zero_le _, Nat.le_of_ble_eq_true rfl⟩ [.int (pc_op (f (i - 1)))] (by rw [pc_at, if_pos (by omega)]; rfl) ?_
    refine go_bipush C (12) dX1_isPartStart_14 (by decide) ?_
    refine go_icmp_ne C 23 dX1_isPartStart_16 (by decide) (fun c_16 => ?_) (fun c_16 => ?_)
    · refine go_iconst C (0) dX1_isPartStart_23 (by decide) ?_
      refine go_se [.int (go_b (false))] rfl ?_
      exact go_zret C E dX1_isPartStart_24 (go_bn _) (by first | contradiction | rfl | (simp [pc_ps, *]; done) | (rw [decide_eq_true (by omega)]; done) | (rw [decide_eq_false (by omega)]; done) | (simp_all [pc_ps]; done) | (simp [pc_ps]; omega) | (simp_all [pc_ps]; omega) | omega) rfl
    · refine go_iconst C (1) dX1_isPartStart_19 (by decide) ?_
      refine go_goto C 24 dX1_isPartStart_20 (by decide) ?_
      refine go_se [.int (go_b (true))] rfl ?_
      exact go_zret C E dX1_isPartStart_24 (go_bn _) (by first | contradiction | rfl | (simp [pc_ps, *]; done) | (rw [decide_eq_true (by omega)]; done) | (rw [decide_eq_false (by omega)]; done) | (simp_all [pc_ps]; done) | (simp [pc_ps]; omega) | (simp_all [pc_ps]; omega) | omega) rfl
set_option maxHeartbeats 4000000 in
set_option maxRecDepth 100000 in
theorem c_X1_partEnd (G : go_G) (rs : va_W) (p0 : Nat) (p1 : Nat) (p2 : Nat) (v : Nat) (a : Nat) (w : Nat) (ln : Nat) (f : Nat → Int32) (i : Nat) (hp0 : rs[p0]? = some (v, .inr (1, [.ref a]))) (hp1 : rs[p1]? = some (a, .inr (6, [.ref w, .int (nI ln)]))) (hp2 : rs[p2]? = some (w, .inl (G.2.1, 32, .inl f))) (hl : ln ≤ 32) (hi : i ≤ ln) : go_Fn yX1_partEnd cX1_partEnd 2 (some .int) 2 44 G [.ref v, .int (nI i)] rs (some (.int (nI (pc_pe ln f i)))) rs := by
  refine go_Fn_of (by decide) (Nat.le_of_ble_eq_true rfl) (fun X C E => ?_)
  show go_Go X (0, 0) rs [(0, .ref v), (1, .int (nI i))] [] 0
  refine go_aload_n C dX1_partEnd_0 0 rfl rfl ?_
  refine go_get C (v := .ref a) fl_X1_12 dX1_partEnd_1 p0 hp0 rfl ?_
  refine go_bipush C (12) dX1_partEnd_4 (by decide) ?_
  refine go_iload_n C dX1_partEnd_6 1 rfl rfl ?_
  refine go_cV C (c_X7_next G rs p1 p2 a w ln f 12 i hp1 hp2 (by omega) (by omega)) ml_X1_32 mc_X7_next dX1_partEnd_7 [] rfl rfl p1 hp1 rfl rfl ⟨Nat.le_of_ble_eq_true rfl, Nat.le_of_ble_eq_true rfl, Nat.zero_le _, Nat.zero_le _, Nat.le_of_ble_eq_true rfl⟩ [.int (nI (pc_next ln f 12 (ln + 1) i))] rfl ?_
  exact go_iret C E dX1_partEnd_10 rfl rfl
set_option maxHeartbeats 4000000 in
set_option maxRecDepth 100000 in
theorem l_X1_hasExchanged_12 {X : go_X} (G : go_G) (rs : va_W) (p0 : Nat) (p1 : Nat) (p2 : Nat) (v : Nat) (a : Nat) (w : Nat) (ln : Nat) (f : Nat → Int32) (j : Nat) (u : Int32) (z : Int32) (hp0 : rs[p0]? = some (v, .inr (1, [.ref a]))) (hp1 : rs[p1]? = some (a, .inr (6, [.ref w, .int (nI ln)]))) (hp2 : rs[p2]? = some (w, .inl (G.2.1, 32, .inl f))) (hl : ln ≤ 32) (hj : j ≤ ln) {Rr : Option Value}  (C : go_Cx X cX1_hasExchanged RX1 (some .boolean) 6 3 71 0 0 G) (E : go_Ex X Rr rs)  : ∀ (n : Nat) (i : Nat) (hin : ln < i + n) (hi : i ≤ ln) (hR : some (.int (go_b (pc_hE ln f j u z n i))) = Rr), go_Go X (0, 0) rs [(0, .ref v), (1, .int (nI j)), (2, .int u), (3, .int z), (4, .int (nI (pc_pe ln f j - j))), (5, .int (nI i))] [] 12 := by
  intro n
  induction n with
  | zero => intro i hin hi hR; omega
  | succ n ih =>
    intro i hin hi hR
    have hb := pc_pe_bd (ln := ln) (f := f) hj
    refine go_iload C dX1_hasExchanged_12 5 rfl ?_
    refine go_aload_n C dX1_hasExchanged_14 0 rfl rfl ?_
    refine go_get C (v := .ref a) fl_X1_12 dX1_hasExchanged_15 p0 hp0 rfl ?_
    refine go_cV C (c_X7_length G rs p1 a w ln hp1 ) ml_X1_18 mc_X7_length dX1_hasExchanged_18 [.int (nI i)] rfl rfl p1 hp1 rfl rfl ⟨Nat.le_of_ble_eq_true rfl, Nat.le_of_ble_eq_true rfl, Nat.zero_le _, Nat.zero_le _, Nat.le_of_ble_eq_true rfl⟩ [.int (nI ln), .int (nI i)] rfl ?_
    refine go_icmp_geN (a := i) (b := ln) C 76 dX1_hasExchanged_21 (by decide) (by omega) (by omega) (fun c_21 => ?_) (fun c_21 => ?_)
    · refine go_iconst C (0) dX1_hasExchanged_76 (by decide) ?_
      refine go_se [.int (go_b (false))] rfl ?_
      exact go_zret C E dX1_hasExchanged_77 (go_bn _) (by rw [← hR]; first | contradiction | rfl | (simp [pc_hE, *]; done) | (rw [decide_eq_true (by omega)]; done) | (rw [decide_eq_false (by omega)]; done) | (simp_all [pc_hE]; done) | (simp [pc_hE]; omega) | (simp_all [pc_hE]; omega) | omega) rfl
    · refine go_aload_n C dX1_hasExchanged_24 0 rfl rfl ?_
      refine go_iload C dX1_hasExchanged_25 5 rfl ?_
      refine go_cV C (c_X1_isPartStart G rs p0 p1 p2 v a w ln f i hp0 hp1 hp2 (by omega) (by omega)) ml_X1_36 mc_X1_isPartStart dX1_hasExchanged_27 [] rfl rfl p0 hp0 rfl rfl ⟨Nat.le_of_ble_eq_true rfl, Nat.le_of_ble_eq_true rfl, Nat.zero_le _, Nat.zero_le _, Nat.le_of_ble_eq_true rfl⟩ [.int (go_b (pc_ps f i))] rfl ?_
      refine go_if_eqB C 70 dX1_hasExchanged_30 (by decide) (fun c_30 => ?_) (fun c_30 => ?_)
      · refine go_iinc C (nI (i + 1)) [(0, .ref v), (1, .int (nI j)), (2, .int u), (3, .int z), (4, .int (nI (pc_pe ln f j - j))), (5, .int (nI (i + 1)))] dX1_hasExchanged_70 5 [1, 2, 3, 4, 5, 0] rfl (nI_add i 1) (by decide) rfl ?_
        refine go_goto C 12 dX1_hasExchanged_73 (by decide) ?_
        exact ih (i + 1) (by omega) (by omega) (by rw [← hR]; first | contradiction | rfl | (simp [pc_hE, *]; done) | (rw [decide_eq_true (by omega)]; done) | (rw [decide_eq_false (by omega)]; done) | (simp_all [pc_hE]; done) | (simp [pc_hE]; omega) | (simp_all [pc_hE]; omega) | omega)
      · refine go_aload_n C dX1_hasExchanged_33 0 rfl rfl ?_
        refine go_iload C dX1_hasExchanged_34 5 rfl ?_
        refine go_cV C (c_X1_partEnd G rs p0 p1 p2 v a w ln f i hp0 hp1 hp2 (by omega) (by omega)) ml_X1_44 mc_X1_partEnd dX1_hasExchanged_36 [] rfl rfl p0 hp0 rfl rfl ⟨Nat.le_of_ble_eq_true rfl, Nat.le_of_ble_eq_true rfl, Nat.zero_le _, Nat.zero_le _, Nat.le_of_ble_eq_true rfl⟩ [.int (nI (pc_pe ln f i))] rfl ?_
        have hb2 := pc_pe_bd (ln := ln) (f := f) (i := i) (by omega)
        refine go_iload C dX1_hasExchanged_39 5 rfl ?_
        refine go_isub C (z := nI ((pc_pe ln f i) - i)) dX1_hasExchanged_41 (pk_sub (a := pc_pe ln f i) (b := i) (by omega)) ?_
        refine go_iload C dX1_hasExchanged_42 4 rfl ?_
        refine go_icmp_neN (a := (pc_pe ln f i) - i) (b := pc_pe ln f j - j) C 70 dX1_hasExchanged_44 (by decide) (by omega) (by omega) (fun c_44 => ?_) (fun c_44 => ?_)
        · refine go_iinc C (nI (i + 1)) [(0, .ref v), (1, .int (nI j)), (2, .int u), (3, .int z), (4, .int (nI (pc_pe ln f j - j))), (5, .int (nI (i + 1)))] dX1_hasExchanged_70 5 [1, 2, 3, 4, 5, 0] rfl (nI_add i 1) (by decide) rfl ?_
          refine go_goto C 12 dX1_hasExchanged_73 (by decide) ?_
          exact ih (i + 1) (by omega) (by omega) (by rw [← hR]; first | contradiction | rfl | (simp [pc_hE, *]; done) | (rw [decide_eq_true (by omega)]; done) | (rw [decide_eq_false (by omega)]; done) | (simp_all [pc_hE]; done) | (simp [pc_hE]; omega) | (simp_all [pc_hE]; omega) | omega)
        · refine go_aload_n C dX1_hasExchanged_47 0 rfl rfl ?_
          refine go_get C (v := .ref a) fl_X1_12 dX1_hasExchanged_48 p0 hp0 rfl ?_
          refine go_iload_n C dX1_hasExchanged_51 1 rfl rfl ?_
          refine go_iload C dX1_hasExchanged_52 4 rfl ?_
          refine go_aload_n C dX1_hasExchanged_54 0 rfl rfl ?_
          refine go_get C (v := .ref a) fl_X1_12 dX1_hasExchanged_55 p0 hp0 rfl ?_
          refine go_iload C dX1_hasExchanged_58 5 rfl ?_
          refine go_iload_n C dX1_hasExchanged_60 2 rfl rfl ?_
          refine go_iload_n C dX1_hasExchanged_61 3 rfl rfl ?_
          refine go_cV C (c_X7_turnsInto G rs p1 p2 p1 p2 a w ln f a w ln f j (pc_pe ln f j - j) i u z hp1 hp2 hp1 hp2 (by omega) (by omega) (by omega) (by omega) (by omega)) ml_X1_47 mc_X7_turnsInto dX1_hasExchanged_62 [] rfl rfl p1 hp1 rfl rfl ⟨Nat.le_of_ble_eq_true rfl, Nat.le_of_ble_eq_true rfl, Nat.zero_le _, Nat.zero_le _, Nat.le_of_ble_eq_true rfl⟩ [.int (go_b (pc_ti (pc_at ln f) (pc_at ln f) (pc_pe ln f j - j) j i u z ((pc_pe ln f j - j) + 1) 0))] rfl ?_
          refine go_if_eqB C 70 dX1_hasExchanged_65 (by decide) (fun c_65 => ?_) (fun c_65 => ?_)
          · refine go_iinc C (nI (i + 1)) [(0, .ref v), (1, .int (nI j)), (2, .int u), (3, .int z), (4, .int (nI (pc_pe ln f j - j))), (5, .int (nI (i + 1)))] dX1_hasExchanged_70 5 [1, 2, 3, 4, 5, 0] rfl (nI_add i 1) (by decide) rfl ?_
            refine go_goto C 12 dX1_hasExchanged_73 (by decide) ?_
            exact ih (i + 1) (by omega) (by omega) (by rw [← hR]; first | contradiction | rfl | (simp [pc_hE, *]; done) | (rw [decide_eq_true (by omega)]; done) | (rw [decide_eq_false (by omega)]; done) | (simp_all [pc_hE]; done) | (simp [pc_hE]; omega) | (simp_all [pc_hE]; omega) | omega)
          · refine go_iconst C (1) dX1_hasExchanged_68 (by decide) ?_
            refine go_se [.int (go_b (true))] rfl ?_
            exact go_zret C E dX1_hasExchanged_69 (go_bn _) (by rw [← hR]; first | contradiction | rfl | (simp [pc_hE, *]; done) | (rw [decide_eq_true (by omega)]; done) | (rw [decide_eq_false (by omega)]; done) | (simp_all [pc_hE]; done) | (simp [pc_hE]; omega) | (simp_all [pc_hE]; omega) | omega) rfl
set_option maxHeartbeats 4000000 in
set_option maxRecDepth 100000 in
theorem c_X1_hasExchanged (G : go_G) (rs : va_W) (p0 : Nat) (p1 : Nat) (p2 : Nat) (v : Nat) (a : Nat) (w : Nat) (ln : Nat) (f : Nat → Int32) (j : Nat) (u : Int32) (z : Int32) (hp0 : rs[p0]? = some (v, .inr (1, [.ref a]))) (hp1 : rs[p1]? = some (a, .inr (6, [.ref w, .int (nI ln)]))) (hp2 : rs[p2]? = some (w, .inl (G.2.1, 32, .inl f))) (hl : ln ≤ 32) (hj : j ≤ ln) : go_Fn yX1_hasExchanged cX1_hasExchanged 6 (some .boolean) 3 71 G [.ref v, .int (nI j), .int u, .int z] rs (some (.int (go_b (pc_hE ln f j u z (ln + 1) 0)))) rs := by
  refine go_Fn_of (by decide) (Nat.le_of_ble_eq_true rfl) (fun X C E => ?_)
  show go_Go X (0, 0) rs [(0, .ref v), (1, .int (nI j)), (2, .int u), (3, .int z)] [] 0
  have hb := pc_pe_bd (ln := ln) (f := f) hj
  refine go_aload_n C dX1_hasExchanged_0 0 rfl rfl ?_
  refine go_iload_n C dX1_hasExchanged_1 1 rfl rfl ?_
  refine go_cV C (c_X1_partEnd G rs p0 p1 p2 v a w ln f j hp0 hp1 hp2 (by omega) (by omega)) ml_X1_44 mc_X1_partEnd dX1_hasExchanged_2 [] rfl rfl p0 hp0 rfl rfl ⟨Nat.le_of_ble_eq_true rfl, Nat.le_of_ble_eq_true rfl, Nat.zero_le _, Nat.zero_le _, Nat.le_of_ble_eq_true rfl⟩ [.int (nI (pc_pe ln f j))] rfl ?_
  refine go_iload_n C dX1_hasExchanged_5 1 rfl rfl ?_
  refine go_isub C (z := nI ((pc_pe ln f j) - j)) dX1_hasExchanged_6 (pk_sub (a := pc_pe ln f j) (b := j) (by omega)) ?_
  refine go_istore C [(0, .ref v), (1, .int (nI j)), (2, .int u), (3, .int z), (4, .int (nI ((pc_pe ln f j) - j)))] dX1_hasExchanged_7 [1, 2, 3, 4, 0] (by decide) rfl ?_
  refine go_iconst C (0) dX1_hasExchanged_9 (by decide) ?_
  refine go_istore C [(0, .ref v), (1, .int (nI j)), (2, .int u), (3, .int z), (4, .int (nI ((pc_pe ln f j) - j))), (5, .int 0)] dX1_hasExchanged_10 [1, 2, 3, 4, 5, 0] (by decide) rfl ?_
  exact l_X1_hasExchanged_12 G rs p0 p1 p2 v a w ln f j u z hp0 hp1 hp2 hl hj  C E (ln + 1) 0 (by omega) (by omega) rfl
set_option maxHeartbeats 4000000 in
set_option maxRecDepth 100000 in
theorem l_X1_bearsExchange_2 {X : go_X} (G : go_G) (rs : va_W) (p0 : Nat) (p1 : Nat) (p2 : Nat) (v : Nat) (a : Nat) (w : Nat) (ln : Nat) (f : Nat → Int32) (u : Int32) (z : Int32) (hp0 : rs[p0]? = some (v, .inr (1, [.ref a]))) (hp1 : rs[p1]? = some (a, .inr (6, [.ref w, .int (nI ln)]))) (hp2 : rs[p2]? = some (w, .inl (G.2.1, 32, .inl f))) (hl : ln ≤ 32) {Rr : Option Value}  (C : go_Cx X cX1_bearsExchange RX1 (some .boolean) 4 4 96 0 0 G) (E : go_Ex X Rr rs)  : ∀ (n : Nat) (i : Nat) (hin : ln < i + n) (hi : i ≤ ln) (hR : some (.int (go_b (pc_bE ln f u z n i))) = Rr), go_Go X (0, 0) rs [(0, .ref v), (1, .int u), (2, .int z), (3, .int (nI i))] [] 2 := by
  intro n
  induction n with
  | zero => intro i hin hi hR; omega
  | succ n ih =>
    intro i hin hi hR
    refine go_iload_n C dX1_bearsExchange_2 3 rfl rfl ?_
    refine go_aload_n C dX1_bearsExchange_3 0 rfl rfl ?_
    refine go_get C (v := .ref a) fl_X1_12 dX1_bearsExchange_4 p0 hp0 rfl ?_
    refine go_cV C (c_X7_length G rs p1 a w ln hp1 ) ml_X1_18 mc_X7_length dX1_bearsExchange_7 [.int (nI i)] rfl rfl p1 hp1 rfl rfl ⟨Nat.le_of_ble_eq_true rfl, Nat.le_of_ble_eq_true rfl, Nat.zero_le _, Nat.zero_le _, Nat.le_of_ble_eq_true rfl⟩ [.int (nI ln), .int (nI i)] rfl ?_
    refine go_icmp_geN (a := i) (b := ln) C 39 dX1_bearsExchange_10 (by decide) (by omega) (by omega) (fun c_10 => ?_) (fun c_10 => ?_)
    · refine go_iconst C (1) dX1_bearsExchange_39 (by decide) ?_
      refine go_se [.int (go_b (true))] rfl ?_
      exact go_zret C E dX1_bearsExchange_40 (go_bn _) (by rw [← hR]; first | contradiction | rfl | (simp [pc_bE, *]; done) | (rw [decide_eq_true (by omega)]; done) | (rw [decide_eq_false (by omega)]; done) | (simp_all [pc_bE]; done) | (simp [pc_bE]; omega) | (simp_all [pc_bE]; omega) | omega) rfl
    · refine go_aload_n C dX1_bearsExchange_13 0 rfl rfl ?_
      refine go_iload_n C dX1_bearsExchange_14 3 rfl rfl ?_
      refine go_cV C (c_X1_isPartStart G rs p0 p1 p2 v a w ln f i hp0 hp1 hp2 (by omega) (by omega)) ml_X1_36 mc_X1_isPartStart dX1_bearsExchange_15 [] rfl rfl p0 hp0 rfl rfl ⟨Nat.le_of_ble_eq_true rfl, Nat.le_of_ble_eq_true rfl, Nat.zero_le _, Nat.zero_le _, Nat.le_of_ble_eq_true rfl⟩ [.int (go_b (pc_ps f i))] rfl ?_
      refine go_if_eqB C 33 dX1_bearsExchange_18 (by decide) (fun c_18 => ?_) (fun c_18 => ?_)
      · refine go_iinc C (nI (i + 1)) [(0, .ref v), (1, .int u), (2, .int z), (3, .int (nI (i + 1)))] dX1_bearsExchange_33 3 [1, 2, 3, 0] rfl (nI_add i 1) (by decide) rfl ?_
        refine go_goto C 2 dX1_bearsExchange_36 (by decide) ?_
        exact ih (i + 1) (by omega) (by omega) (by rw [← hR]; first | contradiction | rfl | (simp [pc_bE, *]; done) | (rw [decide_eq_true (by omega)]; done) | (rw [decide_eq_false (by omega)]; done) | (simp_all [pc_bE]; done) | (simp [pc_bE]; omega) | (simp_all [pc_bE]; omega) | omega)
      · refine go_aload_n C dX1_bearsExchange_21 0 rfl rfl ?_
        refine go_iload_n C dX1_bearsExchange_22 3 rfl rfl ?_
        refine go_iload_n C dX1_bearsExchange_23 1 rfl rfl ?_
        refine go_iload_n C dX1_bearsExchange_24 2 rfl rfl ?_
        refine go_cV C (c_X1_hasExchanged G rs p0 p1 p2 v a w ln f i u z hp0 hp1 hp2 (by omega) (by omega)) ml_X1_40 mc_X1_hasExchanged dX1_bearsExchange_25 [] rfl rfl p0 hp0 rfl rfl ⟨Nat.le_of_ble_eq_true rfl, Nat.le_of_ble_eq_true rfl, Nat.zero_le _, Nat.zero_le _, Nat.le_of_ble_eq_true rfl⟩ [.int (go_b (pc_hE ln f i u z (ln + 1) 0))] rfl ?_
        refine go_if_neB C 33 dX1_bearsExchange_28 (by decide) (fun c_28 => ?_) (fun c_28 => ?_)
        · refine go_iinc C (nI (i + 1)) [(0, .ref v), (1, .int u), (2, .int z), (3, .int (nI (i + 1)))] dX1_bearsExchange_33 3 [1, 2, 3, 0] rfl (nI_add i 1) (by decide) rfl ?_
          refine go_goto C 2 dX1_bearsExchange_36 (by decide) ?_
          exact ih (i + 1) (by omega) (by omega) (by rw [← hR]; first | contradiction | rfl | (simp [pc_bE, *]; done) | (rw [decide_eq_true (by omega)]; done) | (rw [decide_eq_false (by omega)]; done) | (simp_all [pc_bE]; done) | (simp [pc_bE]; omega) | (simp_all [pc_bE]; omega) | omega)
        · refine go_iconst C (0) dX1_bearsExchange_31 (by decide) ?_
          refine go_se [.int (go_b (false))] rfl ?_
          exact go_zret C E dX1_bearsExchange_32 (go_bn _) (by rw [← hR]; first | contradiction | rfl | (simp [pc_bE, *]; done) | (rw [decide_eq_true (by omega)]; done) | (rw [decide_eq_false (by omega)]; done) | (simp_all [pc_bE]; done) | (simp [pc_bE]; omega) | (simp_all [pc_bE]; omega) | omega) rfl
set_option maxHeartbeats 4000000 in
set_option maxRecDepth 100000 in
theorem c_X1_bearsExchange (G : go_G) (rs : va_W) (p0 : Nat) (p1 : Nat) (p2 : Nat) (v : Nat) (a : Nat) (w : Nat) (ln : Nat) (f : Nat → Int32) (u : Int32) (z : Int32) (hp0 : rs[p0]? = some (v, .inr (1, [.ref a]))) (hp1 : rs[p1]? = some (a, .inr (6, [.ref w, .int (nI ln)]))) (hp2 : rs[p2]? = some (w, .inl (G.2.1, 32, .inl f))) (hl : ln ≤ 32) : go_Fn yX1_bearsExchange cX1_bearsExchange 4 (some .boolean) 4 96 G [.ref v, .int u, .int z] rs (some (.int (go_b (pc_bE ln f u z (ln + 1) 0)))) rs := by
  refine go_Fn_of (by decide) (Nat.le_of_ble_eq_true rfl) (fun X C E => ?_)
  show go_Go X (0, 0) rs [(0, .ref v), (1, .int u), (2, .int z)] [] 0
  refine go_iconst C (0) dX1_bearsExchange_0 (by decide) ?_
  refine go_istore_n C [(0, .ref v), (1, .int u), (2, .int z), (3, .int 0)] dX1_bearsExchange_1 [1, 2, 3, 0] rfl (by decide) rfl ?_
  exact l_X1_bearsExchange_2 G rs p0 p1 p2 v a w ln f u z hp0 hp1 hp2 hl  C E (ln + 1) 0 (by omega) (by omega) rfl
set_option maxHeartbeats 4000000 in
set_option maxRecDepth 100000 in
theorem c_X3_count (G : go_G) (rs : va_W) (p0 : Nat) (ru : Nat) (rows : Nat) (nth : Nat) (nr : Nat) (hp0 : rs[p0]? = some (ru, .inr (3, [.ref rows, .ref nth, .int (nI nr)])))  : go_Fn yX3_count cX3_count 1 (some .int) 0 0 G [.ref ru] rs (some (.int (nI nr))) rs := by
  refine go_Fn_of (by decide) (Nat.le_of_ble_eq_true rfl) (fun X C E => ?_)
  show go_Go X (0, 0) rs [(0, .ref ru)] [] 0
  refine go_aload_n C dX3_count_0 0 rfl rfl ?_
  refine go_get C (v := .int (nI nr)) fl_X3_22 dX3_count_1 p0 hp0 rfl ?_
  exact go_iret C E dX3_count_4 rfl rfl
set_option maxHeartbeats 4000000 in
set_option maxRecDepth 100000 in
theorem c_X3_clear (G : go_G) (rs : va_W)  (ru : Nat) (rows : Nat) (nth : Nat) (nr : Nat)   : go_Fn yX3_clear cX3_clear 1 none 0 0 G [.ref ru] ((ru, .inr (3, [.ref rows, .ref nth, .int (nI nr)])) :: rs) (none) ((ru, .inr (3, [.ref rows, .ref nth, .int (nI 0)])) :: rs) := by
  refine go_Fn_of (by decide) (Nat.le_of_ble_eq_true rfl) (fun X C E => ?_)
  show go_Go X (0, 0) ((ru, .inr (3, [.ref rows, .ref nth, .int (nI nr)])) :: rs) [(0, .ref ru)] [] 0
  refine go_aload_n C dX3_clear_0 0 rfl rfl ?_
  refine go_iconst C (0) dX3_clear_1 (by decide) ?_
  refine go_put C fp_X3_22 dX3_clear_2 0 rfl rfl rfl (Nat.le_of_ble_eq_true rfl) ((ru, .inr (3, [.ref rows, .ref nth, .int 0])) :: rs) rfl ?_
  exact go_vret C E dX3_clear_5 rfl rfl
set_option maxHeartbeats 4000000 in
set_option maxRecDepth 100000 in
theorem c_X3_isFull (G : go_G) (rs : va_W) (p0 : Nat) (ru : Nat) (rows : Nat) (nth : Nat) (nr : Nat) (hp0 : rs[p0]? = some (ru, .inr (3, [.ref rows, .ref nth, .int (nI nr)]))) (hnr : nr ≤ 12) : go_Fn yX3_isFull cX3_isFull 1 (some .boolean) 0 0 G [.ref ru] rs (some (.int (go_b (decide (12 ≤ nr))))) rs := by
  refine go_Fn_of (by decide) (Nat.le_of_ble_eq_true rfl) (fun X C E => ?_)
  show go_Go X (0, 0) rs [(0, .ref ru)] [] 0
  refine go_aload_n C dX3_isFull_0 0 rfl rfl ?_
  refine go_get C (v := .int (nI nr)) fl_X3_22 dX3_isFull_1 p0 hp0 rfl ?_
  refine go_bipush C (12) dX3_isFull_4 (by decide) ?_
  refine go_icmp_ltN (a := nr) (b := 12) C 13 dX3_isFull_6 (by decide) (by omega) (by omega) (fun c_6 => ?_) (fun c_6 => ?_)
  · refine go_iconst C (0) dX3_isFull_13 (by decide) ?_
    refine go_se [.int (go_b (false))] rfl ?_
    exact go_zret C E dX3_isFull_14 (go_bn _) (by first | contradiction | rfl | (simp [decide_eq_true_eq, *]; done) | (rw [decide_eq_true (by omega)]; done) | (rw [decide_eq_false (by omega)]; done) | (simp_all [decide_eq_true_eq]; done) | (simp [decide_eq_true_eq]; omega) | (simp_all [decide_eq_true_eq]; omega) | omega) rfl
  · refine go_iconst C (1) dX3_isFull_9 (by decide) ?_
    refine go_goto C 14 dX3_isFull_10 (by decide) ?_
    refine go_se [.int (go_b (true))] rfl ?_
    exact go_zret C E dX3_isFull_14 (go_bn _) (by first | contradiction | rfl | (simp [decide_eq_true_eq, *]; done) | (rw [decide_eq_true (by omega)]; done) | (rw [decide_eq_false (by omega)]; done) | (simp_all [decide_eq_true_eq]; done) | (simp [decide_eq_true_eq]; omega) | (simp_all [decide_eq_true_eq]; omega) | omega) rfl
set_option maxHeartbeats 4000000 in
set_option maxRecDepth 100000 in
theorem c_X3_at (G : go_G) (rs : va_W) (p0 : Nat) (p1 : Nat) (ru : Nat) (rows : Nat) (nth : Nat) (nr : Nat) (ra : Nat → Nat) (j : Nat) (hp0 : rs[p0]? = some (ru, .inr (3, [.ref rows, .ref nth, .int (nI nr)]))) (hp1 : rs[p1]? = some (rows, .inl (G.2.2, 12, .inr (.inr (.inr (.inr (fun r => some (ra r)))))))) (hnr : nr ≤ 12) (hj : j < nr) : go_Fn yX3_at cX3_at 2 (some (.object "ProtoCheck$WordRow")) 0 0 G [.ref ru, .int (nI j)] rs (some (.ref (ra j))) rs := by
  refine go_Fn_of (by decide) (Nat.le_of_ble_eq_true rfl) (fun X C E => ?_)
  show go_Go X (0, 0) rs [(0, .ref ru), (1, .int (nI j))] [] 0
  refine go_iload_n C dX3_at_0 1 rfl rfl ?_
  refine go_if_ltN C 21 dX3_at_1 (by decide) (by omega) ?_
  refine go_iload_n C dX3_at_4 1 rfl rfl ?_
  refine go_aload_n C dX3_at_5 0 rfl rfl ?_
  refine go_get C (v := .int (nI nr)) fl_X3_22 dX3_at_6 p0 hp0 rfl ?_
  refine go_icmp_geN (a := j) (b := nr) C 21 dX3_at_9 (by decide) (by omega) (by omega) (fun c_9 => ?_) (fun c_9 => ?_)
  · omega
  · refine go_aload_n C dX3_at_12 0 rfl rfl ?_
    refine go_get C (v := .ref rows) fl_X3_11 dX3_at_13 p0 hp0 rfl ?_
    refine go_iload_n C dX3_at_16 1 rfl rfl ?_
    refine go_aald C (b := ra j) dX3_at_17 p1 hp1 (j) rfl (by omega) (by decide) rfl ?_
    refine go_goto C 25 dX3_at_18 (by decide) ?_
    exact go_aret C E dX3_at_25 rfl rfl
set_option maxHeartbeats 4000000 in
set_option maxRecDepth 100000 in
theorem l_X3_areRight_2 {X : go_X} (G : go_G) (rs : va_W) (p0 : Nat) (p1 : Nat) (ru : Nat) (rows : Nat) (nth : Nat) (nr : Nat) (ra : Nat → Nat) (wa : Nat → Nat) (ln : Nat → Nat) (F : Nat → Nat → Int32) (pr : Nat → Nat) (pw : Nat → Nat) (hp0 : rs[p0]? = some (ru, .inr (3, [.ref rows, .ref nth, .int (nI nr)]))) (hp1 : rs[p1]? = some (rows, .inl (G.2.2, 12, .inr (.inr (.inr (.inr (fun r => some (ra r)))))))) (hrow : ∀ r, r < 12 → rs[pr r]? = some (ra r, .inr (6, [.ref (wa r), .int (nI (ln r))]))) (hwd : ∀ r, r < 12 → rs[pw r]? = some (wa r, .inl (G.2.1, 32, .inl (F r)))) (hln : ∀ r, r < 12 → ln r ≤ 32) (hnr : nr ≤ 12) {Rr : Option Value}  (C : go_Cx X cX3_areRight RX3 (some .boolean) 2 3 65 0 0 G) (E : go_Ex X Rr rs)  : ∀ (n : Nat) (r : Nat) (hin : nr < r + n) (hi : r ≤ nr) (hR : some (.int (go_b (pc_aR nr ln F n r))) = Rr), go_Go X (0, 0) rs [(0, .ref ru), (1, .int (nI r))] [] 2 := by
  intro n
  induction n with
  | zero => intro r hin hi hR; omega
  | succ n ih =>
    intro r hin hi hR
    refine go_iload_n C dX3_areRight_2 1 rfl rfl ?_
    refine go_aload_n C dX3_areRight_3 0 rfl rfl ?_
    refine go_get C (v := .int (nI nr)) fl_X3_22 dX3_areRight_4 p0 hp0 rfl ?_
    refine go_icmp_geN (a := r) (b := nr) C 29 dX3_areRight_7 (by decide) (by omega) (by omega) (fun c_7 => ?_) (fun c_7 => ?_)
    · refine go_iconst C (1) dX3_areRight_29 (by decide) ?_
      refine go_se [.int (go_b (true))] rfl ?_
      exact go_zret C E dX3_areRight_30 (go_bn _) (by rw [← hR]; first | contradiction | rfl | (simp [pc_aR, *]; done) | (rw [decide_eq_true (by omega)]; done) | (rw [decide_eq_false (by omega)]; done) | (simp_all [pc_aR]; done) | (simp [pc_aR]; omega) | (simp_all [pc_aR]; omega) | omega) rfl
    · refine go_aload_n C dX3_areRight_10 0 rfl rfl ?_
      refine go_iload_n C dX3_areRight_11 1 rfl rfl ?_
      refine go_cV C (c_X3_at G rs p0 p1 ru rows nth nr ra r hp0 hp1 (by omega) (by omega)) ml_X3_29 mc_X3_at dX3_areRight_12 [] rfl rfl p0 hp0 rfl rfl ⟨Nat.le_of_ble_eq_true rfl, Nat.le_of_ble_eq_true rfl, Nat.zero_le _, Nat.zero_le _, Nat.le_of_ble_eq_true rfl⟩ [.ref (ra r)] rfl ?_
      refine go_cS C (c_X3_isRight G rs (pr r) (pw r) (ra r) (wa r) (ln r) (F r) (hrow r (by omega)) (hwd r (by omega)) (hln r (by omega))) ml_X3_33 mc_X3_isRight dX3_areRight_15 [] rfl rfl rfl ⟨Nat.le_of_ble_eq_true rfl, Nat.le_of_ble_eq_true rfl, Nat.zero_le _, Nat.zero_le _, Nat.le_of_ble_eq_true rfl⟩ [.int (go_b (pc_rR (ln r) (F r) ((ln r) + 1) 0 false 0))] rfl ?_
      refine go_if_neB C 23 dX3_areRight_18 (by decide) (fun c_18 => ?_) (fun c_18 => ?_)
      · refine go_iinc C (nI (r + 1)) [(0, .ref ru), (1, .int (nI (r + 1)))] dX3_areRight_23 1 [1, 0] rfl (nI_add r 1) (by decide) rfl ?_
        refine go_goto C 2 dX3_areRight_26 (by decide) ?_
        exact ih (r + 1) (by omega) (by omega) (by rw [← hR]; first | contradiction | rfl | (simp [pc_aR, *]; done) | (rw [decide_eq_true (by omega)]; done) | (rw [decide_eq_false (by omega)]; done) | (simp_all [pc_aR]; done) | (simp [pc_aR]; omega) | (simp_all [pc_aR]; omega) | omega)
      · refine go_iconst C (0) dX3_areRight_21 (by decide) ?_
        refine go_se [.int (go_b (false))] rfl ?_
        exact go_zret C E dX3_areRight_22 (go_bn _) (by rw [← hR]; first | contradiction | rfl | (simp [pc_aR, *]; done) | (rw [decide_eq_true (by omega)]; done) | (rw [decide_eq_false (by omega)]; done) | (simp_all [pc_aR]; done) | (simp [pc_aR]; omega) | (simp_all [pc_aR]; omega) | omega) rfl
set_option maxHeartbeats 4000000 in
set_option maxRecDepth 100000 in
theorem c_X3_areRight (G : go_G) (rs : va_W) (p0 : Nat) (p1 : Nat) (ru : Nat) (rows : Nat) (nth : Nat) (nr : Nat) (ra : Nat → Nat) (wa : Nat → Nat) (ln : Nat → Nat) (F : Nat → Nat → Int32) (pr : Nat → Nat) (pw : Nat → Nat) (hp0 : rs[p0]? = some (ru, .inr (3, [.ref rows, .ref nth, .int (nI nr)]))) (hp1 : rs[p1]? = some (rows, .inl (G.2.2, 12, .inr (.inr (.inr (.inr (fun r => some (ra r)))))))) (hrow : ∀ r, r < 12 → rs[pr r]? = some (ra r, .inr (6, [.ref (wa r), .int (nI (ln r))]))) (hwd : ∀ r, r < 12 → rs[pw r]? = some (wa r, .inl (G.2.1, 32, .inl (F r)))) (hln : ∀ r, r < 12 → ln r ≤ 32) (hnr : nr ≤ 12) : go_Fn yX3_areRight cX3_areRight 2 (some .boolean) 3 65 G [.ref ru] rs (some (.int (go_b (pc_aR nr ln F (nr + 1) 0)))) rs := by
  refine go_Fn_of (by decide) (Nat.le_of_ble_eq_true rfl) (fun X C E => ?_)
  show go_Go X (0, 0) rs [(0, .ref ru)] [] 0
  refine go_iconst C (0) dX3_areRight_0 (by decide) ?_
  refine go_istore_n C [(0, .ref ru), (1, .int 0)] dX3_areRight_1 [1, 0] rfl (by decide) rfl ?_
  exact l_X3_areRight_2 G rs p0 p1 ru rows nth nr ra wa ln F pr pw hp0 hp1 hrow hwd hln hnr  C E (nr + 1) 0 (by omega) (by omega) rfl
set_option maxHeartbeats 4000000 in
set_option maxRecDepth 100000 in
theorem l_X3_hasExchanged_3 {X : go_X} (G : go_G) (rs : va_W) (p0 : Nat) (p1 : Nat) (ru : Nat) (rows : Nat) (nth : Nat) (nr : Nat) (ra : Nat → Nat) (wa : Nat → Nat) (ln : Nat → Nat) (F : Nat → Nat → Int32) (pr : Nat → Nat) (pw : Nat → Nat) (q : Nat) (u : Int32) (z : Int32) (hp0 : rs[p0]? = some (ru, .inr (3, [.ref rows, .ref nth, .int (nI nr)]))) (hp1 : rs[p1]? = some (rows, .inl (G.2.2, 12, .inr (.inr (.inr (.inr (fun r => some (ra r)))))))) (hrow : ∀ r, r < 12 → rs[pr r]? = some (ra r, .inr (6, [.ref (wa r), .int (nI (ln r))]))) (hwd : ∀ r, r < 12 → rs[pw r]? = some (wa r, .inl (G.2.1, 32, .inl (F r)))) (hln : ∀ r, r < 12 → ln r ≤ 32) (hnr : nr ≤ 12) (hq : q < nr) {Rr : Option Value}  (C : go_Cx X cX3_hasExchanged RX3 (some .boolean) 6 3 71 0 0 G) (E : go_Ex X Rr rs)  : ∀ (n : Nat) (r : Nat) (hin : nr < r + n) (hi : r ≤ nr) (hR : some (.int (go_b (pc_hX nr ln F q u z n r))) = Rr), go_Go X (0, 0) rs [(0, .ref ru), (1, .ref (ra q)), (2, .int u), (3, .int z), (4, .int (nI r))] [] 3 := by
  intro n
  induction n with
  | zero => intro r hin hi hR; omega
  | succ n ih =>
    intro r hin hi hR
    refine go_iload C dX3_hasExchanged_3 4 rfl ?_
    refine go_aload_n C dX3_hasExchanged_5 0 rfl rfl ?_
    refine go_get C (v := .int (nI nr)) fl_X3_22 dX3_hasExchanged_6 p0 hp0 rfl ?_
    refine go_icmp_geN (a := r) (b := nr) C 57 dX3_hasExchanged_9 (by decide) (by omega) (by omega) (fun c_9 => ?_) (fun c_9 => ?_)
    · refine go_iconst C (0) dX3_hasExchanged_57 (by decide) ?_
      refine go_se [.int (go_b (false))] rfl ?_
      exact go_zret C E dX3_hasExchanged_58 (go_bn _) (by rw [← hR]; first | contradiction | rfl | (simp [pc_hX, *]; done) | (rw [decide_eq_true (by omega)]; done) | (rw [decide_eq_false (by omega)]; done) | (simp_all [pc_hX]; done) | (simp [pc_hX]; omega) | (simp_all [pc_hX]; omega) | omega) rfl
    · refine go_aload_n C dX3_hasExchanged_12 0 rfl rfl ?_
      refine go_iload C dX3_hasExchanged_13 4 rfl ?_
      refine go_cV C (c_X3_at G rs p0 p1 ru rows nth nr ra r hp0 hp1 (by omega) (by omega)) ml_X3_29 mc_X3_at dX3_hasExchanged_15 [] rfl rfl p0 hp0 rfl rfl ⟨Nat.le_of_ble_eq_true rfl, Nat.le_of_ble_eq_true rfl, Nat.zero_le _, Nat.zero_le _, Nat.le_of_ble_eq_true rfl⟩ [.ref (ra r)] rfl ?_
      refine go_astore C [(0, .ref ru), (1, .ref (ra q)), (2, .int u), (3, .int z), (4, .int (nI r)), (5, .ref (ra r))] dX3_hasExchanged_18 [1, 2, 3, 4, 5, 0] (by decide) rfl ?_
      refine go_aload C dX3_hasExchanged_20 5 rfl ?_
      refine go_cV C (c_X7_length G rs (pr r) (ra r) (wa r) (ln r) (hrow r (by omega)) ) ml_X3_37 mc_X7_length dX3_hasExchanged_22 [] rfl rfl (pr r) (hrow r (by omega)) rfl rfl ⟨Nat.le_of_ble_eq_true rfl, Nat.le_of_ble_eq_true rfl, Nat.zero_le _, Nat.zero_le _, Nat.le_of_ble_eq_true rfl⟩ [.int (nI ((ln r)))] rfl ?_
      refine go_aload_n C dX3_hasExchanged_25 1 rfl rfl ?_
      refine go_cV C (c_X7_length G rs (pr q) (ra q) (wa q) (ln q) (hrow q (by omega)) ) ml_X3_37 mc_X7_length dX3_hasExchanged_26 [.int (nI ((ln r)))] rfl rfl (pr q) (hrow q (by omega)) rfl rfl ⟨Nat.le_of_ble_eq_true rfl, Nat.le_of_ble_eq_true rfl, Nat.zero_le _, Nat.zero_le _, Nat.le_of_ble_eq_true rfl⟩ [.int (nI ((ln q))), .int (nI ((ln r)))] rfl ?_
      refine go_icmp_neN (a := (ln r)) (b := (ln q)) C 51 dX3_hasExchanged_29 (by decide) (by have := hln r (by omega); omega) (by have := hln q (by omega); omega) (fun c_29 => ?_) (fun c_29 => ?_)
      · refine go_iinc C (nI (r + 1)) [(0, .ref ru), (1, .ref (ra q)), (2, .int u), (3, .int z), (4, .int (nI (r + 1))), (5, .ref (ra r))] dX3_hasExchanged_51 4 [1, 2, 3, 4, 0, 5] rfl (nI_add r 1) (by decide) rfl ?_
        refine go_goto C 3 dX3_hasExchanged_54 (by decide) ?_
        refine go_lv [(0, .ref ru), (1, .ref (ra q)), (2, .int u), (3, .int z), (4, .int (nI (r + 1)))] [0, 1, 2, 3, 4] rfl ?_
        exact ih (r + 1) (by omega) (by omega) (by rw [← hR]; first | contradiction | rfl | (simp [pc_hX, *]; done) | (rw [decide_eq_true (by omega)]; done) | (rw [decide_eq_false (by omega)]; done) | (simp_all [pc_hX]; done) | (simp [pc_hX]; omega) | (simp_all [pc_hX]; omega) | omega)
      · refine go_aload_n C dX3_hasExchanged_32 1 rfl rfl ?_
        refine go_iconst C (0) dX3_hasExchanged_33 (by decide) ?_
        refine go_aload_n C dX3_hasExchanged_34 1 rfl rfl ?_
        refine go_cV C (c_X7_length G rs (pr q) (ra q) (wa q) (ln q) (hrow q (by omega)) ) ml_X3_37 mc_X7_length dX3_hasExchanged_35 [.int 0, .ref (ra q)] rfl rfl (pr q) (hrow q (by omega)) rfl rfl ⟨Nat.le_of_ble_eq_true rfl, Nat.le_of_ble_eq_true rfl, Nat.zero_le _, Nat.zero_le _, Nat.le_of_ble_eq_true rfl⟩ [.int (nI ((ln q))), .int 0, .ref (ra q)] rfl ?_
        refine go_aload C dX3_hasExchanged_38 5 rfl ?_
        refine go_iconst C (0) dX3_hasExchanged_40 (by decide) ?_
        refine go_iload_n C dX3_hasExchanged_41 2 rfl rfl ?_
        refine go_iload_n C dX3_hasExchanged_42 3 rfl rfl ?_
        refine go_cV C (c_X7_turnsInto G rs (pr q) (pw q) (pr r) (pw r) (ra q) (wa q) (ln q) (F q) (ra r) (wa r) (ln r) (F r) 0 (ln q) 0 u z (hrow q (by omega)) (hwd q (by omega)) (hrow r (by omega)) (hwd r (by omega)) (hln q (by omega)) (hln r (by omega)) (by omega) (by omega) (by have := hln q (by omega); omega)) ml_X3_55 mc_X7_turnsInto dX3_hasExchanged_43 [] rfl rfl (pr q) (hrow q (by omega)) rfl rfl ⟨Nat.le_of_ble_eq_true rfl, Nat.le_of_ble_eq_true rfl, Nat.zero_le _, Nat.zero_le _, Nat.le_of_ble_eq_true rfl⟩ [.int (go_b (pc_ti (pc_at (ln q) (F q)) (pc_at (ln r) (F r)) (ln q) 0 0 u z ((ln q) + 1) 0))] rfl ?_
        refine go_if_eqB C 51 dX3_hasExchanged_46 (by decide) (fun c_46 => ?_) (fun c_46 => ?_)
        · refine go_iinc C (nI (r + 1)) [(0, .ref ru), (1, .ref (ra q)), (2, .int u), (3, .int z), (4, .int (nI (r + 1))), (5, .ref (ra r))] dX3_hasExchanged_51 4 [1, 2, 3, 4, 0, 5] rfl (nI_add r 1) (by decide) rfl ?_
          refine go_goto C 3 dX3_hasExchanged_54 (by decide) ?_
          refine go_lv [(0, .ref ru), (1, .ref (ra q)), (2, .int u), (3, .int z), (4, .int (nI (r + 1)))] [0, 1, 2, 3, 4] rfl ?_
          exact ih (r + 1) (by omega) (by omega) (by rw [← hR]; first | contradiction | rfl | (simp [pc_hX, *]; done) | (rw [decide_eq_true (by omega)]; done) | (rw [decide_eq_false (by omega)]; done) | (simp_all [pc_hX]; done) | (simp [pc_hX]; omega) | (simp_all [pc_hX]; omega) | omega)
        · refine go_iconst C (1) dX3_hasExchanged_49 (by decide) ?_
          refine go_se [.int (go_b (true))] rfl ?_
          exact go_zret C E dX3_hasExchanged_50 (go_bn _) (by rw [← hR]; first | contradiction | rfl | (simp [pc_hX, *]; done) | (rw [decide_eq_true (by omega)]; done) | (rw [decide_eq_false (by omega)]; done) | (simp_all [pc_hX]; done) | (simp [pc_hX]; omega) | (simp_all [pc_hX]; omega) | omega) rfl
set_option maxHeartbeats 4000000 in
set_option maxRecDepth 100000 in
theorem c_X3_hasExchanged (G : go_G) (rs : va_W) (p0 : Nat) (p1 : Nat) (ru : Nat) (rows : Nat) (nth : Nat) (nr : Nat) (ra : Nat → Nat) (wa : Nat → Nat) (ln : Nat → Nat) (F : Nat → Nat → Int32) (pr : Nat → Nat) (pw : Nat → Nat) (q : Nat) (u : Int32) (z : Int32) (hp0 : rs[p0]? = some (ru, .inr (3, [.ref rows, .ref nth, .int (nI nr)]))) (hp1 : rs[p1]? = some (rows, .inl (G.2.2, 12, .inr (.inr (.inr (.inr (fun r => some (ra r)))))))) (hrow : ∀ r, r < 12 → rs[pr r]? = some (ra r, .inr (6, [.ref (wa r), .int (nI (ln r))]))) (hwd : ∀ r, r < 12 → rs[pw r]? = some (wa r, .inl (G.2.1, 32, .inl (F r)))) (hln : ∀ r, r < 12 → ln r ≤ 32) (hnr : nr ≤ 12) (hq : q < nr) : go_Fn yX3_hasExchanged cX3_hasExchanged 6 (some .boolean) 3 71 G [.ref ru, .ref (ra q), .int u, .int z] rs (some (.int (go_b (pc_hX nr ln F q u z (nr + 1) 0)))) rs := by
  refine go_Fn_of (by decide) (Nat.le_of_ble_eq_true rfl) (fun X C E => ?_)
  show go_Go X (0, 0) rs [(0, .ref ru), (1, .ref (ra q)), (2, .int u), (3, .int z)] [] 0
  refine go_iconst C (0) dX3_hasExchanged_0 (by decide) ?_
  refine go_istore C [(0, .ref ru), (1, .ref (ra q)), (2, .int u), (3, .int z), (4, .int 0)] dX3_hasExchanged_1 [1, 2, 3, 4, 0] (by decide) rfl ?_
  exact l_X3_hasExchanged_3 G rs p0 p1 ru rows nth nr ra wa ln F pr pw q u z hp0 hp1 hrow hwd hln hnr hq  C E (nr + 1) 0 (by omega) (by omega) rfl
set_option maxHeartbeats 4000000 in
set_option maxRecDepth 100000 in
theorem l_X3_bearExchange_2 {X : go_X} (G : go_G) (rs : va_W) (p0 : Nat) (p1 : Nat) (ru : Nat) (rows : Nat) (nth : Nat) (nr : Nat) (ra : Nat → Nat) (wa : Nat → Nat) (ln : Nat → Nat) (F : Nat → Nat → Int32) (pr : Nat → Nat) (pw : Nat → Nat) (u : Int32) (z : Int32) (hp0 : rs[p0]? = some (ru, .inr (3, [.ref rows, .ref nth, .int (nI nr)]))) (hp1 : rs[p1]? = some (rows, .inl (G.2.2, 12, .inr (.inr (.inr (.inr (fun r => some (ra r)))))))) (hrow : ∀ r, r < 12 → rs[pr r]? = some (ra r, .inr (6, [.ref (wa r), .int (nI (ln r))]))) (hwd : ∀ r, r < 12 → rs[pw r]? = some (wa r, .inl (G.2.1, 32, .inl (F r)))) (hln : ∀ r, r < 12 → ln r ≤ 32) (hnr : nr ≤ 12) {Rr : Option Value}  (C : go_Cx X cX3_bearExchange RX3 (some .boolean) 4 4 96 0 0 G) (E : go_Ex X Rr rs)  : ∀ (n : Nat) (r : Nat) (hin : nr < r + n) (hi : r ≤ nr) (hR : some (.int (go_b (pc_bX nr ln F u z n r))) = Rr), go_Go X (0, 0) rs [(0, .ref ru), (1, .int u), (2, .int z), (3, .int (nI r))] [] 2 := by
  intro n
  induction n with
  | zero => intro r hin hi hR; omega
  | succ n ih =>
    intro r hin hi hR
    refine go_iload_n C dX3_bearExchange_2 3 rfl rfl ?_
    refine go_aload_n C dX3_bearExchange_3 0 rfl rfl ?_
    refine go_get C (v := .int (nI nr)) fl_X3_22 dX3_bearExchange_4 p0 hp0 rfl ?_
    refine go_icmp_geN (a := r) (b := nr) C 32 dX3_bearExchange_7 (by decide) (by omega) (by omega) (fun c_7 => ?_) (fun c_7 => ?_)
    · refine go_iconst C (1) dX3_bearExchange_32 (by decide) ?_
      refine go_se [.int (go_b (true))] rfl ?_
      exact go_zret C E dX3_bearExchange_33 (go_bn _) (by rw [← hR]; first | contradiction | rfl | (simp [pc_bX, *]; done) | (rw [decide_eq_true (by omega)]; done) | (rw [decide_eq_false (by omega)]; done) | (simp_all [pc_bX]; done) | (simp [pc_bX]; omega) | (simp_all [pc_bX]; omega) | omega) rfl
    · refine go_aload_n C dX3_bearExchange_10 0 rfl rfl ?_
      refine go_aload_n C dX3_bearExchange_11 0 rfl rfl ?_
      refine go_iload_n C dX3_bearExchange_12 3 rfl rfl ?_
      refine go_cV C (c_X3_at G rs p0 p1 ru rows nth nr ra r hp0 hp1 (by omega) (by omega)) ml_X3_29 mc_X3_at dX3_bearExchange_13 [.ref ru] rfl rfl p0 hp0 rfl rfl ⟨Nat.le_of_ble_eq_true rfl, Nat.le_of_ble_eq_true rfl, Nat.zero_le _, Nat.zero_le _, Nat.le_of_ble_eq_true rfl⟩ [.ref (ra r), .ref ru] rfl ?_
      refine go_iload_n C dX3_bearExchange_16 1 rfl rfl ?_
      refine go_iload_n C dX3_bearExchange_17 2 rfl rfl ?_
      refine go_cV C (c_X3_hasExchanged G rs p0 p1 ru rows nth nr ra wa ln F pr pw r u z hp0 hp1 hrow hwd hln hnr (by omega)) ml_X3_51 mc_X3_hasExchanged dX3_bearExchange_18 [] rfl rfl p0 hp0 rfl rfl ⟨Nat.le_of_ble_eq_true rfl, Nat.le_of_ble_eq_true rfl, Nat.zero_le _, Nat.zero_le _, Nat.le_of_ble_eq_true rfl⟩ [.int (go_b (pc_hX nr ln F r u z (nr + 1) 0))] rfl ?_
      refine go_if_neB C 26 dX3_bearExchange_21 (by decide) (fun c_21 => ?_) (fun c_21 => ?_)
      · refine go_iinc C (nI (r + 1)) [(0, .ref ru), (1, .int u), (2, .int z), (3, .int (nI (r + 1)))] dX3_bearExchange_26 3 [1, 2, 3, 0] rfl (nI_add r 1) (by decide) rfl ?_
        refine go_goto C 2 dX3_bearExchange_29 (by decide) ?_
        exact ih (r + 1) (by omega) (by omega) (by rw [← hR]; first | contradiction | rfl | (simp [pc_bX, *]; done) | (rw [decide_eq_true (by omega)]; done) | (rw [decide_eq_false (by omega)]; done) | (simp_all [pc_bX]; done) | (simp [pc_bX]; omega) | (simp_all [pc_bX]; omega) | omega)
      · refine go_iconst C (0) dX3_bearExchange_24 (by decide) ?_
        refine go_se [.int (go_b (false))] rfl ?_
        exact go_zret C E dX3_bearExchange_25 (go_bn _) (by rw [← hR]; first | contradiction | rfl | (simp [pc_bX, *]; done) | (rw [decide_eq_true (by omega)]; done) | (rw [decide_eq_false (by omega)]; done) | (simp_all [pc_bX]; done) | (simp [pc_bX]; omega) | (simp_all [pc_bX]; omega) | omega) rfl
set_option maxHeartbeats 4000000 in
set_option maxRecDepth 100000 in
theorem c_X3_bearExchange (G : go_G) (rs : va_W) (p0 : Nat) (p1 : Nat) (ru : Nat) (rows : Nat) (nth : Nat) (nr : Nat) (ra : Nat → Nat) (wa : Nat → Nat) (ln : Nat → Nat) (F : Nat → Nat → Int32) (pr : Nat → Nat) (pw : Nat → Nat) (u : Int32) (z : Int32) (hp0 : rs[p0]? = some (ru, .inr (3, [.ref rows, .ref nth, .int (nI nr)]))) (hp1 : rs[p1]? = some (rows, .inl (G.2.2, 12, .inr (.inr (.inr (.inr (fun r => some (ra r)))))))) (hrow : ∀ r, r < 12 → rs[pr r]? = some (ra r, .inr (6, [.ref (wa r), .int (nI (ln r))]))) (hwd : ∀ r, r < 12 → rs[pw r]? = some (wa r, .inl (G.2.1, 32, .inl (F r)))) (hln : ∀ r, r < 12 → ln r ≤ 32) (hnr : nr ≤ 12) : go_Fn yX3_bearExchange cX3_bearExchange 4 (some .boolean) 4 96 G [.ref ru, .int u, .int z] rs (some (.int (go_b (pc_bX nr ln F u z (nr + 1) 0)))) rs := by
  refine go_Fn_of (by decide) (Nat.le_of_ble_eq_true rfl) (fun X C E => ?_)
  show go_Go X (0, 0) rs [(0, .ref ru), (1, .int u), (2, .int z)] [] 0
  refine go_iconst C (0) dX3_bearExchange_0 (by decide) ?_
  refine go_istore_n C [(0, .ref ru), (1, .int u), (2, .int z), (3, .int 0)] dX3_bearExchange_1 [1, 2, 3, 0] rfl (by decide) rfl ?_
  exact l_X3_bearExchange_2 G rs p0 p1 ru rows nth nr ra wa ln F pr pw u z hp0 hp1 hrow hwd hln hnr  C E (nr + 1) 0 (by omega) (by omega) rfl
end
section
set_option maxHeartbeats 4000000 in
set_option maxRecDepth 100000 in
theorem l_J7_fill_53178_5 {X : go_X} (G : go_G) (rs : va_W)  (a : Nat) (N : Nat) (f : Nat → Int32) (x : Int32)  (hN : N < 2 ^ 30) {Rr : Option Value}  (C : go_Cx X cJ7_fill_53178 RJ7 none 4 0 0 0 0 G) (E : go_Ex X Rr ((a, .inl (G.2.1, N, .inl (pc_fill N x f))) :: rs)) (K : go_Go X (0, 0) ((a, .inl (G.2.1, N, .inl (pc_fill N x f))) :: rs) [(0, .ref a), (1, .int x)] [] 20) : ∀ (n : Nat) (i : Nat) (hin : N < i + n) (hi : i ≤ N), go_Go X (0, 0) ((a, .inl (G.2.1, N, .inl (pc_fill i x f))) :: rs) [(0, .ref a), (1, .int x), (2, .int (nI i)), (3, .int (nI N))] [] 5 := by
  intro n
  induction n with
  | zero => intro i hin hi; omega
  | succ n ih =>
    intro i hin hi
    refine go_iload_n C dJ7_fill_53178_5 2 rfl rfl ?_
    refine go_iload_n C dJ7_fill_53178_6 3 rfl rfl ?_
    refine go_icmp_geN (a := i) (b := N) C 20 dJ7_fill_53178_7 (by decide) (by omega) (by omega) (fun c_7 => ?_) (fun c_7 => ?_)
    · refine go_lv [(0, .ref a), (1, .int x)] [0, 1] rfl ?_
      refine go_we ((a, .inl (G.2.1, N, .inl (pc_fill N x f))) :: rs) (by rw [show i = N by omega]) ?_
      exact K
    · refine go_aload_n C dJ7_fill_53178_10 0 rfl rfl ?_
      refine go_iload_n C dJ7_fill_53178_11 2 rfl rfl ?_
      refine go_iload_n C dJ7_fill_53178_12 1 rfl rfl ?_
      refine go_iast C dJ7_fill_53178_13 0 rfl (i) rfl (by omega) (by omega) ((a, .inl (G.2.1, N, .inl (upd (pc_fill i x f) i x))) :: rs) rfl ?_
      refine go_we ((a, .inl (G.2.1, N, .inl (pc_fill (i + 1) x f))) :: rs) (by rw [pc_fill_s]) ?_
      refine go_iinc C (nI (i + 1)) [(0, .ref a), (1, .int x), (2, .int (nI (i + 1))), (3, .int (nI N))] dJ7_fill_53178_14 2 [1, 2, 0, 3] rfl (nI_add i 1) (by decide) rfl ?_
      refine go_goto C 5 dJ7_fill_53178_17 (by decide) ?_
      exact ih (i + 1) (by omega) (by omega)
set_option maxHeartbeats 4000000 in
set_option maxRecDepth 100000 in
theorem c_J7_fill_53178 (G : go_G) (rs : va_W)  (a : Nat) (N : Nat) (f : Nat → Int32) (x : Int32)  (hN : N < 2 ^ 30) : go_Fn yJ7_fill_53178 cJ7_fill_53178 4 none 0 0 G [.ref a, .int x] ((a, .inl (G.2.1, N, .inl f)) :: rs) (none) ((a, .inl (G.2.1, N, .inl (pc_fill N x f))) :: rs) := by
  refine go_Fn_of (by decide) (Nat.le_of_ble_eq_true rfl) (fun X C E => ?_)
  show go_Go X (0, 0) ((a, .inl (G.2.1, N, .inl f)) :: rs) [(0, .ref a), (1, .int x)] [] 0
  refine go_iconst C (0) dJ7_fill_53178_0 (by decide) ?_
  refine go_istore_n C [(0, .ref a), (1, .int x), (2, .int 0)] dJ7_fill_53178_1 [1, 2, 0] rfl (by decide) rfl ?_
  refine go_aload_n C dJ7_fill_53178_2 0 rfl rfl ?_
  refine go_alen C dJ7_fill_53178_3 0 rfl ?_
  refine go_we ((a, .inl (G.2.1, N, .inl (pc_fill 0 x f))) :: rs) (by rw [pc_fill_0]) ?_
  refine go_istore_n C [(0, .ref a), (1, .int x), (2, .int 0), (3, .int (nI N))] dJ7_fill_53178_4 [1, 2, 3, 0] rfl (by decide) rfl ?_
  refine l_J7_fill_53178_5 G rs  a N f x  hN  C E ?_ (N + 1) 0 (by omega) (by omega)
  show go_Go X (0, 0) ((a, .inl (G.2.1, N, .inl (pc_fill N x f))) :: rs) [(0, .ref a), (1, .int x)] [] 20
  exact go_vret C E dJ7_fill_53178_20 rfl rfl
set_option maxHeartbeats 4000000 in
set_option maxRecDepth 100000 in
theorem c_X0_clear (G : go_G) (rs : va_W) (p0 : Nat) (bl : Nat) (nb : Nat) (Bf : Nat → Int32) (hp0 : rs[p0]? = some (bl, .inr (0, [.ref nb])))  : go_Fn yX0_clear cX0_clear 1 none 1 23 G [.ref bl] ((nb, .inl (G.2.1, 6, .inl Bf)) :: rs) (none) ((nb, .inl (G.2.1, 6, .inl (pc_fill 6 0 Bf))) :: rs) := by
  refine go_Fn_of (by decide) (Nat.le_of_ble_eq_true rfl) (fun X C E => ?_)
  show go_Go X (0, 0) ((nb, .inl (G.2.1, 6, .inl Bf)) :: rs) [(0, .ref bl)] [] 0
  refine go_aload_n C dX0_clear_0 0 rfl rfl ?_
  refine go_get C (v := .ref nb) fl_X0_9 dX0_clear_1 (p0 + 1) hp0 rfl ?_
  refine go_iconst C (0) dX0_clear_4 (by decide) ?_
  refine go_cS C (c_J7_fill_53178 G rs  nb 6 Bf 0  (by omega)) ml_X0_15 mc_J7_fill_53178 dX0_clear_5 [] rfl rfl rfl ⟨Nat.le_of_ble_eq_true rfl, Nat.le_of_ble_eq_true rfl, Nat.zero_le _, Nat.zero_le _, Nat.le_of_ble_eq_true rfl⟩ [] rfl ?_
  exact go_vret C E dX0_clear_8 rfl rfl
set_option maxHeartbeats 4000000 in
set_option maxRecDepth 100000 in
theorem c_X0_put (G : go_G) (rs : va_W) (p0 : Nat) (bl : Nat) (nb : Nat) (Bf : Nat → Int32) (v : Nat) (g : Int32) (hp0 : rs[p0]? = some (bl, .inr (0, [.ref nb]))) (hv : v < 6) : go_Fn yX0_put cX0_put 3 none 1 20 G [.ref bl, .int (nI v), .int g] ((nb, .inl (G.2.1, 6, .inl Bf)) :: rs) (none) ((nb, .inl (G.2.1, 6, .inl (upd Bf v g))) :: rs) := by
  refine go_Fn_of (by decide) (Nat.le_of_ble_eq_true rfl) (fun X C E => ?_)
  show go_Go X (0, 0) ((nb, .inl (G.2.1, 6, .inl Bf)) :: rs) [(0, .ref bl), (1, .int (nI v)), (2, .int g)] [] 0
  refine go_iload_n C dX0_put_0 1 rfl rfl ?_
  refine go_cN C (c_X8_isVariable G ((nb, .inl (G.2.1, 6, .inl Bf)) :: rs)  (nI v)  ) ml_X0_21 mc_X8_isVariable dX0_put_1 [] rfl rfl rfl ⟨Nat.le_of_ble_eq_true rfl, Nat.le_of_ble_eq_true rfl, Nat.zero_le _, Nat.zero_le _, Nat.le_of_ble_eq_true rfl⟩ [.int (go_b (true))] (by rw [pc_isV_t (by omega)]; rfl) ?_
  refine go_if_eqB C 14 dX0_put_4 (by decide) (fun c_4 => ?_) (fun c_4 => ?_)
  · cases c_4
  · refine go_aload_n C dX0_put_7 0 rfl rfl ?_
    refine go_get C (v := .ref nb) fl_X0_9 dX0_put_8 (p0 + 1) hp0 rfl ?_
    refine go_iload_n C dX0_put_11 1 rfl rfl ?_
    refine go_iload_n C dX0_put_12 2 rfl rfl ?_
    refine go_iast C dX0_put_13 0 rfl (v) rfl (by omega) (by decide) ((nb, .inl (G.2.1, 6, .inl (upd Bf v g))) :: rs) rfl ?_
    exact go_vret C E dX0_put_14 rfl rfl
set_option maxHeartbeats 4000000 in
set_option maxRecDepth 100000 in
theorem c_X0_join (G : go_G) (rs : va_W) (p0 : Nat) (p1 : Nat) (bl : Nat) (nb : Nat) (Bf : Nat → Int32) (a : Nat) (b : Nat) (hp0 : rs[p0]? = some (bl, .inr (0, [.ref nb]))) (hp1 : rs[p1]? = some (nb, .inl (G.2.1, 6, .inl Bf))) (ha : a < 6) (hb : b < 6) : go_Fn yX0_join cX0_join 3 (some .boolean) 1 20 G [.ref bl, .int (nI a), .int (nI b)] rs (some (.int (go_b (pc_jn Bf a b)))) rs := by
  refine go_Fn_of (by decide) (Nat.le_of_ble_eq_true rfl) (fun X C E => ?_)
  show go_Go X (0, 0) rs [(0, .ref bl), (1, .int (nI a)), (2, .int (nI b))] [] 0
  refine go_iload_n C dX0_join_0 1 rfl rfl ?_
  refine go_cN C (c_X8_isVariable G rs  (nI a)  ) ml_X0_21 mc_X8_isVariable dX0_join_1 [] rfl rfl rfl ⟨Nat.le_of_ble_eq_true rfl, Nat.le_of_ble_eq_true rfl, Nat.zero_le _, Nat.zero_le _, Nat.le_of_ble_eq_true rfl⟩ [.int (go_b (true))] (by rw [pc_isV_t (by omega)]; rfl) ?_
  refine go_if_eqB C 42 dX0_join_4 (by decide) (fun c_4 => ?_) (fun c_4 => ?_)
  · cases c_4
  · refine go_iload_n C dX0_join_7 2 rfl rfl ?_
    refine go_cN C (c_X8_isVariable G rs  (nI b)  ) ml_X0_21 mc_X8_isVariable dX0_join_8 [] rfl rfl rfl ⟨Nat.le_of_ble_eq_true rfl, Nat.le_of_ble_eq_true rfl, Nat.zero_le _, Nat.zero_le _, Nat.le_of_ble_eq_true rfl⟩ [.int (go_b (true))] (by rw [pc_isV_t (by omega)]; rfl) ?_
    refine go_if_eqB C 42 dX0_join_11 (by decide) (fun c_11 => ?_) (fun c_11 => ?_)
    · cases c_11
    · refine go_aload_n C dX0_join_14 0 rfl rfl ?_
      refine go_get C (v := .ref nb) fl_X0_9 dX0_join_15 p0 hp0 rfl ?_
      refine go_iload_n C dX0_join_18 1 rfl rfl ?_
      refine go_iald C dX0_join_19 p1 hp1 (a) rfl (by omega) (by decide) ?_
      refine go_if_eq C 42 dX0_join_20 (by decide) (fun c_20 => ?_) (fun c_20 => ?_)
      · refine go_iconst C (0) dX0_join_42 (by decide) ?_
        refine go_se [.int (go_b (false))] rfl ?_
        exact go_zret C E dX0_join_43 (go_bn _) (by first | contradiction | rfl | (simp [pc_jn, *]; done) | (rw [decide_eq_true (by omega)]; done) | (rw [decide_eq_false (by omega)]; done) | (simp_all [pc_jn]; done) | (simp [pc_jn]; omega) | (simp_all [pc_jn]; omega) | omega) rfl
      · refine go_aload_n C dX0_join_23 0 rfl rfl ?_
        refine go_get C (v := .ref nb) fl_X0_9 dX0_join_24 p0 hp0 rfl ?_
        refine go_iload_n C dX0_join_27 1 rfl rfl ?_
        refine go_iald C dX0_join_28 p1 hp1 (a) rfl (by omega) (by decide) ?_
        refine go_aload_n C dX0_join_29 0 rfl rfl ?_
        refine go_get C (v := .ref nb) fl_X0_9 dX0_join_30 p0 hp0 rfl ?_
        refine go_iload_n C dX0_join_33 2 rfl rfl ?_
        refine go_iald C dX0_join_34 p1 hp1 (b) rfl (by omega) (by decide) ?_
        refine go_icmp_ne C 42 dX0_join_35 (by decide) (fun c_35 => ?_) (fun c_35 => ?_)
        · refine go_iconst C (0) dX0_join_42 (by decide) ?_
          refine go_se [.int (go_b (false))] rfl ?_
          exact go_zret C E dX0_join_43 (go_bn _) (by first | contradiction | rfl | (simp [pc_jn, *]; done) | (rw [decide_eq_true (by omega)]; done) | (rw [decide_eq_false (by omega)]; done) | (simp_all [pc_jn]; done) | (simp [pc_jn]; omega) | (simp_all [pc_jn]; omega) | omega) rfl
        · refine go_iconst C (1) dX0_join_38 (by decide) ?_
          refine go_goto C 43 dX0_join_39 (by decide) ?_
          refine go_se [.int (go_b (true))] rfl ?_
          exact go_zret C E dX0_join_43 (go_bn _) (by first | contradiction | rfl | (simp [pc_jn, *]; done) | (rw [decide_eq_true (by omega)]; done) | (rw [decide_eq_false (by omega)]; done) | (simp_all [pc_jn]; done) | (simp [pc_jn]; omega) | (simp_all [pc_jn]; omega) | omega) rfl
set_option maxHeartbeats 4000000 in
set_option maxRecDepth 100000 in
theorem l_X0_toStandardForm_12 {X : go_X} (G : go_G) (rs : va_W) (p0 : Nat) (p1 : Nat) (bl : Nat) (nb : Nat) (Bf : Nat → Int32) (x : Nat) (s : Nat → Int32) (hp0 : rs[p0]? = some (bl, .inr (0, [.ref nb]))) (hp1 : rs[p1]? = some (nb, .inl (G.2.1, 6, .inl Bf)))  {Rr : Option Value} (a : Nat) (fi : Nat → Int32) (ha : a < 6) (C : go_Cx X cX0_toStandardForm RX0 none 5 2 42 0 0 G) (E : go_Ex X Rr ((x, .inl (G.2.1, 6, .inl (pc_sf Bf s))) :: rs)) (K : go_Go X (0, 0) ((x, .inl (G.2.1, 6, .inl fi)) :: rs) [(0, .ref bl), (1, .ref x), (2, .int (nI a))] [] 58) : ∀ (n : Nat) (b : Nat) (t : Nat → Int32) (hin : 6 < b + n) (hb : b ≤ 6) (hab : a < b) (hW : pc_si Bf a n b t = fi), go_Go X (0, 0) ((x, .inl (G.2.1, 6, .inl t)) :: rs) [(0, .ref bl), (1, .ref x), (2, .int (nI a)), (3, .int (nI b))] [] 12 := by
  intro n
  induction n with
  | zero => intro b t hin hb hab hW; omega
  | succ n ih =>
    intro b t hin hb hab hW
    refine go_iload_n C dX0_toStandardForm_12 3 rfl rfl ?_
    refine go_bipush C (6) dX0_toStandardForm_13 (by decide) ?_
    refine go_icmp_geN (a := b) (b := 6) C 58 dX0_toStandardForm_15 (by decide) (by omega) (by omega) (fun c_15 => ?_) (fun c_15 => ?_)
    · refine go_lv [(0, .ref bl), (1, .ref x), (2, .int (nI a))] [0, 1, 2] rfl ?_
      refine go_we ((x, .inl (G.2.1, 6, .inl fi)) :: rs) (by rw [← hW]; simp [pc_si, *]) ?_
      exact K
    · refine go_aload_n C dX0_toStandardForm_18 0 rfl rfl ?_
      refine go_iload_n C dX0_toStandardForm_19 2 rfl rfl ?_
      refine go_iload_n C dX0_toStandardForm_20 3 rfl rfl ?_
      refine go_cV C (c_X0_join G ((x, .inl (G.2.1, 6, .inl t)) :: rs) (p0 + 1) (p1 + 1) bl nb Bf a b hp0 hp1 (by omega) (by omega)) ml_X0_25 mc_X0_join dX0_toStandardForm_21 [] rfl rfl (p0 + 1) hp0 rfl rfl ⟨Nat.le_of_ble_eq_true rfl, Nat.le_of_ble_eq_true rfl, Nat.zero_le _, Nat.zero_le _, Nat.le_of_ble_eq_true rfl⟩ [.int (go_b (pc_jn Bf a b))] rfl ?_
      refine go_if_eqB C 52 dX0_toStandardForm_24 (by decide) (fun c_24 => ?_) (fun c_24 => ?_)
      · refine go_iinc C (nI (b + 1)) [(0, .ref bl), (1, .ref x), (2, .int (nI a)), (3, .int (nI (b + 1)))] dX0_toStandardForm_52 3 [1, 2, 3, 0] rfl (nI_add b 1) (by decide) rfl ?_
        refine go_goto C 12 dX0_toStandardForm_55 (by decide) ?_
        exact ih (b + 1) t (by omega) (by omega) (by omega) (by rw [← hW]; first | contradiction | rfl | (simp [pc_si, pc_sw, *]; done) | (rw [decide_eq_true (by omega)]; done) | (rw [decide_eq_false (by omega)]; done) | (simp_all [pc_si, pc_sw]; done) | (simp [pc_si, pc_sw]; omega) | (simp_all [pc_si, pc_sw]; omega) | omega)
      · refine go_aload_n C dX0_toStandardForm_27 1 rfl rfl ?_
        refine go_iload_n C dX0_toStandardForm_28 2 rfl rfl ?_
        refine go_iald C dX0_toStandardForm_29 0 rfl (a) rfl (by omega) (by decide) ?_
        refine go_aload_n C dX0_toStandardForm_30 1 rfl rfl ?_
        refine go_iload_n C dX0_toStandardForm_31 3 rfl rfl ?_
        refine go_iald C dX0_toStandardForm_32 0 rfl (b) rfl (by omega) (by decide) ?_
        refine go_icmp_le C 52 dX0_toStandardForm_33 (by decide) (fun c_33 => ?_) (fun c_33 => ?_)
        · refine go_iinc C (nI (b + 1)) [(0, .ref bl), (1, .ref x), (2, .int (nI a)), (3, .int (nI (b + 1)))] dX0_toStandardForm_52 3 [1, 2, 3, 0] rfl (nI_add b 1) (by decide) rfl ?_
          refine go_goto C 12 dX0_toStandardForm_55 (by decide) ?_
          exact ih (b + 1) t (by omega) (by omega) (by omega) (by rw [← hW]; first | contradiction | rfl | (simp [pc_si, pc_sw, *]; done) | (rw [decide_eq_true (by omega)]; done) | (rw [decide_eq_false (by omega)]; done) | (simp_all [pc_si, pc_sw]; done) | (simp [pc_si, pc_sw]; omega) | (simp_all [pc_si, pc_sw]; omega) | omega)
        · refine go_aload_n C dX0_toStandardForm_36 1 rfl rfl ?_
          refine go_iload_n C dX0_toStandardForm_37 2 rfl rfl ?_
          refine go_iald C dX0_toStandardForm_38 0 rfl (a) rfl (by omega) (by decide) ?_
          refine go_istore C [(0, .ref bl), (1, .ref x), (2, .int (nI a)), (3, .int (nI b)), (4, .int (t a))] dX0_toStandardForm_39 [1, 2, 3, 4, 0] (by decide) rfl ?_
          refine go_aload_n C dX0_toStandardForm_41 1 rfl rfl ?_
          refine go_iload_n C dX0_toStandardForm_42 2 rfl rfl ?_
          refine go_aload_n C dX0_toStandardForm_43 1 rfl rfl ?_
          refine go_iload_n C dX0_toStandardForm_44 3 rfl rfl ?_
          refine go_iald C dX0_toStandardForm_45 0 rfl (b) rfl (by omega) (by decide) ?_
          refine go_iast C dX0_toStandardForm_46 0 rfl (a) rfl (by omega) (by decide) ((x, .inl (G.2.1, 6, .inl (upd t a (t b)))) :: rs) rfl ?_
          refine go_aload_n C dX0_toStandardForm_47 1 rfl rfl ?_
          refine go_iload_n C dX0_toStandardForm_48 3 rfl rfl ?_
          refine go_iload C dX0_toStandardForm_49 4 rfl ?_
          refine go_iast C dX0_toStandardForm_51 0 rfl (b) rfl (by omega) (by decide) ((x, .inl (G.2.1, 6, .inl (upd (upd t a (t b)) b (t a)))) :: rs) rfl ?_
          refine go_iinc C (nI (b + 1)) [(0, .ref bl), (1, .ref x), (2, .int (nI a)), (3, .int (nI (b + 1))), (4, .int (t a))] dX0_toStandardForm_52 3 [1, 2, 3, 0, 4] rfl (nI_add b 1) (by decide) rfl ?_
          refine go_goto C 12 dX0_toStandardForm_55 (by decide) ?_
          refine go_lv [(0, .ref bl), (1, .ref x), (2, .int (nI a)), (3, .int (nI (b + 1)))] [0, 1, 2, 3] rfl ?_
          exact ih (b + 1) (upd (upd t a (t b)) b (t a)) (by omega) (by omega) (by omega) (by rw [← hW]; first | contradiction | rfl | (simp [pc_si, pc_sw, *]; done) | (rw [decide_eq_true (by omega)]; done) | (rw [decide_eq_false (by omega)]; done) | (simp_all [pc_si, pc_sw]; done) | (simp [pc_si, pc_sw]; omega) | (simp_all [pc_si, pc_sw]; omega) | omega)
set_option maxHeartbeats 4000000 in
set_option maxRecDepth 100000 in
theorem l_X0_toStandardForm_2 {X : go_X} (G : go_G) (rs : va_W) (p0 : Nat) (p1 : Nat) (bl : Nat) (nb : Nat) (Bf : Nat → Int32) (x : Nat) (s : Nat → Int32) (hp0 : rs[p0]? = some (bl, .inr (0, [.ref nb]))) (hp1 : rs[p1]? = some (nb, .inl (G.2.1, 6, .inl Bf)))  {Rr : Option Value}  (C : go_Cx X cX0_toStandardForm RX0 none 5 2 42 0 0 G) (E : go_Ex X Rr ((x, .inl (G.2.1, 6, .inl (pc_sf Bf s))) :: rs)) (K : go_Go X (0, 0) ((x, .inl (G.2.1, 6, .inl (pc_sf Bf s))) :: rs) [(0, .ref bl), (1, .ref x)] [] 64) : ∀ (n : Nat) (a : Nat) (t : Nat → Int32) (hin : 6 < a + n) (ha : a ≤ 6) (hW : pc_so Bf n a t = pc_sf Bf s), go_Go X (0, 0) ((x, .inl (G.2.1, 6, .inl t)) :: rs) [(0, .ref bl), (1, .ref x), (2, .int (nI a))] [] 2 := by
  intro n
  induction n with
  | zero => intro a t hin ha hW; omega
  | succ n ih =>
    intro a t hin ha hW
    refine go_iload_n C dX0_toStandardForm_2 2 rfl rfl ?_
    refine go_bipush C (6) dX0_toStandardForm_3 (by decide) ?_
    refine go_icmp_geN (a := a) (b := 6) C 64 dX0_toStandardForm_5 (by decide) (by omega) (by omega) (fun c_5 => ?_) (fun c_5 => ?_)
    · refine go_lv [(0, .ref bl), (1, .ref x)] [0, 1] rfl ?_
      refine go_we ((x, .inl (G.2.1, 6, .inl (pc_sf Bf s))) :: rs) (by rw [← hW]; simp [pc_so, *]) ?_
      exact K
    · refine go_iload_n C dX0_toStandardForm_8 2 rfl rfl ?_
      refine go_iconst C (1) dX0_toStandardForm_9 (by decide) ?_
      refine go_iadd C (z := nI (a + 1)) dX0_toStandardForm_10 (nI_add a 1) ?_
      refine go_istore_n C [(0, .ref bl), (1, .ref x), (2, .int (nI a)), (3, .int (nI (a + 1)))] dX0_toStandardForm_11 [1, 2, 3, 0] rfl (by decide) rfl ?_
      refine l_X0_toStandardForm_12 G rs p0 p1 bl nb Bf x s hp0 hp1  a (pc_si Bf a 7 (a + 1) t) (by omega) C E ?_ 7 (a + 1) t (by omega) (by omega) (by omega) rfl
      show go_Go X (0, 0) ((x, .inl (G.2.1, 6, .inl (pc_si Bf a 7 (a + 1) t))) :: rs) [(0, .ref bl), (1, .ref x), (2, .int (nI a))] [] 58
      refine go_iinc C (nI (a + 1)) [(0, .ref bl), (1, .ref x), (2, .int (nI (a + 1)))] dX0_toStandardForm_58 2 [1, 2, 0] rfl (nI_add a 1) (by decide) rfl ?_
      refine go_goto C 2 dX0_toStandardForm_61 (by decide) ?_
      exact ih (a + 1) (pc_si Bf a 7 (a + 1) t) (by omega) (by omega) (by rw [← hW]; first | contradiction | rfl | (simp [pc_so, *]; done) | (rw [decide_eq_true (by omega)]; done) | (rw [decide_eq_false (by omega)]; done) | (simp_all [pc_so]; done) | (simp [pc_so]; omega) | (simp_all [pc_so]; omega) | omega)
set_option maxHeartbeats 4000000 in
set_option maxRecDepth 100000 in
theorem c_X0_toStandardForm (G : go_G) (rs : va_W) (p0 : Nat) (p1 : Nat) (bl : Nat) (nb : Nat) (Bf : Nat → Int32) (x : Nat) (s : Nat → Int32) (hp0 : rs[p0]? = some (bl, .inr (0, [.ref nb]))) (hp1 : rs[p1]? = some (nb, .inl (G.2.1, 6, .inl Bf)))  : go_Fn yX0_toStandardForm cX0_toStandardForm 5 none 2 42 G [.ref bl, .ref x] ((x, .inl (G.2.1, 6, .inl s)) :: rs) (none) ((x, .inl (G.2.1, 6, .inl (pc_sf Bf s))) :: rs) := by
  refine go_Fn_of (by decide) (Nat.le_of_ble_eq_true rfl) (fun X C E => ?_)
  show go_Go X (0, 0) ((x, .inl (G.2.1, 6, .inl s)) :: rs) [(0, .ref bl), (1, .ref x)] [] 0
  refine go_iconst C (0) dX0_toStandardForm_0 (by decide) ?_
  refine go_istore_n C [(0, .ref bl), (1, .ref x), (2, .int 0)] dX0_toStandardForm_1 [1, 2, 0] rfl (by decide) rfl ?_
  refine l_X0_toStandardForm_2 G rs p0 p1 bl nb Bf x s hp0 hp1   C E ?_ 7 0 s (by omega) (by omega) rfl
  show go_Go X (0, 0) ((x, .inl (G.2.1, 6, .inl (pc_sf Bf s))) :: rs) [(0, .ref bl), (1, .ref x)] [] 64
  exact go_vret C E dX0_toStandardForm_64 rfl rfl
set_option maxHeartbeats 4000000 in
set_option maxRecDepth 100000 in
theorem c_X2_push (G : go_G) (rs : va_W)  (ma : Nat) (sk : Nat) (h : Nat) (st : Nat → Int32) (x : Int32)  (hh : h < 8) : go_Fn yX2_push cX2_push 2 none 0 0 G [.ref ma, .int x] ((ma, .inr (2, [.ref sk, .int (nI h)])) :: (sk, .inl (G.2.1, 8, .inl st)) :: rs) (none) ((ma, .inr (2, [.ref sk, .int (nI (h + 1))])) :: (sk, .inl (G.2.1, 8, .inl (upd st h x))) :: rs) := by
  refine go_Fn_of (by decide) (Nat.le_of_ble_eq_true rfl) (fun X C E => ?_)
  show go_Go X (0, 0) ((ma, .inr (2, [.ref sk, .int (nI h)])) :: (sk, .inl (G.2.1, 8, .inl st)) :: rs) [(0, .ref ma), (1, .int x)] [] 0
  refine go_aload_n C dX2_push_0 0 rfl rfl ?_
  refine go_get C (v := .int (nI h)) fl_X2_47 dX2_push_1 0 rfl rfl ?_
  refine go_if_ltN C 36 dX2_push_4 (by decide) (by omega) ?_
  refine go_aload_n C dX2_push_7 0 rfl rfl ?_
  refine go_get C (v := .int (nI h)) fl_X2_47 dX2_push_8 0 rfl rfl ?_
  refine go_bipush C (8) dX2_push_11 (by decide) ?_
  refine go_icmp_geN (a := h) (b := 8) C 36 dX2_push_13 (by decide) (by omega) (by omega) (fun c_13 => ?_) (fun c_13 => ?_)
  · omega
  · refine go_aload_n C dX2_push_16 0 rfl rfl ?_
    refine go_get C (v := .ref sk) fl_X2_9 dX2_push_17 0 rfl rfl ?_
    refine go_aload_n C dX2_push_20 0 rfl rfl ?_
    refine go_get C (v := .int (nI h)) fl_X2_47 dX2_push_21 0 rfl rfl ?_
    refine go_iload_n C dX2_push_24 1 rfl rfl ?_
    refine go_iast C dX2_push_25 1 rfl (h) rfl (by omega) (by decide) ((ma, .inr (2, [.ref sk, .int (nI h)])) :: (sk, .inl (G.2.1, 8, .inl (upd st h x))) :: rs) rfl ?_
    refine go_aload_n C dX2_push_26 0 rfl rfl ?_
    refine go_dup C dX2_push_27 rfl ?_
    refine go_get C (v := .int (nI h)) fl_X2_47 dX2_push_28 0 rfl rfl ?_
    refine go_iconst C (1) dX2_push_31 (by decide) ?_
    refine go_iadd C (z := nI (h + 1)) dX2_push_32 (nI_add h 1) ?_
    refine go_put C fp_X2_47 dX2_push_33 0 rfl rfl rfl (Nat.le_of_ble_eq_true rfl) ((ma, .inr (2, [.ref sk, .int (nI (h + 1))])) :: (sk, .inl (G.2.1, 8, .inl (upd st h x))) :: rs) rfl ?_
    exact go_vret C E dX2_push_36 rfl rfl
set_option maxHeartbeats 4000000 in
set_option maxRecDepth 100000 in
theorem c_X2_pop (G : go_G) (rs : va_W)  (ma : Nat) (sk : Nat) (h : Nat) (st : Nat → Int32)  (h1 : 1 ≤ h) (h8 : h ≤ 8) : go_Fn yX2_pop cX2_pop 1 (some .int) 0 0 G [.ref ma] ((ma, .inr (2, [.ref sk, .int (nI h)])) :: (sk, .inl (G.2.1, 8, .inl st)) :: rs) (some (.int (st (h - 1)))) ((ma, .inr (2, [.ref sk, .int (nI (h - 1))])) :: (sk, .inl (G.2.1, 8, .inl st)) :: rs) := by
  refine go_Fn_of (by decide) (Nat.le_of_ble_eq_true rfl) (fun X C E => ?_)
  show go_Go X (0, 0) ((ma, .inr (2, [.ref sk, .int (nI h)])) :: (sk, .inl (G.2.1, 8, .inl st)) :: rs) [(0, .ref ma)] [] 0
  refine go_aload_n C dX2_pop_0 0 rfl rfl ?_
  refine go_get C (v := .int (nI h)) fl_X2_47 dX2_pop_1 0 rfl rfl ?_
  refine go_iconst C (1) dX2_pop_4 (by decide) ?_
  refine go_icmp_ltN (a := h) (b := 1) C 17 dX2_pop_5 (by decide) (by omega) (by omega) (fun c_5 => ?_) (fun c_5 => ?_)
  · omega
  · refine go_aload_n C dX2_pop_8 0 rfl rfl ?_
    refine go_get C (v := .int (nI h)) fl_X2_47 dX2_pop_9 0 rfl rfl ?_
    refine go_bipush C (8) dX2_pop_12 (by decide) ?_
    refine go_icmp_leN (a := h) (b := 8) C 19 dX2_pop_14 (by decide) (by omega) (by omega) (fun c_14 => ?_) (fun c_14 => ?_)
    · refine go_aload_n C dX2_pop_19 0 rfl rfl ?_
      refine go_dup C dX2_pop_20 rfl ?_
      refine go_get C (v := .int (nI h)) fl_X2_47 dX2_pop_21 0 rfl rfl ?_
      refine go_iconst C (1) dX2_pop_24 (by decide) ?_
      refine go_isub C (z := nI (h - 1)) dX2_pop_25 (pk_sub (a := h) (b := 1) (by omega)) ?_
      refine go_put C fp_X2_47 dX2_pop_26 0 rfl rfl rfl (Nat.le_of_ble_eq_true rfl) ((ma, .inr (2, [.ref sk, .int (nI (h - 1))])) :: (sk, .inl (G.2.1, 8, .inl st)) :: rs) rfl ?_
      refine go_aload_n C dX2_pop_29 0 rfl rfl ?_
      refine go_get C (v := .ref sk) fl_X2_9 dX2_pop_30 0 rfl rfl ?_
      refine go_aload_n C dX2_pop_33 0 rfl rfl ?_
      refine go_get C (v := .int (nI (h - 1))) fl_X2_47 dX2_pop_34 0 rfl rfl ?_
      refine go_iald C dX2_pop_37 1 rfl (h - 1) rfl (by omega) (by decide) ?_
      exact go_iret C E dX2_pop_38 rfl rfl
    · omega
set_option maxHeartbeats 4000000 in
set_option maxRecDepth 100000 in
theorem c_X2_pop0 (G : go_G) (rs : va_W)  (ma : Nat) (sk : Nat) (h : Nat) (st : Nat → Int32)  (h0 : h = 0) : go_Fn yX2_pop cX2_pop 1 (some .int) 0 0 G [.ref ma] ((ma, .inr (2, [.ref sk, .int (nI h)])) :: (sk, .inl (G.2.1, 8, .inl st)) :: rs) (some (.int 0)) ((ma, .inr (2, [.ref sk, .int (nI h)])) :: (sk, .inl (G.2.1, 8, .inl st)) :: rs) := by
  refine go_Fn_of (by decide) (Nat.le_of_ble_eq_true rfl) (fun X C E => ?_)
  show go_Go X (0, 0) ((ma, .inr (2, [.ref sk, .int (nI h)])) :: (sk, .inl (G.2.1, 8, .inl st)) :: rs) [(0, .ref ma)] [] 0
  refine go_aload_n C dX2_pop_0 0 rfl rfl ?_
  refine go_get C (v := .int (nI h)) fl_X2_47 dX2_pop_1 0 rfl rfl ?_
  refine go_iconst C (1) dX2_pop_4 (by decide) ?_
  refine go_icmp_ltN (a := h) (b := 1) C 17 dX2_pop_5 (by decide) (by omega) (by omega) (fun c_5 => ?_) (fun c_5 => ?_)
  · refine go_iconst C (0) dX2_pop_17 (by decide) ?_
    exact go_iret C E dX2_pop_18 rfl rfl
  · omega
set_option maxHeartbeats 4000000 in
set_option maxRecDepth 100000 in
theorem c_X2_joined (G : go_G) (rs : va_W)  (o : Int32) (x : Int32) (y : Int32)  (ho : pc_bo o) : go_Fn yX2_joined cX2_joined 3 (some .int) 0 0 G [.int o, .int x, .int y] rs (some (.int (pc_bin o x y))) rs := by
  refine go_Fn_of (by decide) (Nat.le_of_ble_eq_true rfl) (fun X C E => ?_)
  show go_Go X (0, 0) rs [(0, .int o), (1, .int x), (2, .int y)] [] 0
  refine go_iload_n C dX2_joined_0 0 rfl rfl ?_
  rcases ho with rfl | rfl | rfl | rfl | rfl | rfl | rfl
  · refine go_table C (off := 43) 44 dX2_joined_1 (by decide) (by decide) (by decide) (by decide) ?_
    refine go_iload_n C dX2_joined_44 1 rfl rfl ?_
    refine go_iload_n C dX2_joined_45 2 rfl rfl ?_
    refine go_iadd C (z := x + y) dX2_joined_46 rfl ?_
    exact go_iret C E dX2_joined_47 (by first | contradiction | rfl | (simp [pc_bin, *]; done) | (rw [decide_eq_true (by omega)]; done) | (rw [decide_eq_false (by omega)]; done) | (simp_all [pc_bin]; done) | (simp [pc_bin]; omega) | (simp_all [pc_bin]; omega) | omega) rfl
  · refine go_table C (off := 47) 48 dX2_joined_1 (by decide) (by decide) (by decide) (by decide) ?_
    refine go_iload_n C dX2_joined_48 1 rfl rfl ?_
    refine go_iload_n C dX2_joined_49 2 rfl rfl ?_
    refine go_isub C (z := x - y) dX2_joined_50 rfl ?_
    exact go_iret C E dX2_joined_51 (by first | contradiction | rfl | (simp [pc_bin, *]; done) | (rw [decide_eq_true (by omega)]; done) | (rw [decide_eq_false (by omega)]; done) | (simp_all [pc_bin]; done) | (simp [pc_bin]; omega) | (simp_all [pc_bin]; omega) | omega) rfl
  · refine go_table C (off := 51) 52 dX2_joined_1 (by decide) (by decide) (by decide) (by decide) ?_
    refine go_iload_n C dX2_joined_52 1 rfl rfl ?_
    refine go_iload_n C dX2_joined_53 2 rfl rfl ?_
    refine go_imul C (z := x * y) dX2_joined_54 rfl ?_
    exact go_iret C E dX2_joined_55 (by first | contradiction | rfl | (simp [pc_bin, *]; done) | (rw [decide_eq_true (by omega)]; done) | (rw [decide_eq_false (by omega)]; done) | (simp_all [pc_bin]; done) | (simp [pc_bin]; omega) | (simp_all [pc_bin]; omega) | omega) rfl
  · refine go_table C (off := 55) 56 dX2_joined_1 (by decide) (by decide) (by decide) (by decide) ?_
    refine go_iload_n C dX2_joined_56 1 rfl rfl ?_
    refine go_iload_n C dX2_joined_57 2 rfl rfl ?_
    refine go_icmp_ne C 65 dX2_joined_58 (by decide) (fun c_58 => ?_) (fun c_58 => ?_)
    · refine go_iconst C (0) dX2_joined_65 (by decide) ?_
      exact go_iret C E dX2_joined_66 (by first | contradiction | rfl | (simp [pc_bin, *]; done) | (rw [decide_eq_true (by omega)]; done) | (rw [decide_eq_false (by omega)]; done) | (simp_all [pc_bin]; done) | (simp [pc_bin]; omega) | (simp_all [pc_bin]; omega) | omega) rfl
    · refine go_iconst C (1) dX2_joined_61 (by decide) ?_
      refine go_goto C 66 dX2_joined_62 (by decide) ?_
      exact go_iret C E dX2_joined_66 (by first | contradiction | rfl | (simp [pc_bin, *]; done) | (rw [decide_eq_true (by omega)]; done) | (rw [decide_eq_false (by omega)]; done) | (simp_all [pc_bin]; done) | (simp [pc_bin]; omega) | (simp_all [pc_bin]; omega) | omega) rfl
  · refine go_table C (off := 66) 67 dX2_joined_1 (by decide) (by decide) (by decide) (by decide) ?_
    refine go_iload_n C dX2_joined_67 1 rfl rfl ?_
    refine go_iload_n C dX2_joined_68 2 rfl rfl ?_
    refine go_icmp_ge C 76 dX2_joined_69 (by decide) (fun c_69 => ?_) (fun c_69 => ?_)
    · refine go_iconst C (0) dX2_joined_76 (by decide) ?_
      exact go_iret C E dX2_joined_77 (by first | contradiction | rfl | (simp [pc_bin, *]; done) | (rw [decide_eq_true (by omega)]; done) | (rw [decide_eq_false (by omega)]; done) | (simp_all [pc_bin]; done) | (simp [pc_bin]; omega) | (simp_all [pc_bin]; omega) | omega) rfl
    · refine go_iconst C (1) dX2_joined_72 (by decide) ?_
      refine go_goto C 77 dX2_joined_73 (by decide) ?_
      exact go_iret C E dX2_joined_77 (by first | contradiction | rfl | (simp [pc_bin, *]; done) | (rw [decide_eq_true (by omega)]; done) | (rw [decide_eq_false (by omega)]; done) | (simp_all [pc_bin]; done) | (simp [pc_bin]; omega) | (simp_all [pc_bin]; omega) | omega) rfl
  · refine go_table C (off := 77) 78 dX2_joined_1 (by decide) (by decide) (by decide) (by decide) ?_
    refine go_iload_n C dX2_joined_78 1 rfl rfl ?_
    refine go_iload_n C dX2_joined_79 2 rfl rfl ?_
    refine go_iand C (z := x &&& y) dX2_joined_80 rfl ?_
    exact go_iret C E dX2_joined_81 (by first | contradiction | rfl | (simp [pc_bin, *]; done) | (rw [decide_eq_true (by omega)]; done) | (rw [decide_eq_false (by omega)]; done) | (simp_all [pc_bin]; done) | (simp [pc_bin]; omega) | (simp_all [pc_bin]; omega) | omega) rfl
  · refine go_table C (off := 81) 82 dX2_joined_1 (by decide) (by decide) (by decide) (by decide) ?_
    refine go_iload_n C dX2_joined_82 1 rfl rfl ?_
    refine go_iload_n C dX2_joined_83 2 rfl rfl ?_
    refine go_ior C (z := x ||| y) dX2_joined_84 rfl ?_
    exact go_iret C E dX2_joined_85 (by first | contradiction | rfl | (simp [pc_bin, *]; done) | (rw [decide_eq_true (by omega)]; done) | (rw [decide_eq_false (by omega)]; done) | (simp_all [pc_bin]; done) | (simp [pc_bin]; omega) | (simp_all [pc_bin]; omega) | omega) rfl
set_option maxHeartbeats 4000000 in
set_option maxRecDepth 100000 in
theorem c_X2_step (G : go_G) (rs : va_W) (p0 : Nat) (ma : Nat) (sk : Nat) (h : Nat) (st : Nat → Int32) (bf : Nat) (b : Nat → Int32) (af : Nat) (w : Int32) (hp0 : rs[p0]? = some (bf, .inl (G.2.1, 6, .inl b))) (ok : pc_okw h w) : go_Fn yX2_step cX2_step 8 none 1 22 G [.ref ma, .int w, .ref bf, .ref af] ((ma, .inr (2, [.ref sk, .int (nI h)])) :: (sk, .inl (G.2.1, 8, .inl st)) :: rs) (none) ((ma, .inr (2, [.ref sk, .int (nI (pc_hw h w))])) :: (sk, .inl (G.2.1, 8, .inl (pc_s1 b h st w))) :: rs) := by
  refine go_Fn_of (by decide) (Nat.le_of_ble_eq_true rfl) (fun X C E => ?_)
  show go_Go X (0, 0) ((ma, .inr (2, [.ref sk, .int (nI h)])) :: (sk, .inl (G.2.1, 8, .inl st)) :: rs) [(0, .ref ma), (1, .int w), (2, .ref bf), (3, .ref af)] [] 0
  refine go_iload_n C dX2_step_0 1 rfl rfl ?_
  refine go_cS C (c_X6_op G ((ma, .inr (2, [.ref sk, .int (nI h)])) :: (sk, .inl (G.2.1, 8, .inl st)) :: rs)  w  ) ml_X2_61 mc_X6_op dX2_step_1 [] rfl rfl rfl ⟨Nat.le_of_ble_eq_true rfl, Nat.le_of_ble_eq_true rfl, Nat.zero_le _, Nat.zero_le _, Nat.le_of_ble_eq_true rfl⟩ [.int (pc_op w)] rfl ?_
  refine go_istore C [(0, .ref ma), (1, .int w), (2, .ref bf), (3, .ref af), (4, .int (pc_op w))] dX2_step_4 [1, 2, 3, 4, 0] (by decide) rfl ?_
  refine go_iload_n C dX2_step_6 1 rfl rfl ?_
  refine go_cS C (c_X6_operand G ((ma, .inr (2, [.ref sk, .int (nI h)])) :: (sk, .inl (G.2.1, 8, .inl st)) :: rs)  w  ) ml_X2_66 mc_X6_operand dX2_step_7 [] rfl rfl rfl ⟨Nat.le_of_ble_eq_true rfl, Nat.le_of_ble_eq_true rfl, Nat.zero_le _, Nat.zero_le _, Nat.le_of_ble_eq_true rfl⟩ [.int (pc_k w)] rfl ?_
  refine go_istore C [(0, .ref ma), (1, .int w), (2, .ref bf), (3, .ref af), (4, .int (pc_op w)), (5, .int (pc_k w))] dX2_step_10 [1, 2, 3, 4, 5, 0] (by decide) rfl ?_
  refine go_iload C dX2_step_12 4 rfl ?_
  refine go_if_ne C 26 dX2_step_14 (by decide) (fun c_14 => ?_) (fun c_14 => ?_)
  · refine go_iload C dX2_step_26 4 rfl ?_
    refine go_iconst C (1) dX2_step_28 (by decide) ?_
    refine go_icmp_ne C 55 dX2_step_29 (by decide) (fun c_29 => ?_) (fun c_29 => ?_)
    · refine go_iload C dX2_step_55 4 rfl ?_
      refine go_bipush C (9) dX2_step_57 (by decide) ?_
      refine go_icmp_ne C 81 dX2_step_59 (by decide) (fun c_59 => ?_) (fun c_59 => ?_)
      · obtain ⟨ho, hx, hy⟩ := pc_okw_b ok c_14 c_29 c_59
        refine go_iload C dX2_step_81 4 rfl ?_
        refine go_bipush C (11) dX2_step_83 (by decide) ?_
        refine go_icmp_ne C 111 dX2_step_85 (by decide) (fun c_85 => ?_) (fun c_85 => ?_)
        · refine go_aload_n C dX2_step_111 0 rfl rfl ?_
          refine go_cV C (c_X2_pop G rs  ma sk h st  (by omega) (by omega)) ml_X2_58 mc_X2_pop dX2_step_112 [] rfl rfl 0 rfl rfl rfl ⟨Nat.le_of_ble_eq_true rfl, Nat.le_of_ble_eq_true rfl, Nat.zero_le _, Nat.zero_le _, Nat.le_of_ble_eq_true rfl⟩ [.int (st (h - 1))] rfl ?_
          refine go_istore C [(0, .ref ma), (1, .int w), (2, .ref bf), (3, .ref af), (4, .int (pc_op w)), (5, .int (pc_k w)), (6, .int (st (h - 1)))] dX2_step_115 [1, 2, 3, 4, 5, 6, 0] (by decide) rfl ?_
          refine go_aload_n C dX2_step_117 0 rfl rfl ?_
          refine go_cV C (c_X2_pop G rs  ma sk (h - 1) st  (by omega) (by omega)) ml_X2_58 mc_X2_pop dX2_step_118 [] rfl rfl 0 rfl rfl rfl ⟨Nat.le_of_ble_eq_true rfl, Nat.le_of_ble_eq_true rfl, Nat.zero_le _, Nat.zero_le _, Nat.le_of_ble_eq_true rfl⟩ [.int (st ((h - 1) - 1))] rfl ?_
          refine go_istore C [(0, .ref ma), (1, .int w), (2, .ref bf), (3, .ref af), (4, .int (pc_op w)), (5, .int (pc_k w)), (6, .int (st (h - 1))), (7, .int (st ((h - 1) - 1)))] dX2_step_121 [1, 2, 3, 4, 5, 6, 7, 0] (by decide) rfl ?_
          refine go_aload_n C dX2_step_123 0 rfl rfl ?_
          refine go_iload C dX2_step_124 4 rfl ?_
          refine go_iload C dX2_step_126 7 rfl ?_
          refine go_iload C dX2_step_128 6 rfl ?_
          refine go_cS C (c_X2_joined G ((ma, .inr (2, [.ref sk, .int (nI ((h - 1) - 1))])) :: (sk, .inl (G.2.1, 8, .inl st)) :: rs)  (pc_op w) (st ((h - 1) - 1)) (st (h - 1))  ho) ml_X2_76 mc_X2_joined dX2_step_130 [.ref ma] rfl rfl rfl ⟨Nat.le_of_ble_eq_true rfl, Nat.le_of_ble_eq_true rfl, Nat.zero_le _, Nat.zero_le _, Nat.le_of_ble_eq_true rfl⟩ [.int (pc_bin (pc_op w) (st ((h - 1) - 1)) (st (h - 1))), .ref ma] rfl ?_
          refine go_cV C (c_X2_push G rs  ma sk ((h - 1) - 1) st (pc_bin (pc_op w) (st ((h - 1) - 1)) (st (h - 1)))  (by omega)) ml_X2_69 mc_X2_push dX2_step_133 [] rfl rfl 0 rfl rfl rfl ⟨Nat.le_of_ble_eq_true rfl, Nat.le_of_ble_eq_true rfl, Nat.zero_le _, Nat.zero_le _, Nat.le_of_ble_eq_true rfl⟩ [] rfl ?_
          exact go_vret C E dX2_step_136 rfl (by first | (simp [pc_hw, pc_s1, *]; done) | (simp [pc_hw, pc_s1, *]; congr 1; omega))
        · exact absurd c_85 (pc_bo_11 ho)
      · obtain ⟨hx, hy⟩ := pc_okw_9 ok c_59
        refine go_aload_n C dX2_step_62 0 rfl rfl ?_
        refine go_aload_n C dX2_step_63 0 rfl rfl ?_
        refine go_cV C (c_X2_pop G rs  ma sk h st  (by omega) (by omega)) ml_X2_58 mc_X2_pop dX2_step_64 [.ref ma] rfl rfl 0 rfl rfl rfl ⟨Nat.le_of_ble_eq_true rfl, Nat.le_of_ble_eq_true rfl, Nat.zero_le _, Nat.zero_le _, Nat.le_of_ble_eq_true rfl⟩ [.int (st (h - 1)), .ref ma] rfl ?_
        refine go_if_ne C 74 dX2_step_67 (by decide) (fun c_67 => ?_) (fun c_67 => ?_)
        · refine go_iconst C (0) dX2_step_74 (by decide) ?_
          refine go_cV C (c_X2_push G rs  ma sk (h - 1) st 0  (by omega)) ml_X2_69 mc_X2_push dX2_step_75 [] rfl rfl 0 rfl rfl rfl ⟨Nat.le_of_ble_eq_true rfl, Nat.le_of_ble_eq_true rfl, Nat.zero_le _, Nat.zero_le _, Nat.le_of_ble_eq_true rfl⟩ [] rfl ?_
          refine go_goto C 136 dX2_step_78 (by decide) ?_
          exact go_vret C E dX2_step_136 rfl (by first | (simp [pc_hw, pc_s1, *]; done) | (simp [pc_hw, pc_s1, *]; congr 1; omega))
        · refine go_iconst C (1) dX2_step_70 (by decide) ?_
          refine go_goto C 75 dX2_step_71 (by decide) ?_
          refine go_cV C (c_X2_push G rs  ma sk (h - 1) st 1  (by omega)) ml_X2_69 mc_X2_push dX2_step_75 [] rfl rfl 0 rfl rfl rfl ⟨Nat.le_of_ble_eq_true rfl, Nat.le_of_ble_eq_true rfl, Nat.zero_le _, Nat.zero_le _, Nat.le_of_ble_eq_true rfl⟩ [] rfl ?_
          refine go_goto C 136 dX2_step_78 (by decide) ?_
          exact go_vret C E dX2_step_136 rfl (by first | (simp [pc_hw, pc_s1, *]; done) | (simp [pc_hw, pc_s1, *]; congr 1; omega))
    · obtain ⟨hx, hk⟩ := pc_okw_1 ok c_29
      refine go_aload_n C dX2_step_32 0 rfl rfl ?_
      refine go_iload C dX2_step_33 5 rfl ?_
      refine go_cN C (c_X8_isVariable G ((ma, .inr (2, [.ref sk, .int (nI h)])) :: (sk, .inl (G.2.1, 8, .inl st)) :: rs)  (pc_k w)  ) ml_X2_73 mc_X8_isVariable dX2_step_35 [.ref ma] rfl rfl rfl ⟨Nat.le_of_ble_eq_true rfl, Nat.le_of_ble_eq_true rfl, Nat.zero_le _, Nat.zero_le _, Nat.le_of_ble_eq_true rfl⟩ [.int (go_b (pc_isV (pc_k w))), .ref ma] rfl ?_
      refine go_if_eqB C 48 dX2_step_38 (by decide) (fun c_38 => ?_) (fun c_38 => ?_)
      · rw [hk] at c_38; cases c_38
      · refine go_aload_n C dX2_step_41 2 rfl rfl ?_
        refine go_iload C dX2_step_42 5 rfl ?_
        refine go_iald C dX2_step_44 (p0 + 2) hp0 ((pc_k w).toNatClampNeg) (pc_isV_nI hk).1 (pc_isV_nI hk).2 (by decide) ?_
        refine go_goto C 49 dX2_step_45 (by decide) ?_
        refine go_cV C (c_X2_push G rs  ma sk h st (b ((pc_k w).toNatClampNeg))  (by omega)) ml_X2_69 mc_X2_push dX2_step_49 [] rfl rfl 0 rfl rfl rfl ⟨Nat.le_of_ble_eq_true rfl, Nat.le_of_ble_eq_true rfl, Nat.zero_le _, Nat.zero_le _, Nat.le_of_ble_eq_true rfl⟩ [] rfl ?_
        refine go_goto C 136 dX2_step_52 (by decide) ?_
        exact go_vret C E dX2_step_136 rfl (by first | (simp [pc_hw, pc_s1, *]; done) | (simp [pc_hw, pc_s1, *]; congr 1; omega))
  · have hx := pc_okw_0 ok c_14
    refine go_aload_n C dX2_step_17 0 rfl rfl ?_
    refine go_iload C dX2_step_18 5 rfl ?_
    refine go_cV C (c_X2_push G rs  ma sk h st (pc_k w)  (by omega)) ml_X2_69 mc_X2_push dX2_step_20 [] rfl rfl 0 rfl rfl rfl ⟨Nat.le_of_ble_eq_true rfl, Nat.le_of_ble_eq_true rfl, Nat.zero_le _, Nat.zero_le _, Nat.le_of_ble_eq_true rfl⟩ [] rfl ?_
    refine go_goto C 136 dX2_step_23 (by decide) ?_
    exact go_vret C E dX2_step_136 rfl (by first | (simp [pc_hw, pc_s1, *]; done) | (simp [pc_hw, pc_s1, *]; congr 1; omega))
set_option maxHeartbeats 4000000 in
set_option maxRecDepth 100000 in
theorem c_X2_stepS (G : go_G) (rs : va_W)  (ma : Nat) (sk : Nat) (h : Nat) (st : Nat → Int32) (bf : Nat) (af : Nat) (a : Nat → Int32) (w : Int32)  (e11 : pc_op w = 11) (hk : pc_isV (pc_k w) = true) (h1 : 1 ≤ h) (h8 : h ≤ 8) : go_Fn yX2_step cX2_step 8 none 1 22 G [.ref ma, .int w, .ref bf, .ref af] ((ma, .inr (2, [.ref sk, .int (nI h)])) :: (sk, .inl (G.2.1, 8, .inl st)) :: (af, .inl (G.2.1, 6, .inl a)) :: rs) (none) ((ma, .inr (2, [.ref sk, .int (nI (h - 1))])) :: (sk, .inl (G.2.1, 8, .inl st)) :: (af, .inl (G.2.1, 6, .inl (upd a (pc_k w).toNatClampNeg (st (h - 1))))) :: rs) := by
  refine go_Fn_of (by decide) (Nat.le_of_ble_eq_true rfl) (fun X C E => ?_)
  show go_Go X (0, 0) ((ma, .inr (2, [.ref sk, .int (nI h)])) :: (sk, .inl (G.2.1, 8, .inl st)) :: (af, .inl (G.2.1, 6, .inl a)) :: rs) [(0, .ref ma), (1, .int w), (2, .ref bf), (3, .ref af)] [] 0
  refine go_iload_n C dX2_step_0 1 rfl rfl ?_
  refine go_cS C (c_X6_op G ((ma, .inr (2, [.ref sk, .int (nI h)])) :: (sk, .inl (G.2.1, 8, .inl st)) :: (af, .inl (G.2.1, 6, .inl a)) :: rs)  w  ) ml_X2_61 mc_X6_op dX2_step_1 [] rfl rfl rfl ⟨Nat.le_of_ble_eq_true rfl, Nat.le_of_ble_eq_true rfl, Nat.zero_le _, Nat.zero_le _, Nat.le_of_ble_eq_true rfl⟩ [.int (pc_op w)] rfl ?_
  refine go_istore C [(0, .ref ma), (1, .int w), (2, .ref bf), (3, .ref af), (4, .int (pc_op w))] dX2_step_4 [1, 2, 3, 4, 0] (by decide) rfl ?_
  refine go_iload_n C dX2_step_6 1 rfl rfl ?_
  refine go_cS C (c_X6_operand G ((ma, .inr (2, [.ref sk, .int (nI h)])) :: (sk, .inl (G.2.1, 8, .inl st)) :: (af, .inl (G.2.1, 6, .inl a)) :: rs)  w  ) ml_X2_66 mc_X6_operand dX2_step_7 [] rfl rfl rfl ⟨Nat.le_of_ble_eq_true rfl, Nat.le_of_ble_eq_true rfl, Nat.zero_le _, Nat.zero_le _, Nat.le_of_ble_eq_true rfl⟩ [.int (pc_k w)] rfl ?_
  refine go_istore C [(0, .ref ma), (1, .int w), (2, .ref bf), (3, .ref af), (4, .int (pc_op w)), (5, .int (pc_k w))] dX2_step_10 [1, 2, 3, 4, 5, 0] (by decide) rfl ?_
  refine go_iload C dX2_step_12 4 rfl ?_
  refine go_if_ne C 26 dX2_step_14 (by decide) (fun c_14 => ?_) (fun c_14 => ?_)
  · refine go_iload C dX2_step_26 4 rfl ?_
    refine go_iconst C (1) dX2_step_28 (by decide) ?_
    refine go_icmp_ne C 55 dX2_step_29 (by decide) (fun c_29 => ?_) (fun c_29 => ?_)
    · refine go_iload C dX2_step_55 4 rfl ?_
      refine go_bipush C (9) dX2_step_57 (by decide) ?_
      refine go_icmp_ne C 81 dX2_step_59 (by decide) (fun c_59 => ?_) (fun c_59 => ?_)
      · refine go_iload C dX2_step_81 4 rfl ?_
        refine go_bipush C (11) dX2_step_83 (by decide) ?_
        refine go_icmp_ne C 111 dX2_step_85 (by decide) (fun c_85 => ?_) (fun c_85 => ?_)
        · exact absurd e11 c_85
        · refine go_aload_n C dX2_step_88 0 rfl rfl ?_
          refine go_cV C (c_X2_pop G ((af, .inl (G.2.1, 6, .inl a)) :: rs)  ma sk h st  (by omega) (by omega)) ml_X2_58 mc_X2_pop dX2_step_89 [] rfl rfl 0 rfl rfl rfl ⟨Nat.le_of_ble_eq_true rfl, Nat.le_of_ble_eq_true rfl, Nat.zero_le _, Nat.zero_le _, Nat.le_of_ble_eq_true rfl⟩ [.int (st (h - 1))] rfl ?_
          refine go_istore C [(0, .ref ma), (1, .int w), (2, .ref bf), (3, .ref af), (4, .int (pc_op w)), (5, .int (pc_k w)), (6, .int (st (h - 1)))] dX2_step_92 [1, 2, 3, 4, 5, 6, 0] (by decide) rfl ?_
          refine go_iload C dX2_step_94 5 rfl ?_
          refine go_cN C (c_X8_isVariable G ((ma, .inr (2, [.ref sk, .int (nI (h - 1))])) :: (sk, .inl (G.2.1, 8, .inl st)) :: (af, .inl (G.2.1, 6, .inl a)) :: rs)  (pc_k w)  ) ml_X2_73 mc_X8_isVariable dX2_step_96 [] rfl rfl rfl ⟨Nat.le_of_ble_eq_true rfl, Nat.le_of_ble_eq_true rfl, Nat.zero_le _, Nat.zero_le _, Nat.le_of_ble_eq_true rfl⟩ [.int (go_b (pc_isV (pc_k w)))] rfl ?_
          refine go_if_eqB C 108 dX2_step_99 (by decide) (fun c_99 => ?_) (fun c_99 => ?_)
          · rw [hk] at c_99; cases c_99
          · refine go_aload_n C dX2_step_102 3 rfl rfl ?_
            refine go_iload C dX2_step_103 5 rfl ?_
            refine go_iload C dX2_step_105 6 rfl ?_
            refine go_iast C dX2_step_107 2 rfl ((pc_k w).toNatClampNeg) (pc_isV_nI hk).1 (pc_isV_nI hk).2 (by decide) ((ma, .inr (2, [.ref sk, .int (nI (h - 1))])) :: (sk, .inl (G.2.1, 8, .inl st)) :: (af, .inl (G.2.1, 6, .inl (upd a ((pc_k w).toNatClampNeg) (st (h - 1))))) :: rs) rfl ?_
            refine go_goto C 136 dX2_step_108 (by decide) ?_
            exact go_vret C E dX2_step_136 rfl rfl
      · exact absurd c_59 (by rw [e11]; decide)
    · exact absurd c_29 (by rw [e11]; decide)
  · exact absurd c_14 (by rw [e11]; decide)
end
section
set_option maxHeartbeats 4000000 in
set_option maxRecDepth 100000 in
theorem c_X8_copyState (G : go_G) (rs : va_W) (p0 : Nat) (x : Nat) (f : Nat → Int32) (y : Nat) (g : Nat → Int32) (hp0 : rs[p0]? = some (x, .inl (G.2.1, 6, .inl f)))  : go_Fn yX8_copyState cX8_copyState 2 none 1 44 G [.ref x, .ref y] ((y, .inl (G.2.1, 6, .inl g)) :: rs) (none) ((y, .inl (G.2.1, 6, .inl f)) :: rs) := by
  refine go_Fn_of (by decide) (Nat.le_of_ble_eq_true rfl) (fun X C E => ?_)
  show go_Go X (0, 0) ((y, .inl (G.2.1, 6, .inl g)) :: rs) [(0, .ref x), (1, .ref y)] [] 0
  refine go_aload_n C dX8_copyState_0 0 rfl rfl ?_
  refine go_iconst C (0) dX8_copyState_1 (by decide) ?_
  refine go_aload_n C dX8_copyState_2 1 rfl rfl ?_
  refine go_iconst C (0) dX8_copyState_3 (by decide) ?_
  refine go_bipush C (6) dX8_copyState_4 (by decide) ?_
  refine go_copy C ml_X8_192 ml_ac dX8_copyState_6 (p0 + 1) 0 hp0 rfl 0 0 6 rfl rfl rfl (by omega) (by omega) (by decide) (by decide) ⟨Nat.le_of_ble_eq_true rfl, Nat.le_of_ble_eq_true rfl⟩ ((y, .inl (G.2.1, 6, .inl (va_cpy f g 0 0 6))) :: rs) rfl ?_
  refine go_cont 0 rfl f (fun j hj => by rw [pk_cpy_in (by omega) (by omega)]; congr 1; omega) ((y, .inl (G.2.1, 6, .inl f)) :: rs) rfl ?_
  exact go_vret C E dX8_copyState_9 rfl rfl
set_option maxHeartbeats 4000000 in
set_option maxRecDepth 100000 in
theorem l_X2_run_8 {X : go_X} (G : go_G) (rs : va_W) (p0 : Nat) (p1 : Nat) (p2 : Nat) (ma : Nat) (sk : Nat) (h : Nat) (st : Nat → Int32) (a : Nat) (w : Nat) (ln : Nat) (f : Nat → Int32) (fr : Nat) (m : Nat) (tw : Nat) (bf : Nat) (b : Nat → Int32) (hp0 : rs[p0]? = some (a, .inr (6, [.ref w, .int (nI ln)]))) (hp1 : rs[p1]? = some (w, .inl (G.2.1, 32, .inl f))) (hp2 : rs[p2]? = some (bf, .inl (G.2.1, 6, .inl b))) (hl : ln ≤ 32) (hto : tw = fr + m) (htl : tw ≤ ln) (hok : pc_okf f m fr 0) (hh1 : pc_hs f m fr 0 = 1) {Rr : Option Value} {W1 : va_W} (fin : Nat × (Nat → Int32)) (C : go_Cx X cX2_run RX2 (some .int) 7 2 49 0 0 G) (E : go_Ex X Rr W1) (K : go_Go X (0, 0) ((ma, .inr (2, [.ref sk, .int (nI (fin.1))])) :: (sk, .inl (G.2.1, 8, .inl fin.2)) :: rs) [(0, .ref ma)] [] 34) : ∀ (n : Nat) (i : Nat) (g : Nat) (t : Nat → Int32) (k : Nat) (hin : tw < i + n) (hk : i + k = tw) (hok2 : pc_okf f k i g) (hfo : pc_fo f b k i g t = fin), go_Go X (0, 0) ((ma, .inr (2, [.ref sk, .int (nI g)])) :: (sk, .inl (G.2.1, 8, .inl t)) :: rs) [(0, .ref ma), (1, .ref a), (2, .int (nI fr)), (3, .int (nI tw)), (4, .ref bf), (5, .ref bf), (6, .int (nI i))] [] 8 := by
  intro n
  induction n with
  | zero => intro i g t k hin hk hok2 hfo; omega
  | succ n ih =>
    intro i g t k hin hk hok2 hfo
    refine go_iload C dX2_run_8 6 rfl ?_
    refine go_iload_n C dX2_run_10 3 rfl rfl ?_
    refine go_icmp_geN (a := i) (b := tw) C 34 dX2_run_11 (by decide) (by omega) (by omega) (fun c_11 => ?_) (fun c_11 => ?_)
    · refine go_lv [(0, .ref ma)] [0] rfl ?_
      refine go_we ((ma, .inr (2, [.ref sk, .int (nI (fin.1))])) :: (sk, .inl (G.2.1, 8, .inl fin.2)) :: rs) (by rw [← hfo, show k = 0 by omega]; rfl) ?_
      exact K
    · obtain ⟨k, rfl⟩ : ∃ q, k = q + 1 := ⟨k - 1, by omega⟩
      refine go_aload_n C dX2_run_14 0 rfl rfl ?_
      refine go_aload_n C dX2_run_15 1 rfl rfl ?_
      refine go_iload C dX2_run_16 6 rfl ?_
      refine go_cV C (c_X7_at G ((ma, .inr (2, [.ref sk, .int (nI g)])) :: (sk, .inl (G.2.1, 8, .inl t)) :: rs) (p0 + 2) (p1 + 2) a w ln f i hp0 hp1 (by omega) (by omega)) ml_X2_51 mc_X7_at dX2_run_18 [.ref ma] rfl rfl (p0 + 2) hp0 rfl rfl ⟨Nat.le_of_ble_eq_true rfl, Nat.le_of_ble_eq_true rfl, Nat.zero_le _, Nat.zero_le _, Nat.le_of_ble_eq_true rfl⟩ [.int (f i), .ref ma] (by rw [pc_at, if_pos (by omega)]; rfl) ?_
      refine go_aload C dX2_run_21 4 rfl ?_
      refine go_aload C dX2_run_23 5 rfl ?_
      refine go_cV C (c_X2_step G rs p2 ma sk g t bf b bf (f i) hp2 hok2.1) ml_X2_54 mc_X2_step dX2_run_25 [] rfl rfl 0 rfl rfl rfl ⟨Nat.le_of_ble_eq_true rfl, Nat.le_of_ble_eq_true rfl, Nat.zero_le _, Nat.zero_le _, Nat.le_of_ble_eq_true rfl⟩ [] rfl ?_
      refine go_iinc C (nI (i + 1)) [(0, .ref ma), (1, .ref a), (2, .int (nI fr)), (3, .int (nI tw)), (4, .ref bf), (5, .ref bf), (6, .int (nI (i + 1)))] dX2_run_28 6 [1, 2, 3, 4, 5, 6, 0] rfl (nI_add i 1) (by decide) rfl ?_
      refine go_goto C 8 dX2_run_31 (by decide) ?_
      exact ih (i + 1) (pc_hw g (f i)) (pc_s1 b g t (f i)) k (by omega) (by omega) hok2.2 hfo
set_option maxHeartbeats 4000000 in
set_option maxRecDepth 100000 in
theorem c_X2_run (G : go_G) (rs : va_W) (p0 : Nat) (p1 : Nat) (p2 : Nat) (ma : Nat) (sk : Nat) (h : Nat) (st : Nat → Int32) (a : Nat) (w : Nat) (ln : Nat) (f : Nat → Int32) (fr : Nat) (m : Nat) (tw : Nat) (bf : Nat) (b : Nat → Int32) (hp0 : rs[p0]? = some (a, .inr (6, [.ref w, .int (nI ln)]))) (hp1 : rs[p1]? = some (w, .inl (G.2.1, 32, .inl f))) (hp2 : rs[p2]? = some (bf, .inl (G.2.1, 6, .inl b))) (hl : ln ≤ 32) (hto : tw = fr + m) (htl : tw ≤ ln) (hok : pc_okf f m fr 0) (hh1 : pc_hs f m fr 0 = 1) : go_Fn yX2_run cX2_run 7 (some .int) 2 49 G [.ref ma, .ref a, .int (nI fr), .int (nI tw), .ref bf, .ref bf] ((ma, .inr (2, [.ref sk, .int (nI h)])) :: (sk, .inl (G.2.1, 8, .inl st)) :: rs) (some (.int (pc_rv f b fr m))) ((ma, .inr (2, [.ref sk, .int (nI 0)])) :: (sk, .inl (G.2.1, 8, .inl ((pc_fo f b m fr 0 st).2))) :: rs) := by
  refine go_Fn_of (by decide) (Nat.le_of_ble_eq_true rfl) (fun X C E => ?_)
  show go_Go X (0, 0) ((ma, .inr (2, [.ref sk, .int (nI h)])) :: (sk, .inl (G.2.1, 8, .inl st)) :: rs) [(0, .ref ma), (1, .ref a), (2, .int (nI fr)), (3, .int (nI tw)), (4, .ref bf), (5, .ref bf)] [] 0
  have he := pc_fo_eq (f := f) (b := b) m fr 0 st (fun _ => 0) hok (fun _ q => absurd q (by omega))
  have h1 : (pc_fo f b m fr 0 st).1 = 1 := (pc_fo_1 m fr 0 st).trans hh1
  refine go_aload_n C dX2_run_0 0 rfl rfl ?_
  refine go_iconst C (0) dX2_run_1 (by decide) ?_
  refine go_put C fp_X2_47 dX2_run_2 0 rfl rfl rfl (Nat.le_of_ble_eq_true rfl) ((ma, .inr (2, [.ref sk, .int 0])) :: (sk, .inl (G.2.1, 8, .inl st)) :: rs) rfl ?_
  refine go_iload_n C dX2_run_5 2 rfl rfl ?_
  refine go_istore C [(0, .ref ma), (1, .ref a), (2, .int (nI fr)), (3, .int (nI tw)), (4, .ref bf), (5, .ref bf), (6, .int (nI fr))] dX2_run_6 [1, 2, 3, 4, 5, 6, 0] (by decide) rfl ?_
  refine l_X2_run_8 G rs p0 p1 p2 ma sk h st a w ln f fr m tw bf b hp0 hp1 hp2 hl hto htl hok hh1 (pc_fo f b m fr 0 st) C E ?_ (tw + 1) fr 0 st m (by omega) (by omega) hok rfl
  show go_Go X (0, 0) ((ma, .inr (2, [.ref sk, .int (nI ((pc_fo f b m fr 0 st).1))])) :: (sk, .inl (G.2.1, 8, .inl ((pc_fo f b m fr 0 st).2))) :: rs) [(0, .ref ma)] [] 34
  refine go_aload_n C dX2_run_34 0 rfl rfl ?_
  refine go_cV C (c_X2_pop G rs  ma sk ((pc_fo f b m fr 0 st).1) ((pc_fo f b m fr 0 st).2)  (by omega) (by omega)) ml_X2_58 mc_X2_pop dX2_run_35 [] rfl rfl 0 rfl rfl rfl ⟨Nat.le_of_ble_eq_true rfl, Nat.le_of_ble_eq_true rfl, Nat.zero_le _, Nat.zero_le _, Nat.le_of_ble_eq_true rfl⟩ [.int (((pc_fo f b m fr 0 st).2) (((pc_fo f b m fr 0 st).1) - 1))] rfl ?_
  exact go_iret C E dX2_run_38 (by rw [h1]; exact congrArg (fun z => some (Value.int z)) (he.2 0 (by rw [h1]; decide))) (by rw [h1])
set_option maxHeartbeats 4000000 in
set_option maxRecDepth 100000 in
theorem l_X2_runA_8 {X : go_X} (G : go_G) (rs : va_W) (p0 : Nat) (p1 : Nat) (p2 : Nat) (ma : Nat) (sk : Nat) (h : Nat) (st : Nat → Int32) (a : Nat) (w : Nat) (ln : Nat) (f : Nat → Int32) (fr : Nat) (m : Nat) (tw : Nat) (bf : Nat) (b : Nat → Int32) (af : Nat) (d : Nat → Int32) (hp0 : rs[p0]? = some (a, .inr (6, [.ref w, .int (nI ln)]))) (hp1 : rs[p1]? = some (w, .inl (G.2.1, 32, .inl f))) (hp2 : rs[p2]? = some (bf, .inl (G.2.1, 6, .inl b))) (hl : ln ≤ 32) (hto : tw = fr + m) (htl : tw ≤ ln) (hok : pc_okf' f m fr 0) (hh1 : pc_hs' f m fr 0 = 0) {Rr : Option Value} {W1 : va_W} (fin : Nat × (Nat → Int32) × (Nat → Int32)) (C : go_Cx X cX2_run RX2 (some .int) 7 2 49 0 0 G) (E : go_Ex X Rr W1) (K : go_Go X (0, 0) ((ma, .inr (2, [.ref sk, .int (nI (fin.1))])) :: (sk, .inl (G.2.1, 8, .inl fin.2.1)) :: (af, .inl (G.2.1, 6, .inl fin.2.2)) :: rs) [(0, .ref ma)] [] 34) : ∀ (n : Nat) (i : Nat) (g : Nat) (t : Nat → Int32) (e : Nat → Int32) (k : Nat) (hin : tw < i + n) (hk : i + k = tw) (hok2 : pc_okf' f k i g) (hfo : pc_fo' f b k i g t e = fin), go_Go X (0, 0) ((ma, .inr (2, [.ref sk, .int (nI g)])) :: (sk, .inl (G.2.1, 8, .inl t)) :: (af, .inl (G.2.1, 6, .inl e)) :: rs) [(0, .ref ma), (1, .ref a), (2, .int (nI fr)), (3, .int (nI tw)), (4, .ref bf), (5, .ref af), (6, .int (nI i))] [] 8 := by
  intro n
  induction n with
  | zero => intro i g t e k hin hk hok2 hfo; omega
  | succ n ih =>
    intro i g t e k hin hk hok2 hfo
    refine go_iload C dX2_run_8 6 rfl ?_
    refine go_iload_n C dX2_run_10 3 rfl rfl ?_
    refine go_icmp_geN (a := i) (b := tw) C 34 dX2_run_11 (by decide) (by omega) (by omega) (fun c_11 => ?_) (fun c_11 => ?_)
    · refine go_lv [(0, .ref ma)] [0] rfl ?_
      refine go_we ((ma, .inr (2, [.ref sk, .int (nI (fin.1))])) :: (sk, .inl (G.2.1, 8, .inl fin.2.1)) :: (af, .inl (G.2.1, 6, .inl fin.2.2)) :: rs) (by rw [← hfo, show k = 0 by omega]; rfl) ?_
      exact K
    · obtain ⟨k, rfl⟩ : ∃ q, k = q + 1 := ⟨k - 1, by omega⟩
      refine go_aload_n C dX2_run_14 0 rfl rfl ?_
      refine go_aload_n C dX2_run_15 1 rfl rfl ?_
      refine go_iload C dX2_run_16 6 rfl ?_
      refine go_cV C (c_X7_at G ((ma, .inr (2, [.ref sk, .int (nI g)])) :: (sk, .inl (G.2.1, 8, .inl t)) :: (af, .inl (G.2.1, 6, .inl e)) :: rs) (p0 + 3) (p1 + 3) a w ln f i hp0 hp1 (by omega) (by omega)) ml_X2_51 mc_X7_at dX2_run_18 [.ref ma] rfl rfl (p0 + 3) hp0 rfl rfl ⟨Nat.le_of_ble_eq_true rfl, Nat.le_of_ble_eq_true rfl, Nat.zero_le _, Nat.zero_le _, Nat.le_of_ble_eq_true rfl⟩ [.int (f i), .ref ma] (by rw [pc_at, if_pos (by omega)]; rfl) ?_
      refine go_aload C dX2_run_21 4 rfl ?_
      refine go_aload C dX2_run_23 5 rfl ?_
      by_cases e11 : pc_op (f i) = 11
      · refine go_cV C (c_X2_stepS G rs  ma sk g t bf af e (f i)  e11 ((hok2.1.resolve_right (fun z => z.1 e11)).2.1) ((hok2.1.resolve_right (fun z => z.1 e11)).2.2.1) ((hok2.1.resolve_right (fun z => z.1 e11)).2.2.2)) ml_X2_54 mc_X2_step dX2_run_25 [] rfl rfl 0 rfl rfl rfl ⟨Nat.le_of_ble_eq_true rfl, Nat.le_of_ble_eq_true rfl, Nat.zero_le _, Nat.zero_le _, Nat.le_of_ble_eq_true rfl⟩ [] rfl ?_
        refine go_iinc C (nI (i + 1)) [(0, .ref ma), (1, .ref a), (2, .int (nI fr)), (3, .int (nI tw)), (4, .ref bf), (5, .ref af), (6, .int (nI (i + 1)))] dX2_run_28 6 [1, 2, 3, 4, 5, 6, 0] rfl (nI_add i 1) (by decide) rfl ?_
        refine go_goto C 8 dX2_run_31 (by decide) ?_
        exact ih (i + 1) (g - 1) t (upd e (pc_k (f i)).toNatClampNeg (t (g - 1))) k (by omega) (by omega) (by have := hok2.2; simpa [pc_hw', e11] using this) (by rw [← hfo]; simp [pc_fo', pc_hw', pc_s1', pc_a1', e11])
      · refine go_cV C (c_X2_step G ((af, .inl (G.2.1, 6, .inl e)) :: rs) (p2 + 1) ma sk g t bf b af (f i) hp2 ((hok2.1.resolve_left (fun z => e11 z.1)).2)) ml_X2_54 mc_X2_step dX2_run_25 [] rfl rfl 0 rfl rfl rfl ⟨Nat.le_of_ble_eq_true rfl, Nat.le_of_ble_eq_true rfl, Nat.zero_le _, Nat.zero_le _, Nat.le_of_ble_eq_true rfl⟩ [] rfl ?_
        refine go_iinc C (nI (i + 1)) [(0, .ref ma), (1, .ref a), (2, .int (nI fr)), (3, .int (nI tw)), (4, .ref bf), (5, .ref af), (6, .int (nI (i + 1)))] dX2_run_28 6 [1, 2, 3, 4, 5, 6, 0] rfl (nI_add i 1) (by decide) rfl ?_
        refine go_goto C 8 dX2_run_31 (by decide) ?_
        exact ih (i + 1) (pc_hw g (f i)) (pc_s1 b g t (f i)) e k (by omega) (by omega) (by have := hok2.2; simpa [pc_hw', e11] using this) (by rw [← hfo]; simp [pc_fo', pc_hw', pc_s1', pc_a1', e11])
set_option maxHeartbeats 4000000 in
set_option maxRecDepth 100000 in
theorem c_X2_runA (G : go_G) (rs : va_W) (p0 : Nat) (p1 : Nat) (p2 : Nat) (ma : Nat) (sk : Nat) (h : Nat) (st : Nat → Int32) (a : Nat) (w : Nat) (ln : Nat) (f : Nat → Int32) (fr : Nat) (m : Nat) (tw : Nat) (bf : Nat) (b : Nat → Int32) (af : Nat) (d : Nat → Int32) (hp0 : rs[p0]? = some (a, .inr (6, [.ref w, .int (nI ln)]))) (hp1 : rs[p1]? = some (w, .inl (G.2.1, 32, .inl f))) (hp2 : rs[p2]? = some (bf, .inl (G.2.1, 6, .inl b))) (hl : ln ≤ 32) (hto : tw = fr + m) (htl : tw ≤ ln) (hok : pc_okf' f m fr 0) (hh1 : pc_hs' f m fr 0 = 0) : go_Fn yX2_run cX2_run 7 (some .int) 2 49 G [.ref ma, .ref a, .int (nI fr), .int (nI tw), .ref bf, .ref af] ((ma, .inr (2, [.ref sk, .int (nI h)])) :: (sk, .inl (G.2.1, 8, .inl st)) :: (af, .inl (G.2.1, 6, .inl d)) :: rs) (some (.int 0)) ((ma, .inr (2, [.ref sk, .int (nI 0)])) :: (sk, .inl (G.2.1, 8, .inl ((pc_fo' f b m fr 0 st d).2.1))) :: (af, .inl (G.2.1, 6, .inl (pc_av f b fr m d))) :: rs) := by
  refine go_Fn_of (by decide) (Nat.le_of_ble_eq_true rfl) (fun X C E => ?_)
  show go_Go X (0, 0) ((ma, .inr (2, [.ref sk, .int (nI h)])) :: (sk, .inl (G.2.1, 8, .inl st)) :: (af, .inl (G.2.1, 6, .inl d)) :: rs) [(0, .ref ma), (1, .ref a), (2, .int (nI fr)), (3, .int (nI tw)), (4, .ref bf), (5, .ref af)] [] 0
  have h1 : (pc_fo' f b m fr 0 st d).1 = 0 := (pc_fo'_1 m fr 0 st d).trans hh1
  have he : (pc_fo' f b m fr 0 st d).2.2 = pc_av f b fr m d := pc_fo'_eq m fr 0 st (fun _ => 0) d hok (fun _ q => absurd q (by omega))
  refine go_aload_n C dX2_run_0 0 rfl rfl ?_
  refine go_iconst C (0) dX2_run_1 (by decide) ?_
  refine go_put C fp_X2_47 dX2_run_2 0 rfl rfl rfl (Nat.le_of_ble_eq_true rfl) ((ma, .inr (2, [.ref sk, .int 0])) :: (sk, .inl (G.2.1, 8, .inl st)) :: (af, .inl (G.2.1, 6, .inl d)) :: rs) rfl ?_
  refine go_iload_n C dX2_run_5 2 rfl rfl ?_
  refine go_istore C [(0, .ref ma), (1, .ref a), (2, .int (nI fr)), (3, .int (nI tw)), (4, .ref bf), (5, .ref af), (6, .int (nI fr))] dX2_run_6 [1, 2, 3, 4, 5, 6, 0] (by decide) rfl ?_
  refine l_X2_runA_8 G rs p0 p1 p2 ma sk h st a w ln f fr m tw bf b af d hp0 hp1 hp2 hl hto htl hok hh1 (pc_fo' f b m fr 0 st d) C E ?_ (tw + 1) fr 0 st d m (by omega) (by omega) hok rfl
  show go_Go X (0, 0) ((ma, .inr (2, [.ref sk, .int (nI ((pc_fo' f b m fr 0 st d).1))])) :: (sk, .inl (G.2.1, 8, .inl ((pc_fo' f b m fr 0 st d).2.1))) :: (af, .inl (G.2.1, 6, .inl ((pc_fo' f b m fr 0 st d).2.2))) :: rs) [(0, .ref ma)] [] 34
  refine go_aload_n C dX2_run_34 0 rfl rfl ?_
  refine go_cV C (c_X2_pop0 G ((af, .inl (G.2.1, 6, .inl ((pc_fo' f b m fr 0 st d).2.2))) :: rs)  ma sk ((pc_fo' f b m fr 0 st d).1) ((pc_fo' f b m fr 0 st d).2.1)  h1) ml_X2_58 mc_X2_pop dX2_run_35 [] rfl rfl 0 rfl rfl rfl ⟨Nat.le_of_ble_eq_true rfl, Nat.le_of_ble_eq_true rfl, Nat.zero_le _, Nat.zero_le _, Nat.le_of_ble_eq_true rfl⟩ [.int 0] rfl ?_
  exact go_iret C E dX2_run_38 rfl (by rw [h1, he])
set_option maxHeartbeats 4000000 in
set_option maxRecDepth 100000 in
theorem c_X2_mayFire (G : go_G) (rs : va_W) (p0 : Nat) (p1 : Nat) (p2 : Nat) (ma : Nat) (sk : Nat) (h : Nat) (st : Nat → Int32) (a : Nat) (w : Nat) (ln : Nat) (f : Nat → Int32) (bf : Nat) (b : Nat → Int32) (hp0 : rs[p0]? = some (a, .inr (6, [.ref w, .int (nI ln)]))) (hp1 : rs[p1]? = some (w, .inl (G.2.1, 32, .inl f))) (hp2 : rs[p2]? = some (bf, .inl (G.2.1, 6, .inl b))) (hl : ln ≤ 32) (hr : pc_RK ln f) : go_Fn yX2_mayFire cX2_mayFire 3 (some .boolean) 3 75 G [.ref ma, .ref a, .ref bf] ((ma, .inr (2, [.ref sk, .int (nI h)])) :: (sk, .inl (G.2.1, 8, .inl st)) :: rs) (some (.int (go_b (pc_mf ln f b)))) ((ma, .inr (2, [.ref sk, .int (nI 0)])) :: (sk, .inl (G.2.1, 8, .inl ((pc_fo f b (pc_th ln f) 0 0 st).2))) :: rs) := by
  refine go_Fn_of (by decide) (Nat.le_of_ble_eq_true rfl) (fun X C E => ?_)
  show go_Go X (0, 0) ((ma, .inr (2, [.ref sk, .int (nI h)])) :: (sk, .inl (G.2.1, 8, .inl st)) :: rs) [(0, .ref ma), (1, .ref a), (2, .ref bf)] [] 0
  have hth := hr.1
  refine go_aload_n C dX2_mayFire_0 0 rfl rfl ?_
  refine go_aload_n C dX2_mayFire_1 1 rfl rfl ?_
  refine go_iconst C (0) dX2_mayFire_2 (by decide) ?_
  refine go_aload_n C dX2_mayFire_3 1 rfl rfl ?_
  refine go_bipush C (10) dX2_mayFire_4 (by decide) ?_
  refine go_iconst C (0) dX2_mayFire_6 (by decide) ?_
  refine go_cV C (c_X7_next G ((ma, .inr (2, [.ref sk, .int (nI h)])) :: (sk, .inl (G.2.1, 8, .inl st)) :: rs) (p0 + 2) (p1 + 2) a w ln f 10 0 hp0 hp1 (by omega) (by omega)) ml_X2_15 mc_X7_next dX2_mayFire_7 [.int 0, .ref a, .ref ma] rfl rfl (p0 + 2) hp0 rfl rfl ⟨Nat.le_of_ble_eq_true rfl, Nat.le_of_ble_eq_true rfl, Nat.zero_le _, Nat.zero_le _, Nat.le_of_ble_eq_true rfl⟩ [.int (nI (pc_th ln f)), .int 0, .ref a, .ref ma] rfl ?_
  refine go_aload_n C dX2_mayFire_10 2 rfl rfl ?_
  refine go_aload_n C dX2_mayFire_11 2 rfl rfl ?_
  refine go_cV C (c_X2_run G rs p0 p1 p2 ma sk h st a w ln f 0 (pc_th ln f) (pc_th ln f) bf b hp0 hp1 hp2 (by omega) (by omega) (by omega) hr.2.1 hr.2.2.1) ml_X2_21 mc_X2_run dX2_mayFire_12 [] rfl rfl 0 rfl rfl rfl ⟨Nat.le_of_ble_eq_true rfl, Nat.le_of_ble_eq_true rfl, Nat.zero_le _, Nat.zero_le _, Nat.le_of_ble_eq_true rfl⟩ [.int (pc_rv f b 0 (pc_th ln f))] rfl ?_
  refine go_if_eq C 22 dX2_mayFire_15 (by decide) (fun c_15 => ?_) (fun c_15 => ?_)
  · refine go_iconst C (0) dX2_mayFire_22 (by decide) ?_
    refine go_se [.int (go_b (false))] rfl ?_
    exact go_zret C E dX2_mayFire_23 (go_bn _) (by first | contradiction | rfl | (simp [pc_mf, *]; done) | (rw [decide_eq_true (by omega)]; done) | (rw [decide_eq_false (by omega)]; done) | (simp_all [pc_mf]; done) | (simp [pc_mf]; omega) | (simp_all [pc_mf]; omega) | omega) rfl
  · refine go_iconst C (1) dX2_mayFire_18 (by decide) ?_
    refine go_goto C 23 dX2_mayFire_19 (by decide) ?_
    refine go_se [.int (go_b (true))] rfl ?_
    exact go_zret C E dX2_mayFire_23 (go_bn _) (by first | contradiction | rfl | (simp [pc_mf, *]; done) | (rw [decide_eq_true (by omega)]; done) | (rw [decide_eq_false (by omega)]; done) | (simp_all [pc_mf]; done) | (simp [pc_mf]; omega) | (simp_all [pc_mf]; omega) | omega) rfl
set_option maxHeartbeats 4000000 in
set_option maxRecDepth 100000 in
theorem c_X2_fire (G : go_G) (rs : va_W) (p0 : Nat) (p1 : Nat) (p2 : Nat) (ma : Nat) (sk : Nat) (h : Nat) (st : Nat → Int32) (a : Nat) (w : Nat) (ln : Nat) (f : Nat → Int32) (bf : Nat) (b : Nat → Int32) (af : Nat) (d : Nat → Int32) (hp0 : rs[p0]? = some (a, .inr (6, [.ref w, .int (nI ln)]))) (hp1 : rs[p1]? = some (w, .inl (G.2.1, 32, .inl f))) (hp2 : rs[p2]? = some (bf, .inl (G.2.1, 6, .inl b))) (hl : ln ≤ 32) (hr : pc_RK ln f) : go_Fn yX2_fire cX2_fire 4 none 3 75 G [.ref ma, .ref a, .ref bf, .ref af] ((ma, .inr (2, [.ref sk, .int (nI h)])) :: (sk, .inl (G.2.1, 8, .inl st)) :: (af, .inl (G.2.1, 6, .inl d)) :: rs) (none) ((ma, .inr (2, [.ref sk, .int (nI 0)])) :: (sk, .inl (G.2.1, 8, .inl ((pc_fo' f b (ln - (pc_th ln f + 1)) (pc_th ln f + 1) 0 st b).2.1))) :: (af, .inl (G.2.1, 6, .inl (pc_af ln f b))) :: rs) := by
  refine go_Fn_of (by decide) (Nat.le_of_ble_eq_true rfl) (fun X C E => ?_)
  show go_Go X (0, 0) ((ma, .inr (2, [.ref sk, .int (nI h)])) :: (sk, .inl (G.2.1, 8, .inl st)) :: (af, .inl (G.2.1, 6, .inl d)) :: rs) [(0, .ref ma), (1, .ref a), (2, .ref bf), (3, .ref af)] [] 0
  have hth := hr.1
  refine go_aload_n C dX2_fire_0 2 rfl rfl ?_
  refine go_aload_n C dX2_fire_1 3 rfl rfl ?_
  refine go_perm [(ma, .inr (2, [.ref sk, .int (nI h)])), (sk, .inl (G.2.1, 8, .inl st)), (af, .inl (G.2.1, 6, .inl d))] [(af, .inl (G.2.1, 6, .inl d)), (ma, .inr (2, [.ref sk, .int (nI h)])), (sk, .inl (G.2.1, 8, .inl st))] rs [2, 0, 1] rfl rfl rfl ?_
  refine go_cN C (c_X8_copyState G ((ma, .inr (2, [.ref sk, .int (nI h)])) :: (sk, .inl (G.2.1, 8, .inl st)) :: rs) (p2 + 2) bf b af d hp2 ) ml_X2_25 mc_X8_copyState dX2_fire_2 [] rfl rfl rfl ⟨Nat.le_of_ble_eq_true rfl, Nat.le_of_ble_eq_true rfl, Nat.zero_le _, Nat.zero_le _, Nat.le_of_ble_eq_true rfl⟩ [] rfl ?_
  refine go_aload_n C dX2_fire_5 0 rfl rfl ?_
  refine go_aload_n C dX2_fire_6 1 rfl rfl ?_
  refine go_aload_n C dX2_fire_7 1 rfl rfl ?_
  refine go_bipush C (10) dX2_fire_8 (by decide) ?_
  refine go_iconst C (0) dX2_fire_10 (by decide) ?_
  refine go_cV C (c_X7_next G ((af, .inl (G.2.1, 6, .inl b)) :: (ma, .inr (2, [.ref sk, .int (nI h)])) :: (sk, .inl (G.2.1, 8, .inl st)) :: rs) (p0 + 3) (p1 + 3) a w ln f 10 0 hp0 hp1 (by omega) (by omega)) ml_X2_15 mc_X7_next dX2_fire_11 [.ref a, .ref ma] rfl rfl (p0 + 3) hp0 rfl rfl ⟨Nat.le_of_ble_eq_true rfl, Nat.le_of_ble_eq_true rfl, Nat.zero_le _, Nat.zero_le _, Nat.le_of_ble_eq_true rfl⟩ [.int (nI (pc_th ln f)), .ref a, .ref ma] rfl ?_
  refine go_iconst C (1) dX2_fire_14 (by decide) ?_
  refine go_iadd C (z := nI ((pc_th ln f) + 1)) dX2_fire_15 (nI_add (pc_th ln f) 1) ?_
  refine go_aload_n C dX2_fire_16 1 rfl rfl ?_
  refine go_cV C (c_X7_length G ((af, .inl (G.2.1, 6, .inl b)) :: (ma, .inr (2, [.ref sk, .int (nI h)])) :: (sk, .inl (G.2.1, 8, .inl st)) :: rs) (p0 + 3) a w ln hp0 ) ml_X2_29 mc_X7_length dX2_fire_17 [.int (nI ((pc_th ln f) + 1)), .ref a, .ref ma] rfl rfl (p0 + 3) hp0 rfl rfl ⟨Nat.le_of_ble_eq_true rfl, Nat.le_of_ble_eq_true rfl, Nat.zero_le _, Nat.zero_le _, Nat.le_of_ble_eq_true rfl⟩ [.int (nI ln), .int (nI ((pc_th ln f) + 1)), .ref a, .ref ma] rfl ?_
  refine go_aload_n C dX2_fire_20 2 rfl rfl ?_
  refine go_aload_n C dX2_fire_21 3 rfl rfl ?_
  refine go_perm [(af, .inl (G.2.1, 6, .inl b)), (ma, .inr (2, [.ref sk, .int (nI h)])), (sk, .inl (G.2.1, 8, .inl st))] [(ma, .inr (2, [.ref sk, .int (nI h)])), (sk, .inl (G.2.1, 8, .inl st)), (af, .inl (G.2.1, 6, .inl b))] rs [1, 2, 0] rfl rfl rfl ?_
  refine go_cV C (c_X2_runA G rs p0 p1 p2 ma sk h st a w ln f ((pc_th ln f) + 1) (ln - (pc_th ln f + 1)) ln bf b af b hp0 hp1 hp2 (by omega) (by omega) (by omega) hr.2.2.2.1 hr.2.2.2.2) ml_X2_21 mc_X2_run dX2_fire_22 [] rfl rfl 0 rfl rfl rfl ⟨Nat.le_of_ble_eq_true rfl, Nat.le_of_ble_eq_true rfl, Nat.zero_le _, Nat.zero_le _, Nat.le_of_ble_eq_true rfl⟩ [.int 0] rfl ?_
  refine go_pop C dX2_fire_25 rfl ?_
  exact go_vret C E dX2_fire_26 rfl rfl
set_option maxHeartbeats 4000000 in
set_option maxRecDepth 100000 in
theorem l_X2_holds_8 {X : go_X} (G : go_G) (rs : va_W) (p0 : Nat) (p1 : Nat) (p2 : Nat) (p3 : Nat) (ma : Nat) (sk : Nat) (h : Nat) (st : Nat → Int32) (v : Nat) (a : Nat) (w : Nat) (ln : Nat) (f : Nat → Int32) (bf : Nat) (b : Nat → Int32) (hp0 : rs[p0]? = some (v, .inr (1, [.ref a]))) (hp1 : rs[p1]? = some (a, .inr (6, [.ref w, .int (nI ln)]))) (hp2 : rs[p2]? = some (w, .inl (G.2.1, 32, .inl f))) (hp3 : rs[p3]? = some (bf, .inl (G.2.1, 6, .inl b))) (hl : ln ≤ 32) (hr : pc_IK ln f)   (C : go_Cx X cX2_holds RX2 (some .boolean) 5 3 75 0 0 G) (E : go_Ee X (S := (Nat → Int32) × Nat) (fun u => True) (fun u => some (.int (go_b (pc_ho ln f b)))) (fun u => (ma, .inr (2, [.ref sk, .int (nI (u.2))])) :: (sk, .inl (G.2.1, 8, .inl u.1)) :: rs))  : ∀ (n : Nat) (i : Nat) (g : Nat) (t : Nat → Int32) (hin : ln < i + n) (hi : i ≤ ln) (hR : pc_hd ln f b n i = pc_ho ln f b), go_Go X (0, 0) ((ma, .inr (2, [.ref sk, .int (nI g)])) :: (sk, .inl (G.2.1, 8, .inl t)) :: rs) [(0, .ref ma), (1, .ref v), (2, .ref bf), (3, .ref a), (4, .int (nI i))] [] 8 := by
  intro n
  induction n with
  | zero => intro i g t hin hi hR; omega
  | succ n ih =>
    intro i g t hin hi hR
    refine go_iload C dX2_holds_8 4 rfl ?_
    refine go_aload_n C dX2_holds_10 3 rfl rfl ?_
    refine go_cV C (c_X7_length G ((ma, .inr (2, [.ref sk, .int (nI g)])) :: (sk, .inl (G.2.1, 8, .inl t)) :: rs) (p1 + 2) a w ln hp1 ) ml_X2_29 mc_X7_length dX2_holds_11 [.int (nI i)] rfl rfl (p1 + 2) hp1 rfl rfl ⟨Nat.le_of_ble_eq_true rfl, Nat.le_of_ble_eq_true rfl, Nat.zero_le _, Nat.zero_le _, Nat.le_of_ble_eq_true rfl⟩ [.int (nI ln), .int (nI i)] rfl ?_
    refine go_icmp_geN (a := i) (b := ln) C 52 dX2_holds_14 (by decide) (by omega) (by omega) (fun c_14 => ?_) (fun c_14 => ?_)
    · refine go_iconst C (1) dX2_holds_52 (by decide) ?_
      refine go_se [.int (go_b (true))] rfl ?_
      exact go_zretE C E dX2_holds_53 (go_bn _) (t, g) trivial (by rw [← hR]; first | contradiction | rfl | (simp [pc_hd, *]; done) | (rw [decide_eq_true (by omega)]; done) | (rw [decide_eq_false (by omega)]; done) | (simp_all [pc_hd]; done) | (simp [pc_hd]; omega) | (simp_all [pc_hd]; omega) | omega) rfl
    · refine go_aload_n C dX2_holds_17 1 rfl rfl ?_
      refine go_iload C dX2_holds_18 4 rfl ?_
      refine go_cV C (c_X1_isPartStart G ((ma, .inr (2, [.ref sk, .int (nI g)])) :: (sk, .inl (G.2.1, 8, .inl t)) :: rs) (p0 + 2) (p1 + 2) (p2 + 2) v a w ln f i hp0 hp1 hp2 (by omega) (by omega)) ml_X2_39 mc_X1_isPartStart dX2_holds_20 [] rfl rfl (p0 + 2) hp0 rfl rfl ⟨Nat.le_of_ble_eq_true rfl, Nat.le_of_ble_eq_true rfl, Nat.zero_le _, Nat.zero_le _, Nat.le_of_ble_eq_true rfl⟩ [.int (go_b (pc_ps f i))] rfl ?_
      refine go_if_eqB C 46 dX2_holds_23 (by decide) (fun c_23 => ?_) (fun c_23 => ?_)
      · refine go_iinc C (nI (i + 1)) [(0, .ref ma), (1, .ref v), (2, .ref bf), (3, .ref a), (4, .int (nI (i + 1)))] dX2_holds_46 4 [1, 2, 3, 4, 0] rfl (nI_add i 1) (by decide) rfl ?_
        refine go_goto C 8 dX2_holds_49 (by decide) ?_
        exact ih (i + 1) g t (by omega) (by omega) (by rw [← hR]; first | contradiction | rfl | (simp [pc_hd, *]; done) | (rw [decide_eq_true (by omega)]; done) | (rw [decide_eq_false (by omega)]; done) | (simp_all [pc_hd]; done) | (simp [pc_hd]; omega) | (simp_all [pc_hd]; omega) | omega)
      · refine go_aload_n C dX2_holds_26 0 rfl rfl ?_
        refine go_aload_n C dX2_holds_27 3 rfl rfl ?_
        refine go_iload C dX2_holds_28 4 rfl ?_
        refine go_aload_n C dX2_holds_30 1 rfl rfl ?_
        refine go_iload C dX2_holds_31 4 rfl ?_
        refine go_cV C (c_X1_partEnd G ((ma, .inr (2, [.ref sk, .int (nI g)])) :: (sk, .inl (G.2.1, 8, .inl t)) :: rs) (p0 + 2) (p1 + 2) (p2 + 2) v a w ln f i hp0 hp1 hp2 (by omega) (by omega)) ml_X2_43 mc_X1_partEnd dX2_holds_33 [.int (nI i), .ref a, .ref ma] rfl rfl (p0 + 2) hp0 rfl rfl ⟨Nat.le_of_ble_eq_true rfl, Nat.le_of_ble_eq_true rfl, Nat.zero_le _, Nat.zero_le _, Nat.le_of_ble_eq_true rfl⟩ [.int (nI (pc_pe ln f i)), .int (nI i), .ref a, .ref ma] rfl ?_
        have hq := hr i (by omega) c_23
        have hb := pc_pe_bd (ln := ln) (f := f) (i := i) (by omega)
        refine go_aload_n C dX2_holds_36 2 rfl rfl ?_
        refine go_aload_n C dX2_holds_37 2 rfl rfl ?_
        refine go_cV C (c_X2_run G rs p1 p2 p3 ma sk g t a w ln f i (pc_pe ln f i - i) (pc_pe ln f i) bf b hp1 hp2 hp3 (by omega) (by omega) (by omega) hq.1 hq.2) ml_X2_21 mc_X2_run dX2_holds_38 [] rfl rfl 0 rfl rfl rfl ⟨Nat.le_of_ble_eq_true rfl, Nat.le_of_ble_eq_true rfl, Nat.zero_le _, Nat.zero_le _, Nat.le_of_ble_eq_true rfl⟩ [.int (pc_rv f b i (pc_pe ln f i - i))] rfl ?_
        refine go_if_ne C 46 dX2_holds_41 (by decide) (fun c_41 => ?_) (fun c_41 => ?_)
        · refine go_iinc C (nI (i + 1)) [(0, .ref ma), (1, .ref v), (2, .ref bf), (3, .ref a), (4, .int (nI (i + 1)))] dX2_holds_46 4 [1, 2, 3, 4, 0] rfl (nI_add i 1) (by decide) rfl ?_
          refine go_goto C 8 dX2_holds_49 (by decide) ?_
          exact ih (i + 1) 0 ((pc_fo f b (pc_pe ln f i - i) i 0 t).2) (by omega) (by omega) (by rw [← hR]; first | contradiction | rfl | (simp [pc_hd, *]; done) | (rw [decide_eq_true (by omega)]; done) | (rw [decide_eq_false (by omega)]; done) | (simp_all [pc_hd]; done) | (simp [pc_hd]; omega) | (simp_all [pc_hd]; omega) | omega)
        · refine go_iconst C (0) dX2_holds_44 (by decide) ?_
          refine go_se [.int (go_b (false))] rfl ?_
          exact go_zretE C E dX2_holds_45 (go_bn _) ((pc_fo f b (pc_pe ln f i - i) i 0 t).2, 0) trivial (by rw [← hR]; first | contradiction | rfl | (simp [pc_hd, *]; done) | (rw [decide_eq_true (by omega)]; done) | (rw [decide_eq_false (by omega)]; done) | (simp_all [pc_hd]; done) | (simp [pc_hd]; omega) | (simp_all [pc_hd]; omega) | omega) rfl
set_option maxHeartbeats 4000000 in
set_option maxRecDepth 100000 in
theorem c_X2_holds (G : go_G) (rs : va_W) (p0 : Nat) (p1 : Nat) (p2 : Nat) (p3 : Nat) (ma : Nat) (sk : Nat) (h : Nat) (st : Nat → Int32) (v : Nat) (a : Nat) (w : Nat) (ln : Nat) (f : Nat → Int32) (bf : Nat) (b : Nat → Int32) (hp0 : rs[p0]? = some (v, .inr (1, [.ref a]))) (hp1 : rs[p1]? = some (a, .inr (6, [.ref w, .int (nI ln)]))) (hp2 : rs[p2]? = some (w, .inl (G.2.1, 32, .inl f))) (hp3 : rs[p3]? = some (bf, .inl (G.2.1, 6, .inl b))) (hl : ln ≤ 32) (hr : pc_IK ln f) : go_Fe yX2_holds cX2_holds 5 (some .boolean) 3 75 G [.ref ma, .ref v, .ref bf] ((ma, .inr (2, [.ref sk, .int (nI h)])) :: (sk, .inl (G.2.1, 8, .inl st)) :: rs) (S := (Nat → Int32) × Nat) (fun u => True) (fun u => some (.int (go_b (pc_ho ln f b)))) (fun u => (ma, .inr (2, [.ref sk, .int (nI (u.2))])) :: (sk, .inl (G.2.1, 8, .inl u.1)) :: rs) := by
  refine go_Fe_of (by decide) (Nat.le_of_ble_eq_true rfl) (fun X C E => ?_)
  show go_Go X (0, 0) ((ma, .inr (2, [.ref sk, .int (nI h)])) :: (sk, .inl (G.2.1, 8, .inl st)) :: rs) [(0, .ref ma), (1, .ref v), (2, .ref bf)] [] 0
  refine go_aload_n C dX2_holds_0 1 rfl rfl ?_
  refine go_get C (v := .ref a) fl_X2_33 dX2_holds_1 (p0 + 2) hp0 rfl ?_
  refine go_astore_n C [(0, .ref ma), (1, .ref v), (2, .ref bf), (3, .ref a)] dX2_holds_4 [1, 2, 3, 0] rfl (by decide) rfl ?_
  refine go_iconst C (0) dX2_holds_5 (by decide) ?_
  refine go_istore C [(0, .ref ma), (1, .ref v), (2, .ref bf), (3, .ref a), (4, .int 0)] dX2_holds_6 [1, 2, 3, 4, 0] (by decide) rfl ?_
  exact l_X2_holds_8 G rs p0 p1 p2 p3 ma sk h st v a w ln f bf b hp0 hp1 hp2 hp3 hl hr  C E (ln + 1) 0 h st (by omega) (by omega) rfl
end
section
set_option maxHeartbeats 4000000 in
set_option maxRecDepth 100000 in
theorem c_X4_clear (G : go_G) (rs : va_W)  (so : Nat) (va : Nat) (pa : Nat) (ne : Nat) (ol : Nat) (ct : Nat) (Nf : Nat → Int32)   : go_Fn yX4_clear cX4_clear 1 none 1 23 G [.ref so] ((so, .inr (4, [.ref va, .ref pa, .ref ne, .ref ol, .int (nI ct)])) :: (ne, .inl (G.2.1, 512, .inl Nf)) :: rs) (none) ((so, .inr (4, [.ref va, .ref pa, .ref ne, .ref ol, .int (nI 0)])) :: (ne, .inl (G.2.1, 512, .inl (pc_fill 512 (-1) Nf))) :: rs) := by
  refine go_Fn_of (by decide) (Nat.le_of_ble_eq_true rfl) (fun X C E => ?_)
  show go_Go X (0, 0) ((so, .inr (4, [.ref va, .ref pa, .ref ne, .ref ol, .int (nI ct)])) :: (ne, .inl (G.2.1, 512, .inl Nf)) :: rs) [(0, .ref so)] [] 0
  refine go_aload_n C dX4_clear_0 0 rfl rfl ?_
  refine go_iconst C (0) dX4_clear_1 (by decide) ?_
  refine go_put C fp_X4_24 dX4_clear_2 0 rfl rfl rfl (Nat.le_of_ble_eq_true rfl) ((so, .inr (4, [.ref va, .ref pa, .ref ne, .ref ol, .int 0])) :: (ne, .inl (G.2.1, 512, .inl Nf)) :: rs) rfl ?_
  refine go_aload_n C dX4_clear_5 0 rfl rfl ?_
  refine go_get C (v := .ref ne) fl_X4_18 dX4_clear_6 0 rfl rfl ?_
  refine go_iconst C ((-1)) dX4_clear_9 (by decide) ?_
  refine go_perm [(so, .inr (4, [.ref va, .ref pa, .ref ne, .ref ol, .int 0])), (ne, .inl (G.2.1, 512, .inl Nf))] [(ne, .inl (G.2.1, 512, .inl Nf)), (so, .inr (4, [.ref va, .ref pa, .ref ne, .ref ol, .int 0]))] rs [1, 0] rfl rfl rfl ?_
  refine go_cS C (c_J7_fill_53178 G ((so, .inr (4, [.ref va, .ref pa, .ref ne, .ref ol, .int 0])) :: rs)  ne 512 Nf (-1)  (by omega)) ml_X4_28 mc_J7_fill_53178 dX4_clear_10 [] rfl rfl rfl ⟨Nat.le_of_ble_eq_true rfl, Nat.le_of_ble_eq_true rfl, Nat.zero_le _, Nat.zero_le _, Nat.le_of_ble_eq_true rfl⟩ [] rfl ?_
  refine go_perm [(ne, .inl (G.2.1, 512, .inl (pc_fill 512 (-1) Nf))), (so, .inr (4, [.ref va, .ref pa, .ref ne, .ref ol, .int 0]))] [(so, .inr (4, [.ref va, .ref pa, .ref ne, .ref ol, .int 0])), (ne, .inl (G.2.1, 512, .inl (pc_fill 512 (-1) Nf)))] rs [1, 0] rfl rfl rfl ?_
  exact go_vret C E dX4_clear_13 rfl rfl
set_option maxHeartbeats 4000000 in
set_option maxRecDepth 100000 in
theorem c_X4_count (G : go_G) (rs : va_W) (p0 : Nat) (so : Nat) (va : Nat) (pa : Nat) (ne : Nat) (ol : Nat) (ct : Nat) (hp0 : rs[p0]? = some (so, .inr (4, [.ref va, .ref pa, .ref ne, .ref ol, .int (nI ct)])))  : go_Fn yX4_count cX4_count 1 (some .int) 0 0 G [.ref so] rs (some (.int (nI ct))) rs := by
  refine go_Fn_of (by decide) (Nat.le_of_ble_eq_true rfl) (fun X C E => ?_)
  show go_Go X (0, 0) rs [(0, .ref so)] [] 0
  refine go_aload_n C dX4_count_0 0 rfl rfl ?_
  refine go_get C (v := .int (nI ct)) fl_X4_24 dX4_count_1 p0 hp0 rfl ?_
  exact go_iret C E dX4_count_4 rfl rfl
set_option maxHeartbeats 4000000 in
set_option maxRecDepth 100000 in
theorem c_X4_isFull (G : go_G) (rs : va_W) (p0 : Nat) (so : Nat) (va : Nat) (pa : Nat) (ne : Nat) (ol : Nat) (ct : Nat) (hp0 : rs[p0]? = some (so, .inr (4, [.ref va, .ref pa, .ref ne, .ref ol, .int (nI ct)]))) (hc : ct ≤ 400) : go_Fn yX4_isFull cX4_isFull 1 (some .boolean) 0 0 G [.ref so] rs (some (.int (go_b (decide (400 ≤ ct))))) rs := by
  refine go_Fn_of (by decide) (Nat.le_of_ble_eq_true rfl) (fun X C E => ?_)
  show go_Go X (0, 0) rs [(0, .ref so)] [] 0
  refine go_aload_n C dX4_isFull_0 0 rfl rfl ?_
  refine go_get C (v := .int (nI ct)) fl_X4_24 dX4_isFull_1 p0 hp0 rfl ?_
  refine go_sipush C (400) dX4_isFull_4 (by decide) ?_
  refine go_icmp_ltN (a := ct) (b := 400) C 14 dX4_isFull_7 (by decide) (by omega) (by omega) (fun c_7 => ?_) (fun c_7 => ?_)
  · refine go_iconst C (0) dX4_isFull_14 (by decide) ?_
    refine go_se [.int (go_b (false))] rfl ?_
    exact go_zret C E dX4_isFull_15 (go_bn _) (by first | contradiction | rfl | (simp [decide_eq_true_eq, *]; done) | (rw [decide_eq_true (by omega)]; done) | (rw [decide_eq_false (by omega)]; done) | (simp_all [decide_eq_true_eq]; done) | (simp [decide_eq_true_eq]; omega) | (simp_all [decide_eq_true_eq]; omega) | omega) rfl
  · refine go_iconst C (1) dX4_isFull_10 (by decide) ?_
    refine go_goto C 15 dX4_isFull_11 (by decide) ?_
    refine go_se [.int (go_b (true))] rfl ?_
    exact go_zret C E dX4_isFull_15 (go_bn _) (by first | contradiction | rfl | (simp [decide_eq_true_eq, *]; done) | (rw [decide_eq_true (by omega)]; done) | (rw [decide_eq_false (by omega)]; done) | (simp_all [decide_eq_true_eq]; done) | (simp [decide_eq_true_eq]; omega) | (simp_all [decide_eq_true_eq]; omega) | omega) rfl
set_option maxHeartbeats 4000000 in
set_option maxRecDepth 100000 in
theorem c_X4_has (G : go_G) (rs : va_W) (p0 : Nat) (so : Nat) (va : Nat) (pa : Nat) (ne : Nat) (ol : Nat) (ct : Nat) (s : Int32) (hp0 : rs[p0]? = some (so, .inr (4, [.ref va, .ref pa, .ref ne, .ref ol, .int (nI ct)])))  : go_Fn yX4_has cX4_has 2 (some .boolean) 0 0 G [.ref so, .int s] rs (some (.int (go_b (pc_has ct s)))) rs := by
  refine go_Fn_of (by decide) (Nat.le_of_ble_eq_true rfl) (fun X C E => ?_)
  show go_Go X (0, 0) rs [(0, .ref so), (1, .int s)] [] 0
  refine go_iload_n C dX4_has_0 1 rfl rfl ?_
  refine go_if_lt C 16 dX4_has_1 (by decide) (fun c_1 => ?_) (fun c_1 => ?_)
  · refine go_iconst C (0) dX4_has_16 (by decide) ?_
    refine go_se [.int (go_b (false))] rfl ?_
    exact go_zret C E dX4_has_17 (go_bn _) (by first | contradiction | rfl | (simp [pc_has, *]; done) | (rw [decide_eq_true (by omega)]; done) | (rw [decide_eq_false (by omega)]; done) | (simp_all [pc_has]; done) | (simp [pc_has]; omega) | (simp_all [pc_has]; omega) | omega) rfl
  · refine go_iload_n C dX4_has_4 1 rfl rfl ?_
    refine go_aload_n C dX4_has_5 0 rfl rfl ?_
    refine go_get C (v := .int (nI ct)) fl_X4_24 dX4_has_6 p0 hp0 rfl ?_
    refine go_icmp_ge C 16 dX4_has_9 (by decide) (fun c_9 => ?_) (fun c_9 => ?_)
    · refine go_iconst C (0) dX4_has_16 (by decide) ?_
      refine go_se [.int (go_b (false))] rfl ?_
      exact go_zret C E dX4_has_17 (go_bn _) (by first | contradiction | rfl | (simp [pc_has, *]; done) | (rw [decide_eq_true (by omega)]; done) | (rw [decide_eq_false (by omega)]; done) | (simp_all [pc_has]; done) | (simp [pc_has]; omega) | (simp_all [pc_has]; omega) | omega) rfl
    · refine go_iconst C (1) dX4_has_12 (by decide) ?_
      refine go_goto C 17 dX4_has_13 (by decide) ?_
      refine go_se [.int (go_b (true))] rfl ?_
      exact go_zret C E dX4_has_17 (go_bn _) (by first | contradiction | rfl | (simp [pc_has, *]; done) | (rw [decide_eq_true (by omega)]; done) | (rw [decide_eq_false (by omega)]; done) | (simp_all [pc_has]; done) | (simp [pc_has]; omega) | (simp_all [pc_has]; omega) | omega) rfl
set_option maxHeartbeats 4000000 in
set_option maxRecDepth 100000 in
theorem c_X4_parentOf (G : go_G) (rs : va_W) (p0 : Nat) (p1 : Nat) (so : Nat) (va : Nat) (pa : Nat) (ne : Nat) (ol : Nat) (ct : Nat) (Pf : Nat → Int32) (s : Int32) (hp0 : rs[p0]? = some (so, .inr (4, [.ref va, .ref pa, .ref ne, .ref ol, .int (nI ct)]))) (hp1 : rs[p1]? = some (pa, .inl (G.2.1, 400, .inl Pf))) (hc : ct ≤ 400) : go_Fn yX4_parentOf cX4_parentOf 2 (some .int) 1 21 G [.ref so, .int s] rs (some (.int (pc_par ct Pf s))) rs := by
  refine go_Fn_of (by decide) (Nat.le_of_ble_eq_true rfl) (fun X C E => ?_)
  show go_Go X (0, 0) rs [(0, .ref so), (1, .int s)] [] 0
  refine go_aload_n C dX4_parentOf_0 0 rfl rfl ?_
  refine go_iload_n C dX4_parentOf_1 1 rfl rfl ?_
  refine go_cV C (c_X4_has G rs p0 so va pa ne ol ct s hp0 ) ml_X4_34 mc_X4_has dX4_parentOf_2 [] rfl rfl p0 hp0 rfl rfl ⟨Nat.le_of_ble_eq_true rfl, Nat.le_of_ble_eq_true rfl, Nat.zero_le _, Nat.zero_le _, Nat.le_of_ble_eq_true rfl⟩ [.int (go_b (pc_has ct s))] rfl ?_
  refine go_if_eqB C 17 dX4_parentOf_5 (by decide) (fun c_5 => ?_) (fun c_5 => ?_)
  · refine go_iconst C ((-1)) dX4_parentOf_17 (by decide) ?_
    exact go_iret C E dX4_parentOf_18 (by simp [pc_par, c_5]) rfl
  · obtain ⟨hs1, hs2⟩ := pc_has_nI (by omega) c_5
    refine go_aload_n C dX4_parentOf_8 0 rfl rfl ?_
    refine go_get C (v := .ref pa) fl_X4_15 dX4_parentOf_9 p0 hp0 rfl ?_
    refine go_iload_n C dX4_parentOf_12 1 rfl rfl ?_
    refine go_iald C dX4_parentOf_13 p1 hp1 (s.toNatClampNeg) hs1 (by omega) (by decide) ?_
    refine go_goto C 18 dX4_parentOf_14 (by decide) ?_
    exact go_iret C E dX4_parentOf_18 (by simp [pc_par, c_5]) rfl
set_option maxHeartbeats 4000000 in
set_option maxRecDepth 100000 in
theorem c_X4_copyOut (G : go_G) (rs : va_W) (p0 : Nat) (p1 : Nat) (so : Nat) (va : Nat) (pa : Nat) (ne : Nat) (ol : Nat) (ct : Nat) (Vf : Nat → Int32) (s : Nat) (x : Nat) (g : Nat → Int32) (hp0 : rs[p0]? = some (so, .inr (4, [.ref va, .ref pa, .ref ne, .ref ol, .int (nI ct)]))) (hp1 : rs[p1]? = some (va, .inl (G.2.1, 2400, .inl Vf))) (hc : ct ≤ 400) (hs : s < ct) : go_Fn yX4_copyOut cX4_copyOut 3 none 1 44 G [.ref so, .int (nI s), .ref x] ((x, .inl (G.2.1, 6, .inl g)) :: rs) (none) ((x, .inl (G.2.1, 6, .inl (pc_stt Vf s))) :: rs) := by
  refine go_Fn_of (by decide) (Nat.le_of_ble_eq_true rfl) (fun X C E => ?_)
  show go_Go X (0, 0) ((x, .inl (G.2.1, 6, .inl g)) :: rs) [(0, .ref so), (1, .int (nI s)), (2, .ref x)] [] 0
  refine go_aload_n C dX4_copyOut_0 0 rfl rfl ?_
  refine go_iload_n C dX4_copyOut_1 1 rfl rfl ?_
  refine go_cV C (c_X4_has G ((x, .inl (G.2.1, 6, .inl g)) :: rs) (p0 + 1) so va pa ne ol ct (nI s) hp0 ) ml_X4_34 mc_X4_has dX4_copyOut_2 [] rfl rfl (p0 + 1) hp0 rfl rfl ⟨Nat.le_of_ble_eq_true rfl, Nat.le_of_ble_eq_true rfl, Nat.zero_le _, Nat.zero_le _, Nat.le_of_ble_eq_true rfl⟩ [.int (go_b (true))] (by rw [pc_has_t (by omega) (by omega)]; rfl) ?_
  refine go_if_eqB C 23 dX4_copyOut_5 (by decide) (fun c_5 => ?_) (fun c_5 => ?_)
  · cases c_5
  · refine go_aload_n C dX4_copyOut_8 0 rfl rfl ?_
    refine go_get C (v := .ref va) fl_X4_9 dX4_copyOut_9 (p0 + 1) hp0 rfl ?_
    refine go_iload_n C dX4_copyOut_12 1 rfl rfl ?_
    refine go_bipush C (6) dX4_copyOut_13 (by decide) ?_
    refine go_imul C (z := nI (s * 6)) dX4_copyOut_15 (pk_mul s 6) ?_
    refine go_aload_n C dX4_copyOut_16 2 rfl rfl ?_
    refine go_iconst C (0) dX4_copyOut_17 (by decide) ?_
    refine go_bipush C (6) dX4_copyOut_18 (by decide) ?_
    refine go_copy C ml_X4_38 ml_ac dX4_copyOut_20 (p1 + 1) 0 hp1 rfl (s * 6) 0 6 rfl rfl rfl (by omega) (by omega) (by decide) (by decide) ⟨Nat.le_of_ble_eq_true rfl, Nat.le_of_ble_eq_true rfl⟩ ((x, .inl (G.2.1, 6, .inl (va_cpy Vf g (s * 6) 0 6))) :: rs) rfl ?_
    refine go_cont 0 rfl (pc_stt Vf s) (fun j hj => by rw [pk_cpy_in (by omega) (by omega)]; unfold pc_stt; congr 1; omega) ((x, .inl (G.2.1, 6, .inl (pc_stt Vf s))) :: rs) rfl ?_
    exact go_vret C E dX4_copyOut_23 rfl rfl
set_option maxHeartbeats 4000000 in
set_option maxRecDepth 100000 in
theorem l_X4_bucketOf_4 {X : go_X} (G : go_G) (rs : va_W) (p0 : Nat) (x : Nat) (s : Nat → Int32) (hp0 : rs[p0]? = some (x, .inl (G.2.1, 6, .inl s)))  {Rr : Option Value} {W1 : va_W} (fin : Int32) (C : go_Cx X cX4_bucketOf RX4 (some .int) 3 0 0 0 0 G) (E : go_Ex X Rr W1) (K : go_Go X (0, 0) rs [(0, .ref x), (1, .int fin)] [] 25) : ∀ (n : Nat) (i : Nat) (m : Int32) (hin : 6 < i + n) (hi : i ≤ 6) (hm : pc_mx s n i m = fin), go_Go X (0, 0) rs [(0, .ref x), (1, .int m), (2, .int (nI i))] [] 4 := by
  intro n
  induction n with
  | zero => intro i m hin hi hm; omega
  | succ n ih =>
    intro i m hin hi hm
    refine go_iload_n C dX4_bucketOf_4 2 rfl rfl ?_
    refine go_bipush C (6) dX4_bucketOf_5 (by decide) ?_
    refine go_icmp_geN (a := i) (b := 6) C 25 dX4_bucketOf_7 (by decide) (by omega) (by omega) (fun c_7 => ?_) (fun c_7 => ?_)
    · refine go_lv [(0, .ref x), (1, .int m)] [0, 1] rfl ?_
      refine go_le [(0, .ref x), (1, .int fin)] (by rw [← hm]; simp [pc_mx, *]) ?_
      exact K
    · refine go_iload_n C dX4_bucketOf_10 1 rfl rfl ?_
      refine go_bipush C (31) dX4_bucketOf_11 (by decide) ?_
      refine go_imul C (z := m * 31) dX4_bucketOf_13 rfl ?_
      refine go_aload_n C dX4_bucketOf_14 0 rfl rfl ?_
      refine go_iload_n C dX4_bucketOf_15 2 rfl rfl ?_
      refine go_iald C dX4_bucketOf_16 p0 hp0 (i) rfl (by omega) (by decide) ?_
      refine go_iadd C (z := (m * 31) + (s i)) dX4_bucketOf_17 rfl ?_
      refine go_istore_n C [(0, .ref x), (1, .int ((m * 31) + (s i))), (2, .int (nI i))] dX4_bucketOf_18 [1, 0, 2] rfl (by decide) rfl ?_
      refine go_iinc C (nI (i + 1)) [(0, .ref x), (1, .int ((m * 31) + (s i))), (2, .int (nI (i + 1)))] dX4_bucketOf_19 2 [1, 2, 0] rfl (nI_add i 1) (by decide) rfl ?_
      refine go_goto C 4 dX4_bucketOf_22 (by decide) ?_
      exact ih (i + 1) ((m * 31) + (s i)) (by omega) (by omega) (by rw [← hm]; first | contradiction | rfl | (simp [pc_mx, *]; done) | (rw [decide_eq_true (by omega)]; done) | (rw [decide_eq_false (by omega)]; done) | (simp_all [pc_mx]; done) | (simp [pc_mx]; omega) | (simp_all [pc_mx]; omega) | omega)
set_option maxHeartbeats 4000000 in
set_option maxRecDepth 100000 in
theorem c_X4_bucketOf (G : go_G) (rs : va_W) (p0 : Nat) (x : Nat) (s : Nat → Int32) (hp0 : rs[p0]? = some (x, .inl (G.2.1, 6, .inl s)))  : go_Fn yX4_bucketOf cX4_bucketOf 3 (some .int) 0 0 G [.ref x] rs (some (.int (nI (pc_bk s)))) rs := by
  refine go_Fn_of (by decide) (Nat.le_of_ble_eq_true rfl) (fun X C E => ?_)
  show go_Go X (0, 0) rs [(0, .ref x)] [] 0
  refine go_iconst C (0) dX4_bucketOf_0 (by decide) ?_
  refine go_istore_n C [(0, .ref x), (1, .int 0)] dX4_bucketOf_1 [1, 0] rfl (by decide) rfl ?_
  refine go_iconst C (0) dX4_bucketOf_2 (by decide) ?_
  refine go_istore_n C [(0, .ref x), (1, .int 0), (2, .int 0)] dX4_bucketOf_3 [1, 2, 0] rfl (by decide) rfl ?_
  refine l_X4_bucketOf_4 G rs p0 x s hp0  (pc_mx s 7 0 0) C E ?_ 7 0 0 (by omega) (by omega) rfl
  show go_Go X (0, 0) rs [(0, .ref x), (1, .int (pc_mx s 7 0 0))] [] 25
  refine go_iload_n C dX4_bucketOf_25 1 rfl rfl ?_
  refine go_iload_n C dX4_bucketOf_26 1 rfl rfl ?_
  refine go_bipush C (9) dX4_bucketOf_27 (by decide) ?_
  refine go_iushr C (z := go_us (pc_mx s 7 0 0) 9) dX4_bucketOf_29 rfl ?_
  refine go_ixor C (z := (pc_mx s 7 0 0) ^^^ (go_us (pc_mx s 7 0 0) 9)) dX4_bucketOf_30 rfl ?_
  refine go_iload_n C dX4_bucketOf_31 1 rfl rfl ?_
  refine go_bipush C (18) dX4_bucketOf_32 (by decide) ?_
  refine go_iushr C (z := go_us (pc_mx s 7 0 0) 18) dX4_bucketOf_34 rfl ?_
  refine go_ixor C (z := ((pc_mx s 7 0 0) ^^^ (go_us (pc_mx s 7 0 0) 9)) ^^^ (go_us (pc_mx s 7 0 0) 18)) dX4_bucketOf_35 rfl ?_
  refine go_sipush C (511) dX4_bucketOf_36 (by decide) ?_
  refine go_iand C (z := nI (pc_bk s)) dX4_bucketOf_39 (pk_and _ 9 (by decide)) ?_
  exact go_iret C E dX4_bucketOf_40 rfl rfl
set_option maxHeartbeats 4000000 in
set_option maxRecDepth 100000 in
theorem l_X4_isState_2 {X : go_X} (G : go_G) (rs : va_W) (p0 : Nat) (p1 : Nat) (p2 : Nat) (so : Nat) (va : Nat) (pa : Nat) (ne : Nat) (ol : Nat) (ct : Nat) (Vf : Nat → Int32) (s : Nat) (x : Nat) (t : Nat → Int32) (hp0 : rs[p0]? = some (so, .inr (4, [.ref va, .ref pa, .ref ne, .ref ol, .int (nI ct)]))) (hp1 : rs[p1]? = some (va, .inl (G.2.1, 2400, .inl Vf))) (hp2 : rs[p2]? = some (x, .inl (G.2.1, 6, .inl t))) (hs : s < 400) {Rr : Option Value}  (C : go_Cx X cX4_isState RX4 (some .boolean) 4 0 0 0 0 G) (E : go_Ex X Rr rs)  : ∀ (n : Nat) (i : Nat) (hin : 6 < i + n) (hi : i ≤ 6) (hR : some (.int (go_b (pc_e6 Vf s t n i))) = Rr), go_Go X (0, 0) rs [(0, .ref so), (1, .int (nI s)), (2, .ref x), (3, .int (nI i))] [] 2 := by
  intro n
  induction n with
  | zero => intro i hin hi hR; omega
  | succ n ih =>
    intro i hin hi hR
    refine go_iload_n C dX4_isState_2 3 rfl rfl ?_
    refine go_bipush C (6) dX4_isState_3 (by decide) ?_
    refine go_icmp_geN (a := i) (b := 6) C 33 dX4_isState_5 (by decide) (by omega) (by omega) (fun c_5 => ?_) (fun c_5 => ?_)
    · refine go_iconst C (1) dX4_isState_33 (by decide) ?_
      refine go_se [.int (go_b (true))] rfl ?_
      exact go_zret C E dX4_isState_34 (go_bn _) (by rw [← hR]; first | contradiction | rfl | (simp [pc_e6, *]; done) | (rw [decide_eq_true (by omega)]; done) | (rw [decide_eq_false (by omega)]; done) | (simp_all [pc_e6]; done) | (simp [pc_e6]; omega) | (simp_all [pc_e6]; omega) | omega) rfl
    · refine go_aload_n C dX4_isState_8 0 rfl rfl ?_
      refine go_get C (v := .ref va) fl_X4_9 dX4_isState_9 p0 hp0 rfl ?_
      refine go_iload_n C dX4_isState_12 1 rfl rfl ?_
      refine go_bipush C (6) dX4_isState_13 (by decide) ?_
      refine go_imul C (z := nI (s * 6)) dX4_isState_15 (pk_mul s 6) ?_
      refine go_iload_n C dX4_isState_16 3 rfl rfl ?_
      refine go_iadd C (z := nI ((s * 6) + i)) dX4_isState_17 (nI_add (s * 6) i) ?_
      refine go_iald C dX4_isState_18 p1 hp1 ((s * 6) + i) rfl (by omega) (by decide) ?_
      refine go_aload_n C dX4_isState_19 2 rfl rfl ?_
      refine go_iload_n C dX4_isState_20 3 rfl rfl ?_
      refine go_iald C dX4_isState_21 p2 hp2 (i) rfl (by omega) (by decide) ?_
      refine go_icmp_eq C 27 dX4_isState_22 (by decide) (fun c_22 => ?_) (fun c_22 => ?_)
      · refine go_iinc C (nI (i + 1)) [(0, .ref so), (1, .int (nI s)), (2, .ref x), (3, .int (nI (i + 1)))] dX4_isState_27 3 [1, 2, 3, 0] rfl (nI_add i 1) (by decide) rfl ?_
        refine go_goto C 2 dX4_isState_30 (by decide) ?_
        exact ih (i + 1) (by omega) (by omega) (by rw [← hR]; first | contradiction | rfl | (simp [pc_e6, *]; done) | (rw [decide_eq_true (by omega)]; done) | (rw [decide_eq_false (by omega)]; done) | (simp_all [pc_e6]; done) | (simp [pc_e6]; omega) | (simp_all [pc_e6]; omega) | omega)
      · refine go_iconst C (0) dX4_isState_25 (by decide) ?_
        refine go_se [.int (go_b (false))] rfl ?_
        exact go_zret C E dX4_isState_26 (go_bn _) (by rw [← hR]; first | contradiction | rfl | (simp [pc_e6, *]; done) | (rw [decide_eq_true (by omega)]; done) | (rw [decide_eq_false (by omega)]; done) | (simp_all [pc_e6]; done) | (simp [pc_e6]; omega) | (simp_all [pc_e6]; omega) | omega) rfl
set_option maxHeartbeats 4000000 in
set_option maxRecDepth 100000 in
theorem c_X4_isState (G : go_G) (rs : va_W) (p0 : Nat) (p1 : Nat) (p2 : Nat) (so : Nat) (va : Nat) (pa : Nat) (ne : Nat) (ol : Nat) (ct : Nat) (Vf : Nat → Int32) (s : Nat) (x : Nat) (t : Nat → Int32) (hp0 : rs[p0]? = some (so, .inr (4, [.ref va, .ref pa, .ref ne, .ref ol, .int (nI ct)]))) (hp1 : rs[p1]? = some (va, .inl (G.2.1, 2400, .inl Vf))) (hp2 : rs[p2]? = some (x, .inl (G.2.1, 6, .inl t))) (hs : s < 400) : go_Fn yX4_isState cX4_isState 4 (some .boolean) 0 0 G [.ref so, .int (nI s), .ref x] rs (some (.int (go_b (pc_e6 Vf s t 7 0)))) rs := by
  refine go_Fn_of (by decide) (Nat.le_of_ble_eq_true rfl) (fun X C E => ?_)
  show go_Go X (0, 0) rs [(0, .ref so), (1, .int (nI s)), (2, .ref x)] [] 0
  refine go_iconst C (0) dX4_isState_0 (by decide) ?_
  refine go_istore_n C [(0, .ref so), (1, .int (nI s)), (2, .ref x), (3, .int 0)] dX4_isState_1 [1, 2, 3, 0] rfl (by decide) rfl ?_
  exact l_X4_isState_2 G rs p0 p1 p2 so va pa ne ol ct Vf s x t hp0 hp1 hp2 hs  C E 7 0 (by omega) (by omega) rfl
set_option maxHeartbeats 4000000 in
set_option maxRecDepth 100000 in
theorem c_X4_add (G : go_G) (rs : va_W) (p0 : Nat) (so : Nat) (va : Nat) (pa : Nat) (ne : Nat) (ol : Nat) (ct : Nat) (Vf : Nat → Int32) (Pf : Nat → Int32) (Nf : Nat → Int32) (Of : Nat → Int32) (x : Nat) (t : Nat → Int32) (q : Int32) (hp0 : rs[p0]? = some (x, .inl (G.2.1, 6, .inl t))) (hc : ct < 400) : go_Fn yX4_add cX4_add 4 none 1 44 G [.ref so, .ref x, .int q] ((so, .inr (4, [.ref va, .ref pa, .ref ne, .ref ol, .int (nI ct)])) :: (va, .inl (G.2.1, 2400, .inl Vf)) :: (pa, .inl (G.2.1, 400, .inl Pf)) :: (ne, .inl (G.2.1, 512, .inl Nf)) :: (ol, .inl (G.2.1, 400, .inl Of)) :: rs) (none) ((so, .inr (4, [.ref va, .ref pa, .ref ne, .ref ol, .int (nI (ct + 1))])) :: (va, .inl (G.2.1, 2400, .inl (pc_wr Vf ct t))) :: (pa, .inl (G.2.1, 400, .inl (upd Pf ct q))) :: (ne, .inl (G.2.1, 512, .inl (upd Nf (pc_bk t) (nI ct)))) :: (ol, .inl (G.2.1, 400, .inl (upd Of ct (Nf (pc_bk t))))) :: rs) := by
  refine go_Fn_of (by decide) (Nat.le_of_ble_eq_true rfl) (fun X C E => ?_)
  show go_Go X (0, 0) ((so, .inr (4, [.ref va, .ref pa, .ref ne, .ref ol, .int (nI ct)])) :: (va, .inl (G.2.1, 2400, .inl Vf)) :: (pa, .inl (G.2.1, 400, .inl Pf)) :: (ne, .inl (G.2.1, 512, .inl Nf)) :: (ol, .inl (G.2.1, 400, .inl Of)) :: rs) [(0, .ref so), (1, .ref x), (2, .int q)] [] 0
  have hbk := pc_bk_lt t
  refine go_aload_n C dX4_add_0 0 rfl rfl ?_
  refine go_get C (v := .int (nI ct)) fl_X4_24 dX4_add_1 0 rfl rfl ?_
  refine go_sipush C (400) dX4_add_4 (by decide) ?_
  refine go_icmp_ltN (a := ct) (b := 400) C 11 dX4_add_7 (by decide) (by omega) (by omega) (fun c_7 => ?_) (fun c_7 => ?_)
  · refine go_aload_n C dX4_add_11 1 rfl rfl ?_
    refine go_cS C (c_X4_bucketOf G ((so, .inr (4, [.ref va, .ref pa, .ref ne, .ref ol, .int (nI ct)])) :: (va, .inl (G.2.1, 2400, .inl Vf)) :: (pa, .inl (G.2.1, 400, .inl Pf)) :: (ne, .inl (G.2.1, 512, .inl Nf)) :: (ol, .inl (G.2.1, 400, .inl Of)) :: rs) (p0 + 5) x t hp0 ) ml_X4_44 mc_X4_bucketOf dX4_add_12 [] rfl rfl rfl ⟨Nat.le_of_ble_eq_true rfl, Nat.le_of_ble_eq_true rfl, Nat.zero_le _, Nat.zero_le _, Nat.le_of_ble_eq_true rfl⟩ [.int (nI (pc_bk t))] rfl ?_
    refine go_istore_n C [(0, .ref so), (1, .ref x), (2, .int q), (3, .int (nI (pc_bk t)))] dX4_add_15 [1, 2, 3, 0] rfl (by decide) rfl ?_
    refine go_aload_n C dX4_add_16 1 rfl rfl ?_
    refine go_iconst C (0) dX4_add_17 (by decide) ?_
    refine go_aload_n C dX4_add_18 0 rfl rfl ?_
    refine go_get C (v := .ref va) fl_X4_9 dX4_add_19 0 rfl rfl ?_
    refine go_aload_n C dX4_add_22 0 rfl rfl ?_
    refine go_get C (v := .int (nI ct)) fl_X4_24 dX4_add_23 0 rfl rfl ?_
    refine go_bipush C (6) dX4_add_26 (by decide) ?_
    refine go_imul C (z := nI (ct * 6)) dX4_add_28 (pk_mul ct 6) ?_
    refine go_bipush C (6) dX4_add_29 (by decide) ?_
    refine go_copy C ml_X4_38 ml_ac dX4_add_31 (p0 + 5) 1 hp0 rfl 0 (ct * 6) 6 rfl rfl rfl (by omega) (by omega) (by decide) (by decide) ⟨Nat.le_of_ble_eq_true rfl, Nat.le_of_ble_eq_true rfl⟩ ((so, .inr (4, [.ref va, .ref pa, .ref ne, .ref ol, .int (nI ct)])) :: (va, .inl (G.2.1, 2400, .inl (va_cpy t Vf 0 (ct * 6) 6))) :: (pa, .inl (G.2.1, 400, .inl Pf)) :: (ne, .inl (G.2.1, 512, .inl Nf)) :: (ol, .inl (G.2.1, 400, .inl Of)) :: rs) rfl ?_
    refine go_we ((so, .inr (4, [.ref va, .ref pa, .ref ne, .ref ol, .int (nI ct)])) :: (va, .inl (G.2.1, 2400, .inl (pc_wr Vf ct t))) :: (pa, .inl (G.2.1, 400, .inl Pf)) :: (ne, .inl (G.2.1, 512, .inl Nf)) :: (ol, .inl (G.2.1, 400, .inl Of)) :: rs) (by rw [pc_wr_eq _ ct _ _ (by omega)]) ?_
    refine go_aload_n C dX4_add_34 0 rfl rfl ?_
    refine go_get C (v := .ref pa) fl_X4_15 dX4_add_35 0 rfl rfl ?_
    refine go_aload_n C dX4_add_38 0 rfl rfl ?_
    refine go_get C (v := .int (nI ct)) fl_X4_24 dX4_add_39 0 rfl rfl ?_
    refine go_iload_n C dX4_add_42 2 rfl rfl ?_
    refine go_iast C dX4_add_43 2 rfl (ct) rfl (by omega) (by decide) ((so, .inr (4, [.ref va, .ref pa, .ref ne, .ref ol, .int (nI ct)])) :: (va, .inl (G.2.1, 2400, .inl (pc_wr Vf ct t))) :: (pa, .inl (G.2.1, 400, .inl (upd Pf ct q))) :: (ne, .inl (G.2.1, 512, .inl Nf)) :: (ol, .inl (G.2.1, 400, .inl Of)) :: rs) rfl ?_
    refine go_aload_n C dX4_add_44 0 rfl rfl ?_
    refine go_get C (v := .ref ol) fl_X4_21 dX4_add_45 0 rfl rfl ?_
    refine go_aload_n C dX4_add_48 0 rfl rfl ?_
    refine go_get C (v := .int (nI ct)) fl_X4_24 dX4_add_49 0 rfl rfl ?_
    refine go_aload_n C dX4_add_52 0 rfl rfl ?_
    refine go_get C (v := .ref ne) fl_X4_18 dX4_add_53 0 rfl rfl ?_
    refine go_iload_n C dX4_add_56 3 rfl rfl ?_
    refine go_iald C dX4_add_57 3 rfl (pc_bk t) rfl (by omega) (by decide) ?_
    refine go_iast C dX4_add_58 4 rfl (ct) rfl (by omega) (by decide) ((so, .inr (4, [.ref va, .ref pa, .ref ne, .ref ol, .int (nI ct)])) :: (va, .inl (G.2.1, 2400, .inl (pc_wr Vf ct t))) :: (pa, .inl (G.2.1, 400, .inl (upd Pf ct q))) :: (ne, .inl (G.2.1, 512, .inl Nf)) :: (ol, .inl (G.2.1, 400, .inl (upd Of ct (Nf (pc_bk t))))) :: rs) rfl ?_
    refine go_aload_n C dX4_add_59 0 rfl rfl ?_
    refine go_get C (v := .ref ne) fl_X4_18 dX4_add_60 0 rfl rfl ?_
    refine go_iload_n C dX4_add_63 3 rfl rfl ?_
    refine go_aload_n C dX4_add_64 0 rfl rfl ?_
    refine go_get C (v := .int (nI ct)) fl_X4_24 dX4_add_65 0 rfl rfl ?_
    refine go_iast C dX4_add_68 3 rfl (pc_bk t) rfl (by omega) (by decide) ((so, .inr (4, [.ref va, .ref pa, .ref ne, .ref ol, .int (nI ct)])) :: (va, .inl (G.2.1, 2400, .inl (pc_wr Vf ct t))) :: (pa, .inl (G.2.1, 400, .inl (upd Pf ct q))) :: (ne, .inl (G.2.1, 512, .inl (upd Nf (pc_bk t) (nI ct)))) :: (ol, .inl (G.2.1, 400, .inl (upd Of ct (Nf (pc_bk t))))) :: rs) rfl ?_
    refine go_aload_n C dX4_add_69 0 rfl rfl ?_
    refine go_dup C dX4_add_70 rfl ?_
    refine go_get C (v := .int (nI ct)) fl_X4_24 dX4_add_71 0 rfl rfl ?_
    refine go_iconst C (1) dX4_add_74 (by decide) ?_
    refine go_iadd C (z := nI (ct + 1)) dX4_add_75 (nI_add ct 1) ?_
    refine go_put C fp_X4_24 dX4_add_76 0 rfl rfl rfl (Nat.le_of_ble_eq_true rfl) ((so, .inr (4, [.ref va, .ref pa, .ref ne, .ref ol, .int (nI (ct + 1))])) :: (va, .inl (G.2.1, 2400, .inl (pc_wr Vf ct t))) :: (pa, .inl (G.2.1, 400, .inl (upd Pf ct q))) :: (ne, .inl (G.2.1, 512, .inl (upd Nf (pc_bk t) (nI ct)))) :: (ol, .inl (G.2.1, 400, .inl (upd Of ct (Nf (pc_bk t))))) :: rs) rfl ?_
    exact go_vret C E dX4_add_79 rfl rfl
  · omega
set_option maxHeartbeats 4000000 in
set_option maxRecDepth 100000 in
theorem l_X4_find_12 {X : go_X} (G : go_G) (rs : va_W) (p0 : Nat) (p1 : Nat) (p2 : Nat) (p3 : Nat) (p4 : Nat) (so : Nat) (va : Nat) (pa : Nat) (ne : Nat) (ol : Nat) (ct : Nat) (Vf : Nat → Int32) (Nf : Nat → Int32) (Of : Nat → Int32) (x : Nat) (t : Nat → Int32) (hp0 : rs[p0]? = some (so, .inr (4, [.ref va, .ref pa, .ref ne, .ref ol, .int (nI ct)]))) (hp1 : rs[p1]? = some (va, .inl (G.2.1, 2400, .inl Vf))) (hp2 : rs[p2]? = some (ne, .inl (G.2.1, 512, .inl Nf))) (hp3 : rs[p3]? = some (ol, .inl (G.2.1, 400, .inl Of))) (hp4 : rs[p4]? = some (x, .inl (G.2.1, 6, .inl t))) (hc : ct ≤ 400) {Rr : Option Value}  (C : go_Cx X cX4_find RX4 (some .int) 4 1 23 0 0 G) (E : go_Ex X Rr rs)  : ∀ (n : Nat) (i : Nat) (s : Int32) (hin : 400 < i + n) (hi : i ≤ 400) (hR : some (.int (pc_fd ct Vf Of t n i s)) = Rr), go_Go X (0, 0) rs [(0, .ref so), (1, .ref x), (2, .int s), (3, .int (nI i))] [] 12 := by
  intro n
  induction n with
  | zero => intro i s hin hi hR; omega
  | succ n ih =>
    intro i s hin hi hR
    refine go_iload_n C dX4_find_12 3 rfl rfl ?_
    refine go_sipush C (400) dX4_find_13 (by decide) ?_
    refine go_icmp_geN (a := i) (b := 400) C 51 dX4_find_16 (by decide) (by omega) (by omega) (fun c_16 => ?_) (fun c_16 => ?_)
    · refine go_iconst C ((-1)) dX4_find_51 (by decide) ?_
      exact go_iret C E dX4_find_52 (by rw [← hR]; first | (simp [pc_fd, c_16, c_24, c_33]; done) | (simp [pc_fd, c_16, c_24]; done) | (simp [pc_fd, c_16]; done)) rfl
    · refine go_aload_n C dX4_find_19 0 rfl rfl ?_
      refine go_iload_n C dX4_find_20 2 rfl rfl ?_
      refine go_cV C (c_X4_has G rs p0 so va pa ne ol ct s hp0 ) ml_X4_34 mc_X4_has dX4_find_21 [] rfl rfl p0 hp0 rfl rfl ⟨Nat.le_of_ble_eq_true rfl, Nat.le_of_ble_eq_true rfl, Nat.zero_le _, Nat.zero_le _, Nat.le_of_ble_eq_true rfl⟩ [.int (go_b (pc_has ct s))] rfl ?_
      refine go_if_eqB C 51 dX4_find_24 (by decide) (fun c_24 => ?_) (fun c_24 => ?_)
      · refine go_iconst C ((-1)) dX4_find_51 (by decide) ?_
        exact go_iret C E dX4_find_52 (by rw [← hR]; first | (simp [pc_fd, c_16, c_24, c_33]; done) | (simp [pc_fd, c_16, c_24]; done) | (simp [pc_fd, c_16]; done)) rfl
      · obtain ⟨hs1, hs2⟩ := pc_has_nI (by omega) c_24
        refine go_aload_n C dX4_find_27 0 rfl rfl ?_
        refine go_iload_n C dX4_find_28 2 rfl rfl ?_
        refine go_se [.int (nI (s.toNatClampNeg)), .ref so] (by rw [← hs1]) ?_
        refine go_aload_n C dX4_find_29 1 rfl rfl ?_
        refine go_cV C (c_X4_isState G rs p0 p1 p4 so va pa ne ol ct Vf s.toNatClampNeg x t hp0 hp1 hp4 (by omega)) ml_X4_48 mc_X4_isState dX4_find_30 [] rfl rfl p0 hp0 rfl rfl ⟨Nat.le_of_ble_eq_true rfl, Nat.le_of_ble_eq_true rfl, Nat.zero_le _, Nat.zero_le _, Nat.le_of_ble_eq_true rfl⟩ [.int (go_b (pc_e6 Vf s.toNatClampNeg t 7 0))] rfl ?_
        refine go_if_eqB C 38 dX4_find_33 (by decide) (fun c_33 => ?_) (fun c_33 => ?_)
        · refine go_aload_n C dX4_find_38 0 rfl rfl ?_
          refine go_get C (v := .ref ol) fl_X4_21 dX4_find_39 p0 hp0 rfl ?_
          refine go_iload_n C dX4_find_42 2 rfl rfl ?_
          refine go_iald C dX4_find_43 p3 hp3 (s.toNatClampNeg) hs1 (by omega) (by decide) ?_
          refine go_istore_n C [(0, .ref so), (1, .ref x), (2, .int (Of s.toNatClampNeg)), (3, .int (nI i))] dX4_find_44 [1, 2, 0, 3] rfl (by decide) rfl ?_
          refine go_iinc C (nI (i + 1)) [(0, .ref so), (1, .ref x), (2, .int (Of s.toNatClampNeg)), (3, .int (nI (i + 1)))] dX4_find_45 3 [1, 2, 3, 0] rfl (nI_add i 1) (by decide) rfl ?_
          refine go_goto C 12 dX4_find_48 (by decide) ?_
          exact ih (i + 1) (Of s.toNatClampNeg) (by omega) (by omega) (by rw [← hR]; simp [pc_fd, c_16, c_24, c_33])
        · refine go_iload_n C dX4_find_36 2 rfl rfl ?_
          exact go_iret C E dX4_find_37 (by rw [← hR]; first | (simp [pc_fd, c_16, c_24, c_33]; done) | (simp [pc_fd, c_16, c_24]; done) | (simp [pc_fd, c_16]; done)) rfl
set_option maxHeartbeats 4000000 in
set_option maxRecDepth 100000 in
theorem c_X4_find (G : go_G) (rs : va_W) (p0 : Nat) (p1 : Nat) (p2 : Nat) (p3 : Nat) (p4 : Nat) (so : Nat) (va : Nat) (pa : Nat) (ne : Nat) (ol : Nat) (ct : Nat) (Vf : Nat → Int32) (Nf : Nat → Int32) (Of : Nat → Int32) (x : Nat) (t : Nat → Int32) (hp0 : rs[p0]? = some (so, .inr (4, [.ref va, .ref pa, .ref ne, .ref ol, .int (nI ct)]))) (hp1 : rs[p1]? = some (va, .inl (G.2.1, 2400, .inl Vf))) (hp2 : rs[p2]? = some (ne, .inl (G.2.1, 512, .inl Nf))) (hp3 : rs[p3]? = some (ol, .inl (G.2.1, 400, .inl Of))) (hp4 : rs[p4]? = some (x, .inl (G.2.1, 6, .inl t))) (hc : ct ≤ 400) : go_Fn yX4_find cX4_find 4 (some .int) 1 23 G [.ref so, .ref x] rs (some (.int (pc_fd ct Vf Of t 401 0 (Nf (pc_bk t))))) rs := by
  refine go_Fn_of (by decide) (Nat.le_of_ble_eq_true rfl) (fun X C E => ?_)
  show go_Go X (0, 0) rs [(0, .ref so), (1, .ref x)] [] 0
  have hbk := pc_bk_lt t
  refine go_aload_n C dX4_find_0 0 rfl rfl ?_
  refine go_get C (v := .ref ne) fl_X4_18 dX4_find_1 p0 hp0 rfl ?_
  refine go_aload_n C dX4_find_4 1 rfl rfl ?_
  refine go_cS C (c_X4_bucketOf G rs p4 x t hp4 ) ml_X4_44 mc_X4_bucketOf dX4_find_5 [.ref ne] rfl rfl rfl ⟨Nat.le_of_ble_eq_true rfl, Nat.le_of_ble_eq_true rfl, Nat.zero_le _, Nat.zero_le _, Nat.le_of_ble_eq_true rfl⟩ [.int (nI (pc_bk t)), .ref ne] rfl ?_
  refine go_iald C dX4_find_8 p2 hp2 (pc_bk t) rfl (by omega) (by decide) ?_
  refine go_istore_n C [(0, .ref so), (1, .ref x), (2, .int (Nf (pc_bk t)))] dX4_find_9 [1, 2, 0] rfl (by decide) rfl ?_
  refine go_iconst C (0) dX4_find_10 (by decide) ?_
  refine go_istore_n C [(0, .ref so), (1, .ref x), (2, .int (Nf (pc_bk t))), (3, .int 0)] dX4_find_11 [1, 2, 3, 0] rfl (by decide) rfl ?_
  exact l_X4_find_12 G rs p0 p1 p2 p3 p4 so va pa ne ol ct Vf Nf Of x t hp0 hp1 hp2 hp3 hp4 hc  C E 401 0 (Nf (pc_bk t)) (by omega) (by omega) rfl
set_option maxHeartbeats 4000000 in
set_option maxRecDepth 100000 in
theorem c_X5_clear (G : go_G) (rs : va_W)  (tr : Nat) (wy : Nat) (fd : Nat) (tv : Nat) (sp : Nat)   : go_Fn yX5_clear cX5_clear 1 none 0 0 G [.ref tr] ((tr, .inr (5, [.ref wy, .ref fd, .ref tv, .int (nI sp)])) :: rs) (none) ((tr, .inr (5, [.ref wy, .ref fd, .ref tv, .int (nI 0)])) :: rs) := by
  refine go_Fn_of (by decide) (Nat.le_of_ble_eq_true rfl) (fun X C E => ?_)
  show go_Go X (0, 0) ((tr, .inr (5, [.ref wy, .ref fd, .ref tv, .int (nI sp)])) :: rs) [(0, .ref tr)] [] 0
  refine go_aload_n C dX5_clear_0 0 rfl rfl ?_
  refine go_iconst C (0) dX5_clear_1 (by decide) ?_
  refine go_put C fp_X5_21 dX5_clear_2 0 rfl rfl rfl (Nat.le_of_ble_eq_true rfl) ((tr, .inr (5, [.ref wy, .ref fd, .ref tv, .int 0])) :: rs) rfl ?_
  exact go_vret C E dX5_clear_5 rfl rfl
set_option maxHeartbeats 4000000 in
set_option maxRecDepth 100000 in
theorem c_X5_steps (G : go_G) (rs : va_W) (p0 : Nat) (tr : Nat) (wy : Nat) (fd : Nat) (tv : Nat) (sp : Nat) (hp0 : rs[p0]? = some (tr, .inr (5, [.ref wy, .ref fd, .ref tv, .int (nI sp)])))  : go_Fn yX5_steps cX5_steps 1 (some .int) 0 0 G [.ref tr] rs (some (.int (nI sp))) rs := by
  refine go_Fn_of (by decide) (Nat.le_of_ble_eq_true rfl) (fun X C E => ?_)
  show go_Go X (0, 0) rs [(0, .ref tr)] [] 0
  refine go_aload_n C dX5_steps_0 0 rfl rfl ?_
  refine go_get C (v := .int (nI sp)) fl_X5_21 dX5_steps_1 p0 hp0 rfl ?_
  exact go_iret C E dX5_steps_4 rfl rfl
set_option maxHeartbeats 4000000 in
set_option maxRecDepth 100000 in
theorem c_X5_hasState (G : go_G) (rs : va_W) (p0 : Nat) (tr : Nat) (wy : Nat) (fd : Nat) (tv : Nat) (sp : Nat) (i : Int32) (hp0 : rs[p0]? = some (tr, .inr (5, [.ref wy, .ref fd, .ref tv, .int (nI sp)])))  : go_Fn yX5_hasState cX5_hasState 2 (some .boolean) 0 0 G [.ref tr, .int i] rs (some (.int (go_b (pc_hst sp i)))) rs := by
  refine go_Fn_of (by decide) (Nat.le_of_ble_eq_true rfl) (fun X C E => ?_)
  show go_Go X (0, 0) rs [(0, .ref tr), (1, .int i)] [] 0
  refine go_iload_n C dX5_hasState_0 1 rfl rfl ?_
  refine go_if_lt C 23 dX5_hasState_1 (by decide) (fun c_1 => ?_) (fun c_1 => ?_)
  · refine go_iconst C (0) dX5_hasState_23 (by decide) ?_
    refine go_se [.int (go_b (false))] rfl ?_
    exact go_zret C E dX5_hasState_24 (go_bn _) (by first | contradiction | rfl | (simp [pc_hst, *]; done) | (rw [decide_eq_true (by omega)]; done) | (rw [decide_eq_false (by omega)]; done) | (simp_all [pc_hst]; done) | (simp [pc_hst]; omega) | (simp_all [pc_hst]; omega) | omega) rfl
  · refine go_iload_n C dX5_hasState_4 1 rfl rfl ?_
    refine go_aload_n C dX5_hasState_5 0 rfl rfl ?_
    refine go_get C (v := .int (nI sp)) fl_X5_21 dX5_hasState_6 p0 hp0 rfl ?_
    refine go_icmp_gt C 23 dX5_hasState_9 (by decide) (fun c_9 => ?_) (fun c_9 => ?_)
    · refine go_iconst C (0) dX5_hasState_23 (by decide) ?_
      refine go_se [.int (go_b (false))] rfl ?_
      exact go_zret C E dX5_hasState_24 (go_bn _) (by first | contradiction | rfl | (simp [pc_hst, *]; done) | (rw [decide_eq_true (by omega)]; done) | (rw [decide_eq_false (by omega)]; done) | (simp_all [pc_hst]; done) | (simp [pc_hst]; omega) | (simp_all [pc_hst]; omega) | omega) rfl
    · refine go_iload_n C dX5_hasState_12 1 rfl rfl ?_
      refine go_sipush C (400) dX5_hasState_13 (by decide) ?_
      refine go_icmp_ge C 23 dX5_hasState_16 (by decide) (fun c_16 => ?_) (fun c_16 => ?_)
      · refine go_iconst C (0) dX5_hasState_23 (by decide) ?_
        refine go_se [.int (go_b (false))] rfl ?_
        exact go_zret C E dX5_hasState_24 (go_bn _) (by first | contradiction | rfl | (simp [pc_hst, *]; done) | (rw [decide_eq_true (by omega)]; done) | (rw [decide_eq_false (by omega)]; done) | (simp_all [pc_hst]; done) | (simp [pc_hst]; omega) | (simp_all [pc_hst]; omega) | omega) rfl
      · refine go_iconst C (1) dX5_hasState_19 (by decide) ?_
        refine go_goto C 24 dX5_hasState_20 (by decide) ?_
        refine go_se [.int (go_b (true))] rfl ?_
        exact go_zret C E dX5_hasState_24 (go_bn _) (by first | contradiction | rfl | (simp [pc_hst, *]; done) | (rw [decide_eq_true (by omega)]; done) | (rw [decide_eq_false (by omega)]; done) | (simp_all [pc_hst]; done) | (simp [pc_hst]; omega) | (simp_all [pc_hst]; omega) | omega) rfl
set_option maxHeartbeats 4000000 in
set_option maxRecDepth 100000 in
theorem l_X5_stepsTo_4 {X : go_X} (G : go_G) (rs : va_W) (p0 : Nat) (p1 : Nat) (so : Nat) (va : Nat) (pa : Nat) (ne : Nat) (ol : Nat) (ct : Nat) (Pf : Nat → Int32) (s : Int32) (hp0 : rs[p0]? = some (so, .inr (4, [.ref va, .ref pa, .ref ne, .ref ol, .int (nI ct)]))) (hp1 : rs[p1]? = some (pa, .inl (G.2.1, 400, .inl Pf))) (hc : ct ≤ 400) {Rr : Option Value}  (C : go_Cx X cX5_stepsTo RX5 (some .int) 4 2 42 0 0 G) (E : go_Ex X Rr rs)  : ∀ (n : Nat) (k : Nat) (z : Int32) (hin : 399 < k + n) (hk : k ≤ 399) (hR : some (.int (nI (pc_sp ct Pf n k z))) = Rr), go_Go X (0, 0) rs [(0, .int s), (1, .ref so), (2, .int z), (3, .int (nI k))] [] 4 := by
  intro n
  induction n with
  | zero => intro k z hin hk hR; omega
  | succ n ih =>
    intro k z hin hk hR
    refine go_iload_n C dX5_stepsTo_4 3 rfl rfl ?_
    refine go_sipush C (399) dX5_stepsTo_5 (by decide) ?_
    refine go_icmp_geN (a := k) (b := 399) C 32 dX5_stepsTo_8 (by decide) (by omega) (by omega) (fun c_8 => ?_) (fun c_8 => ?_)
    · refine go_iload_n C dX5_stepsTo_32 3 rfl rfl ?_
      exact go_iret C E dX5_stepsTo_33 (by rw [← hR]; first | contradiction | rfl | (simp [pc_sp, *]; done) | (rw [decide_eq_true (by omega)]; done) | (rw [decide_eq_false (by omega)]; done) | (simp_all [pc_sp]; done) | (simp [pc_sp]; omega) | (simp_all [pc_sp]; omega) | omega) rfl
    · refine go_aload_n C dX5_stepsTo_11 1 rfl rfl ?_
      refine go_iload_n C dX5_stepsTo_12 2 rfl rfl ?_
      refine go_cV C (c_X4_parentOf G rs p0 p1 so va pa ne ol ct Pf z hp0 hp1 (by omega)) ml_X5_35 mc_X4_parentOf dX5_stepsTo_13 [] rfl rfl p0 hp0 rfl rfl ⟨Nat.le_of_ble_eq_true rfl, Nat.le_of_ble_eq_true rfl, Nat.zero_le _, Nat.zero_le _, Nat.le_of_ble_eq_true rfl⟩ [.int (pc_par ct Pf z)] rfl ?_
      refine go_iconst C ((-1)) dX5_stepsTo_16 (by decide) ?_
      refine go_icmp_eq C 32 dX5_stepsTo_17 (by decide) (fun c_17 => ?_) (fun c_17 => ?_)
      · refine go_iload_n C dX5_stepsTo_32 3 rfl rfl ?_
        exact go_iret C E dX5_stepsTo_33 (by rw [← hR]; first | contradiction | rfl | (simp [pc_sp, *]; done) | (rw [decide_eq_true (by omega)]; done) | (rw [decide_eq_false (by omega)]; done) | (simp_all [pc_sp]; done) | (simp [pc_sp]; omega) | (simp_all [pc_sp]; omega) | omega) rfl
      · refine go_aload_n C dX5_stepsTo_20 1 rfl rfl ?_
        refine go_iload_n C dX5_stepsTo_21 2 rfl rfl ?_
        refine go_cV C (c_X4_parentOf G rs p0 p1 so va pa ne ol ct Pf z hp0 hp1 (by omega)) ml_X5_35 mc_X4_parentOf dX5_stepsTo_22 [] rfl rfl p0 hp0 rfl rfl ⟨Nat.le_of_ble_eq_true rfl, Nat.le_of_ble_eq_true rfl, Nat.zero_le _, Nat.zero_le _, Nat.le_of_ble_eq_true rfl⟩ [.int (pc_par ct Pf z)] rfl ?_
        refine go_istore_n C [(0, .int s), (1, .ref so), (2, .int (pc_par ct Pf z)), (3, .int (nI k))] dX5_stepsTo_25 [1, 2, 0, 3] rfl (by decide) rfl ?_
        refine go_iinc C (nI (k + 1)) [(0, .int s), (1, .ref so), (2, .int (pc_par ct Pf z)), (3, .int (nI (k + 1)))] dX5_stepsTo_26 3 [1, 2, 3, 0] rfl (nI_add k 1) (by decide) rfl ?_
        refine go_goto C 4 dX5_stepsTo_29 (by decide) ?_
        exact ih (k + 1) (pc_par ct Pf z) (by omega) (by omega) (by rw [← hR]; first | contradiction | rfl | (simp [pc_sp, *]; done) | (rw [decide_eq_true (by omega)]; done) | (rw [decide_eq_false (by omega)]; done) | (simp_all [pc_sp]; done) | (simp [pc_sp]; omega) | (simp_all [pc_sp]; omega) | omega)
set_option maxHeartbeats 4000000 in
set_option maxRecDepth 100000 in
theorem c_X5_stepsTo (G : go_G) (rs : va_W) (p0 : Nat) (p1 : Nat) (so : Nat) (va : Nat) (pa : Nat) (ne : Nat) (ol : Nat) (ct : Nat) (Pf : Nat → Int32) (s : Int32) (hp0 : rs[p0]? = some (so, .inr (4, [.ref va, .ref pa, .ref ne, .ref ol, .int (nI ct)]))) (hp1 : rs[p1]? = some (pa, .inl (G.2.1, 400, .inl Pf))) (hc : ct ≤ 400) : go_Fn yX5_stepsTo cX5_stepsTo 4 (some .int) 2 42 G [.int s, .ref so] rs (some (.int (nI (pc_sp ct Pf 400 0 s)))) rs := by
  refine go_Fn_of (by decide) (Nat.le_of_ble_eq_true rfl) (fun X C E => ?_)
  show go_Go X (0, 0) rs [(0, .int s), (1, .ref so)] [] 0
  refine go_iload_n C dX5_stepsTo_0 0 rfl rfl ?_
  refine go_istore_n C [(0, .int s), (1, .ref so), (2, .int s)] dX5_stepsTo_1 [1, 2, 0] rfl (by decide) rfl ?_
  refine go_iconst C (0) dX5_stepsTo_2 (by decide) ?_
  refine go_istore_n C [(0, .int s), (1, .ref so), (2, .int s), (3, .int 0)] dX5_stepsTo_3 [1, 2, 3, 0] rfl (by decide) rfl ?_
  exact l_X5_stepsTo_4 G rs p0 p1 so va pa ne ol ct Pf s hp0 hp1 hc  C E 400 0 s (by omega) (by omega) rfl
set_option maxHeartbeats 4000000 in
set_option maxRecDepth 100000 in
theorem l_X5_begin_25 {X : go_X} (G : go_G) (rs : va_W) (p0 : Nat) (p1 : Nat) (p2 : Nat) (tr : Nat) (wy : Nat) (fd : Nat) (tv : Nat) (sp : Nat) (Wf : Nat → Int32) (Tf : Nat → Int32) (so : Nat) (va : Nat) (pa : Nat) (ne : Nat) (ol : Nat) (ct : Nat) (Pf : Nat → Int32) (fi : Nat) (f0 : Nat → Int32) (hp0 : rs[p0]? = some (so, .inr (4, [.ref va, .ref pa, .ref ne, .ref ol, .int (nI ct)]))) (hp1 : rs[p1]? = some (pa, .inl (G.2.1, 400, .inl Pf))) (hp2 : rs[p2]? = some (fi, .inl (G.2.1, 6, .inl f0))) (hc : ct ≤ 400) (h1 : 1 ≤ ct) {Rr : Option Value} {W1 : va_W} (fw : Nat → Int32) (sq : Nat) (C : go_Cx X cX5_begin RX5 none 6 3 65 0 0 G) (E : go_Ex X Rr W1) (K : go_Go X (0, 0) ((tr, .inr (5, [.ref wy, .ref fd, .ref tv, .int (nI sq)])) :: (wy, .inl (G.2.1, 400, .inl fw)) :: (tv, .inl (G.2.1, 2400, .inl Tf)) :: rs) [(0, .ref tr), (1, .ref fi)] [] 53) : ∀ (n : Nat) (k : Nat) (z : Int32) (W : Nat → Int32) (hin : k < n) (hk : k ≤ 400) (hW : pc_wl ct Pf k z W = fw), go_Go X (0, 0) ((tr, .inr (5, [.ref wy, .ref fd, .ref tv, .int (nI sq)])) :: (wy, .inl (G.2.1, 400, .inl W)) :: (tv, .inl (G.2.1, 2400, .inl Tf)) :: rs) [(0, .ref tr), (1, .ref fi), (2, .ref so), (4, .int z), (5, .int (pc_d1 k))] [] 25 := by
  intro n
  induction n with
  | zero => intro k z W hin hk hW; omega
  | succ n ih =>
    intro k z W hin hk hW
    rcases k with _ | k
    · refine go_le [(0, .ref tr), (1, .ref fi), (2, .ref so), (4, .int z), (5, .int (-1))] rfl ?_
      refine go_iload C dX5_begin_25 4 rfl ?_
      refine go_if_lt C 53 dX5_begin_27 (by decide) (fun c_27 => ?_) (fun c_27 => ?_)
      · refine go_lv [(0, .ref tr), (1, .ref fi)] [0, 1] rfl ?_
        refine go_we ((tr, .inr (5, [.ref wy, .ref fd, .ref tv, .int (nI sq)])) :: (wy, .inl (G.2.1, 400, .inl fw)) :: (tv, .inl (G.2.1, 2400, .inl Tf)) :: rs) (by rw [← hW]; rfl) ?_
        exact K
      · exact absurd (show (-1 : Int32) < 0 by decide) c_27
    · refine go_le [(0, .ref tr), (1, .ref fi), (2, .ref so), (4, .int z), (5, .int (nI k))] (by rw [pc_d1_s]) ?_
      refine go_iload C dX5_begin_25 4 rfl ?_
      refine go_if_ltN C 53 dX5_begin_27 (by decide) (by omega) ?_
      refine go_aload_n C dX5_begin_30 0 rfl rfl ?_
      refine go_get C (v := .ref wy) fl_X5_9 dX5_begin_31 0 rfl rfl ?_
      refine go_iload C dX5_begin_34 4 rfl ?_
      refine go_iload C dX5_begin_36 3 rfl ?_
      refine go_iast C dX5_begin_38 1 rfl (k) rfl (by omega) (by decide) ((tr, .inr (5, [.ref wy, .ref fd, .ref tv, .int (nI sq)])) :: (wy, .inl (G.2.1, 400, .inl (upd W k z))) :: (tv, .inl (G.2.1, 2400, .inl Tf)) :: rs) rfl ?_
      refine go_aload_n C dX5_begin_39 2 rfl rfl ?_
      refine go_iload C dX5_begin_40 3 rfl ?_
      refine go_cV C (c_X4_parentOf G ((tr, .inr (5, [.ref wy, .ref fd, .ref tv, .int (nI sq)])) :: (wy, .inl (G.2.1, 400, .inl (upd W k z))) :: (tv, .inl (G.2.1, 2400, .inl Tf)) :: rs) (p0 + 3) (p1 + 3) so va pa ne ol ct Pf z hp0 hp1 (by omega)) ml_X5_35 mc_X4_parentOf dX5_begin_42 [] rfl rfl (p0 + 3) hp0 rfl rfl ⟨Nat.le_of_ble_eq_true rfl, Nat.le_of_ble_eq_true rfl, Nat.zero_le _, Nat.zero_le _, Nat.le_of_ble_eq_true rfl⟩ [.int (pc_par ct Pf z)] rfl ?_
      refine go_istore C [(0, .ref tr), (1, .ref fi), (2, .ref so), (4, .int (pc_par ct Pf z)), (5, .int (nI k))] dX5_begin_45 [1, 2, 3, 0, 4] (by decide) rfl ?_
      refine go_iinc C (pc_d1 k) [(0, .ref tr), (1, .ref fi), (2, .ref so), (4, .int (pc_par ct Pf z)), (5, .int (pc_d1 k))] dX5_begin_47 4 [1, 2, 3, 4, 0] rfl rfl (by decide) rfl ?_
      refine go_goto C 25 dX5_begin_50 (by decide) ?_
      exact ih k (pc_par ct Pf z) (upd W k z) (by omega) (by omega) hW
set_option maxHeartbeats 4000000 in
set_option maxRecDepth 100000 in
theorem c_X5_begin (G : go_G) (rs : va_W) (p0 : Nat) (p1 : Nat) (p2 : Nat) (tr : Nat) (wy : Nat) (fd : Nat) (tv : Nat) (sp : Nat) (Wf : Nat → Int32) (Tf : Nat → Int32) (so : Nat) (va : Nat) (pa : Nat) (ne : Nat) (ol : Nat) (ct : Nat) (Pf : Nat → Int32) (fi : Nat) (f0 : Nat → Int32) (hp0 : rs[p0]? = some (so, .inr (4, [.ref va, .ref pa, .ref ne, .ref ol, .int (nI ct)]))) (hp1 : rs[p1]? = some (pa, .inl (G.2.1, 400, .inl Pf))) (hp2 : rs[p2]? = some (fi, .inl (G.2.1, 6, .inl f0))) (hc : ct ≤ 400) (h1 : 1 ≤ ct) : go_Fn yX5_begin cX5_begin 6 none 3 65 G [.ref tr, .ref fi, .ref so] ((tr, .inr (5, [.ref wy, .ref fd, .ref tv, .int (nI sp)])) :: (wy, .inl (G.2.1, 400, .inl Wf)) :: (tv, .inl (G.2.1, 2400, .inl Tf)) :: rs) (none) ((tr, .inr (5, [.ref wy, .ref fd, .ref tv, .int (nI (pc_sp ct Pf 400 0 (nI (ct - 1))))])) :: (wy, .inl (G.2.1, 400, .inl (pc_wl ct Pf (pc_sp ct Pf 400 0 (nI (ct - 1)) + 1) (nI (ct - 1)) Wf))) :: (tv, .inl (G.2.1, 2400, .inl (pc_wr Tf 0 f0))) :: rs) := by
  refine go_Fn_of (by decide) (Nat.le_of_ble_eq_true rfl) (fun X C E => ?_)
  show go_Go X (0, 0) ((tr, .inr (5, [.ref wy, .ref fd, .ref tv, .int (nI sp)])) :: (wy, .inl (G.2.1, 400, .inl Wf)) :: (tv, .inl (G.2.1, 2400, .inl Tf)) :: rs) [(0, .ref tr), (1, .ref fi), (2, .ref so)] [] 0
  have hsp := pc_sp_le (ct := ct) (P := Pf) 400 0 (nI (ct - 1)) (by omega)
  refine go_aload_n C dX5_begin_0 2 rfl rfl ?_
  refine go_cV C (c_X4_count G ((tr, .inr (5, [.ref wy, .ref fd, .ref tv, .int (nI sp)])) :: (wy, .inl (G.2.1, 400, .inl Wf)) :: (tv, .inl (G.2.1, 2400, .inl Tf)) :: rs) (p0 + 3) so va pa ne ol ct hp0 ) ml_X5_25 mc_X4_count dX5_begin_1 [] rfl rfl (p0 + 3) hp0 rfl rfl ⟨Nat.le_of_ble_eq_true rfl, Nat.le_of_ble_eq_true rfl, Nat.zero_le _, Nat.zero_le _, Nat.le_of_ble_eq_true rfl⟩ [.int (nI ct)] rfl ?_
  refine go_iconst C (1) dX5_begin_4 (by decide) ?_
  refine go_isub C (z := nI (ct - 1)) dX5_begin_5 (pk_sub (a := ct) (b := 1) (by omega)) ?_
  refine go_istore_n C [(0, .ref tr), (1, .ref fi), (2, .ref so), (3, .int (nI (ct - 1)))] dX5_begin_6 [1, 2, 3, 0] rfl (by decide) rfl ?_
  refine go_aload_n C dX5_begin_7 0 rfl rfl ?_
  refine go_iload_n C dX5_begin_8 3 rfl rfl ?_
  refine go_aload_n C dX5_begin_9 2 rfl rfl ?_
  refine go_cS C (c_X5_stepsTo G ((tr, .inr (5, [.ref wy, .ref fd, .ref tv, .int (nI sp)])) :: (wy, .inl (G.2.1, 400, .inl Wf)) :: (tv, .inl (G.2.1, 2400, .inl Tf)) :: rs) (p0 + 3) (p1 + 3) so va pa ne ol ct Pf (nI (ct - 1)) hp0 hp1 (by omega)) ml_X5_31 mc_X5_stepsTo dX5_begin_10 [.ref tr] rfl rfl rfl ⟨Nat.le_of_ble_eq_true rfl, Nat.le_of_ble_eq_true rfl, Nat.zero_le _, Nat.zero_le _, Nat.le_of_ble_eq_true rfl⟩ [.int (nI (pc_sp ct Pf 400 0 (nI (ct - 1)))), .ref tr] rfl ?_
  refine go_put C fp_X5_21 dX5_begin_13 0 rfl rfl rfl (Nat.le_of_ble_eq_true rfl) ((tr, .inr (5, [.ref wy, .ref fd, .ref tv, .int (nI (pc_sp ct Pf 400 0 (nI (ct - 1))))])) :: (wy, .inl (G.2.1, 400, .inl Wf)) :: (tv, .inl (G.2.1, 2400, .inl Tf)) :: rs) rfl ?_
  refine go_iload_n C dX5_begin_16 3 rfl rfl ?_
  refine go_istore C [(0, .ref tr), (1, .ref fi), (2, .ref so), (3, .int (nI (ct - 1))), (4, .int (nI (ct - 1)))] dX5_begin_17 [1, 2, 3, 4, 0] (by decide) rfl ?_
  refine go_aload_n C dX5_begin_19 0 rfl rfl ?_
  refine go_get C (v := .int (nI (pc_sp ct Pf 400 0 (nI (ct - 1))))) fl_X5_21 dX5_begin_20 0 rfl rfl ?_
  refine go_istore C [(0, .ref tr), (1, .ref fi), (2, .ref so), (3, .int (nI (ct - 1))), (4, .int (nI (ct - 1))), (5, .int (nI (pc_sp ct Pf 400 0 (nI (ct - 1)))))] dX5_begin_23 [1, 2, 3, 4, 5, 0] (by decide) rfl ?_
  refine go_lv [(0, .ref tr), (1, .ref fi), (2, .ref so), (4, .int (nI (ct - 1))), (5, .int (nI (pc_sp ct Pf 400 0 (nI (ct - 1)))))] [0, 1, 2, 4, 5] rfl ?_
  refine go_le [(0, .ref tr), (1, .ref fi), (2, .ref so), (4, .int (nI (ct - 1))), (5, .int (pc_d1 (pc_sp ct Pf 400 0 (nI (ct - 1)) + 1)))] (by rw [pc_d1_s]) ?_
  refine l_X5_begin_25 G rs p0 p1 p2 tr wy fd tv sp Wf Tf so va pa ne ol ct Pf fi f0 hp0 hp1 hp2 hc h1 (pc_wl ct Pf (pc_sp ct Pf 400 0 (nI (ct - 1)) + 1) (nI (ct - 1)) Wf) (pc_sp ct Pf 400 0 (nI (ct - 1))) C E ?_ 402 (pc_sp ct Pf 400 0 (nI (ct - 1)) + 1) (nI (ct - 1)) Wf (by omega) (by omega) rfl
  show go_Go X (0, 0) ((tr, .inr (5, [.ref wy, .ref fd, .ref tv, .int (nI ((pc_sp ct Pf 400 0 (nI (ct - 1)))))])) :: (wy, .inl (G.2.1, 400, .inl (pc_wl ct Pf (pc_sp ct Pf 400 0 (nI (ct - 1)) + 1) (nI (ct - 1)) Wf))) :: (tv, .inl (G.2.1, 2400, .inl Tf)) :: rs) [(0, .ref tr), (1, .ref fi)] [] 53
  refine go_aload_n C dX5_begin_53 1 rfl rfl ?_
  refine go_iconst C (0) dX5_begin_54 (by decide) ?_
  refine go_aload_n C dX5_begin_55 0 rfl rfl ?_
  refine go_get C (v := .ref tv) fl_X5_18 dX5_begin_56 0 rfl rfl ?_
  refine go_iconst C (0) dX5_begin_59 (by decide) ?_
  refine go_bipush C (6) dX5_begin_60 (by decide) ?_
  refine go_copy C ml_X5_39 ml_ac dX5_begin_62 (p2 + 3) 2 hp2 rfl 0 0 6 rfl rfl rfl (by omega) (by omega) (by decide) (by decide) ⟨Nat.le_of_ble_eq_true rfl, Nat.le_of_ble_eq_true rfl⟩ ((tr, .inr (5, [.ref wy, .ref fd, .ref tv, .int (nI ((pc_sp ct Pf 400 0 (nI (ct - 1)))))])) :: (wy, .inl (G.2.1, 400, .inl (pc_wl ct Pf (pc_sp ct Pf 400 0 (nI (ct - 1)) + 1) (nI (ct - 1)) Wf))) :: (tv, .inl (G.2.1, 2400, .inl (va_cpy f0 Tf 0 0 6))) :: rs) rfl ?_
  refine go_we ((tr, .inr (5, [.ref wy, .ref fd, .ref tv, .int (nI ((pc_sp ct Pf 400 0 (nI (ct - 1)))))])) :: (wy, .inl (G.2.1, 400, .inl (pc_wl ct Pf (pc_sp ct Pf 400 0 (nI (ct - 1)) + 1) (nI (ct - 1)) Wf))) :: (tv, .inl (G.2.1, 2400, .inl (pc_wr Tf 0 f0))) :: rs) (by rw [pc_wr_eq _ 0 _ _ rfl]) ?_
  exact go_vret C E dX5_begin_65 rfl rfl
set_option maxHeartbeats 4000000 in
set_option maxRecDepth 100000 in
theorem c_X5_wayAt (G : go_G) (rs : va_W) (p0 : Nat) (p1 : Nat) (tr : Nat) (wy : Nat) (fd : Nat) (tv : Nat) (sp : Nat) (Wf : Nat → Int32) (i : Nat) (hp0 : rs[p0]? = some (tr, .inr (5, [.ref wy, .ref fd, .ref tv, .int (nI sp)]))) (hp1 : rs[p1]? = some (wy, .inl (G.2.1, 400, .inl Wf))) (hi : i ≤ sp) (h4 : i < 400) (hs : sp < 400) : go_Fn yX5_wayAt cX5_wayAt 2 (some .int) 1 21 G [.ref tr, .int (nI i)] rs (some (.int (Wf i))) rs := by
  refine go_Fn_of (by decide) (Nat.le_of_ble_eq_true rfl) (fun X C E => ?_)
  show go_Go X (0, 0) rs [(0, .ref tr), (1, .int (nI i))] [] 0
  refine go_aload_n C dX5_wayAt_0 0 rfl rfl ?_
  refine go_iload_n C dX5_wayAt_1 1 rfl rfl ?_
  refine go_cV C (c_X5_hasState G rs p0 tr wy fd tv sp (nI i) hp0 ) ml_X5_45 mc_X5_hasState dX5_wayAt_2 [] rfl rfl p0 hp0 rfl rfl ⟨Nat.le_of_ble_eq_true rfl, Nat.le_of_ble_eq_true rfl, Nat.zero_le _, Nat.zero_le _, Nat.le_of_ble_eq_true rfl⟩ [.int (go_b (true))] (by rw [pc_hst_t (by omega) (by omega) (by omega)]; rfl) ?_
  refine go_if_eqB C 17 dX5_wayAt_5 (by decide) (fun c_5 => ?_) (fun c_5 => ?_)
  · cases c_5
  · refine go_aload_n C dX5_wayAt_8 0 rfl rfl ?_
    refine go_get C (v := .ref wy) fl_X5_9 dX5_wayAt_9 p0 hp0 rfl ?_
    refine go_iload_n C dX5_wayAt_12 1 rfl rfl ?_
    refine go_iald C dX5_wayAt_13 p1 hp1 (i) rfl (by omega) (by decide) ?_
    refine go_goto C 18 dX5_wayAt_14 (by decide) ?_
    exact go_iret C E dX5_wayAt_18 rfl rfl
set_option maxHeartbeats 4000000 in
set_option maxRecDepth 100000 in
theorem c_X5_ruleAt (G : go_G) (rs : va_W) (p0 : Nat) (p1 : Nat) (tr : Nat) (wy : Nat) (fd : Nat) (tv : Nat) (sp : Nat) (Df : Nat → Int32) (i : Int32) (hp0 : rs[p0]? = some (tr, .inr (5, [.ref wy, .ref fd, .ref tv, .int (nI sp)]))) (hp1 : rs[p1]? = some (fd, .inl (G.2.1, 400, .inl Df))) (hs : sp < 400) : go_Fn yX5_ruleAt cX5_ruleAt 2 (some .int) 0 0 G [.ref tr, .int i] rs (some (.int (pc_ra sp Df i))) rs := by
  refine go_Fn_of (by decide) (Nat.le_of_ble_eq_true rfl) (fun X C E => ?_)
  show go_Go X (0, 0) rs [(0, .ref tr), (1, .int i)] [] 0
  refine go_iload_n C dX5_ruleAt_0 1 rfl rfl ?_
  refine go_if_lt C 21 dX5_ruleAt_1 (by decide) (fun c_1 => ?_) (fun c_1 => ?_)
  · refine go_iconst C ((-1)) dX5_ruleAt_21 (by decide) ?_
    exact go_iret C E dX5_ruleAt_22 (by first | (simp [pc_ra, c_1, c_9]; done) | (simp [pc_ra, c_1]; done)) rfl
  · refine go_iload_n C dX5_ruleAt_4 1 rfl rfl ?_
    refine go_aload_n C dX5_ruleAt_5 0 rfl rfl ?_
    refine go_get C (v := .int (nI sp)) fl_X5_21 dX5_ruleAt_6 p0 hp0 rfl ?_
    refine go_icmp_ge C 21 dX5_ruleAt_9 (by decide) (fun c_9 => ?_) (fun c_9 => ?_)
    · refine go_iconst C ((-1)) dX5_ruleAt_21 (by decide) ?_
      exact go_iret C E dX5_ruleAt_22 (by first | (simp [pc_ra, c_1, c_9]; done) | (simp [pc_ra, c_1]; done)) rfl
    · obtain ⟨hs1, hs2⟩ := pc_has_nI (ct := sp) (s := i) (by omega) (by simp [pc_has, *])
      refine go_aload_n C dX5_ruleAt_12 0 rfl rfl ?_
      refine go_get C (v := .ref fd) fl_X5_15 dX5_ruleAt_13 p0 hp0 rfl ?_
      refine go_iload_n C dX5_ruleAt_16 1 rfl rfl ?_
      refine go_iald C dX5_ruleAt_17 p1 hp1 (i.toNatClampNeg) hs1 (by omega) (by decide) ?_
      refine go_goto C 22 dX5_ruleAt_18 (by decide) ?_
      exact go_iret C E dX5_ruleAt_22 (by first | (simp [pc_ra, c_1, c_9]; done) | (simp [pc_ra, c_1]; done)) rfl
set_option maxHeartbeats 4000000 in
set_option maxRecDepth 100000 in
theorem c_X5_copyOut (G : go_G) (rs : va_W) (p0 : Nat) (p1 : Nat) (tr : Nat) (wy : Nat) (fd : Nat) (tv : Nat) (sp : Nat) (Tf : Nat → Int32) (i : Nat) (x : Nat) (g : Nat → Int32) (hp0 : rs[p0]? = some (tr, .inr (5, [.ref wy, .ref fd, .ref tv, .int (nI sp)]))) (hp1 : rs[p1]? = some (tv, .inl (G.2.1, 2400, .inl Tf))) (hi : i ≤ sp) (h4 : i < 400) (hs : sp < 400) : go_Fn yX5_copyOut cX5_copyOut 3 none 1 44 G [.ref tr, .int (nI i), .ref x] ((x, .inl (G.2.1, 6, .inl g)) :: rs) (none) ((x, .inl (G.2.1, 6, .inl (pc_stt Tf i))) :: rs) := by
  refine go_Fn_of (by decide) (Nat.le_of_ble_eq_true rfl) (fun X C E => ?_)
  show go_Go X (0, 0) ((x, .inl (G.2.1, 6, .inl g)) :: rs) [(0, .ref tr), (1, .int (nI i)), (2, .ref x)] [] 0
  refine go_aload_n C dX5_copyOut_0 0 rfl rfl ?_
  refine go_iload_n C dX5_copyOut_1 1 rfl rfl ?_
  refine go_cV C (c_X5_hasState G ((x, .inl (G.2.1, 6, .inl g)) :: rs) (p0 + 1) tr wy fd tv sp (nI i) hp0 ) ml_X5_45 mc_X5_hasState dX5_copyOut_2 [] rfl rfl (p0 + 1) hp0 rfl rfl ⟨Nat.le_of_ble_eq_true rfl, Nat.le_of_ble_eq_true rfl, Nat.zero_le _, Nat.zero_le _, Nat.le_of_ble_eq_true rfl⟩ [.int (go_b (true))] (by rw [pc_hst_t (by omega) (by omega) (by omega)]; rfl) ?_
  refine go_if_eqB C 23 dX5_copyOut_5 (by decide) (fun c_5 => ?_) (fun c_5 => ?_)
  · cases c_5
  · refine go_aload_n C dX5_copyOut_8 0 rfl rfl ?_
    refine go_get C (v := .ref tv) fl_X5_18 dX5_copyOut_9 (p0 + 1) hp0 rfl ?_
    refine go_iload_n C dX5_copyOut_12 1 rfl rfl ?_
    refine go_bipush C (6) dX5_copyOut_13 (by decide) ?_
    refine go_imul C (z := nI (i * 6)) dX5_copyOut_15 (pk_mul i 6) ?_
    refine go_aload_n C dX5_copyOut_16 2 rfl rfl ?_
    refine go_iconst C (0) dX5_copyOut_17 (by decide) ?_
    refine go_bipush C (6) dX5_copyOut_18 (by decide) ?_
    refine go_copy C ml_X5_39 ml_ac dX5_copyOut_20 (p1 + 1) 0 hp1 rfl (i * 6) 0 6 rfl rfl rfl (by omega) (by omega) (by decide) (by decide) ⟨Nat.le_of_ble_eq_true rfl, Nat.le_of_ble_eq_true rfl⟩ ((x, .inl (G.2.1, 6, .inl (va_cpy Tf g (i * 6) 0 6))) :: rs) rfl ?_
    refine go_cont 0 rfl (pc_stt Tf i) (fun j hj => by rw [pk_cpy_in (by omega) (by omega)]; unfold pc_stt; congr 1; omega) ((x, .inl (G.2.1, 6, .inl (pc_stt Tf i))) :: rs) rfl ?_
    exact go_vret C E dX5_copyOut_23 rfl rfl
set_option maxHeartbeats 4000000 in
set_option maxRecDepth 100000 in
theorem c_X5_putStep (G : go_G) (rs : va_W) (p0 : Nat) (p1 : Nat) (tr : Nat) (wy : Nat) (fd : Nat) (tv : Nat) (sp : Nat) (Df : Nat → Int32) (Tf : Nat → Int32) (i : Nat) (q : Int32) (x : Nat) (t : Nat → Int32) (hp0 : rs[p0]? = some (tr, .inr (5, [.ref wy, .ref fd, .ref tv, .int (nI sp)]))) (hp1 : rs[p1]? = some (x, .inl (G.2.1, 6, .inl t))) (hi : i < sp) (hs : sp < 400) : go_Fn yX5_putStep cX5_putStep 4 none 1 44 G [.ref tr, .int (nI i), .int q, .ref x] ((fd, .inl (G.2.1, 400, .inl Df)) :: (tv, .inl (G.2.1, 2400, .inl Tf)) :: rs) (none) ((fd, .inl (G.2.1, 400, .inl (upd Df i q))) :: (tv, .inl (G.2.1, 2400, .inl (pc_wr Tf (i + 1) t))) :: rs) := by
  refine go_Fn_of (by decide) (Nat.le_of_ble_eq_true rfl) (fun X C E => ?_)
  show go_Go X (0, 0) ((fd, .inl (G.2.1, 400, .inl Df)) :: (tv, .inl (G.2.1, 2400, .inl Tf)) :: rs) [(0, .ref tr), (1, .int (nI i)), (2, .int q), (3, .ref x)] [] 0
  refine go_iload_n C dX5_putStep_0 1 rfl rfl ?_
  refine go_if_ltN C 38 dX5_putStep_1 (by decide) (by omega) ?_
  refine go_aload_n C dX5_putStep_4 0 rfl rfl ?_
  refine go_iload_n C dX5_putStep_5 1 rfl rfl ?_
  refine go_iconst C (1) dX5_putStep_6 (by decide) ?_
  refine go_iadd C (z := nI (i + 1)) dX5_putStep_7 (nI_add i 1) ?_
  refine go_cV C (c_X5_hasState G ((fd, .inl (G.2.1, 400, .inl Df)) :: (tv, .inl (G.2.1, 2400, .inl Tf)) :: rs) (p0 + 2) tr wy fd tv sp (nI (i + 1)) hp0 ) ml_X5_45 mc_X5_hasState dX5_putStep_8 [] rfl rfl (p0 + 2) hp0 rfl rfl ⟨Nat.le_of_ble_eq_true rfl, Nat.le_of_ble_eq_true rfl, Nat.zero_le _, Nat.zero_le _, Nat.le_of_ble_eq_true rfl⟩ [.int (go_b (true))] (by rw [pc_hst_t (by omega) (by omega) (by omega)]; rfl) ?_
  refine go_if_eqB C 38 dX5_putStep_11 (by decide) (fun c_11 => ?_) (fun c_11 => ?_)
  · cases c_11
  · refine go_aload_n C dX5_putStep_14 0 rfl rfl ?_
    refine go_get C (v := .ref fd) fl_X5_15 dX5_putStep_15 (p0 + 2) hp0 rfl ?_
    refine go_iload_n C dX5_putStep_18 1 rfl rfl ?_
    refine go_iload_n C dX5_putStep_19 2 rfl rfl ?_
    refine go_iast C dX5_putStep_20 0 rfl (i) rfl (by omega) (by decide) ((fd, .inl (G.2.1, 400, .inl (upd Df i q))) :: (tv, .inl (G.2.1, 2400, .inl Tf)) :: rs) rfl ?_
    refine go_aload_n C dX5_putStep_21 3 rfl rfl ?_
    refine go_iconst C (0) dX5_putStep_22 (by decide) ?_
    refine go_aload_n C dX5_putStep_23 0 rfl rfl ?_
    refine go_get C (v := .ref tv) fl_X5_18 dX5_putStep_24 (p0 + 2) hp0 rfl ?_
    refine go_iload_n C dX5_putStep_27 1 rfl rfl ?_
    refine go_iconst C (1) dX5_putStep_28 (by decide) ?_
    refine go_iadd C (z := nI (i + 1)) dX5_putStep_29 (nI_add i 1) ?_
    refine go_bipush C (6) dX5_putStep_30 (by decide) ?_
    refine go_imul C (z := nI ((i + 1) * 6)) dX5_putStep_32 (pk_mul (i + 1) 6) ?_
    refine go_bipush C (6) dX5_putStep_33 (by decide) ?_
    refine go_copy C ml_X5_39 ml_ac dX5_putStep_35 (p1 + 2) 1 hp1 rfl 0 ((i + 1) * 6) 6 rfl rfl rfl (by omega) (by omega) (by decide) (by decide) ⟨Nat.le_of_ble_eq_true rfl, Nat.le_of_ble_eq_true rfl⟩ ((fd, .inl (G.2.1, 400, .inl (upd Df i q))) :: (tv, .inl (G.2.1, 2400, .inl (va_cpy t Tf 0 ((i + 1) * 6) 6))) :: rs) rfl ?_
    refine go_we ((fd, .inl (G.2.1, 400, .inl (upd Df i q))) :: (tv, .inl (G.2.1, 2400, .inl (pc_wr Tf (i + 1) t))) :: rs) (by rw [pc_wr_eq _ (i + 1) _ _ (by omega)]) ?_
    exact go_vret C E dX5_putStep_38 rfl rfl
end
section
set_option maxHeartbeats 4000000 in
set_option maxRecDepth 100000 in
theorem c_X3_begin (G : go_G) (rs : va_W) (p0 : Nat) (ru : Nat) (rows : Nat) (nth : Nat) (nr : Nat) (ra : Nat → Nat) (w : Nat) (l : Nat) (hp0 : rs[p0]? = some (rows, .inl (G.2.2, 12, .inr (.inr (.inr (.inr (fun r => some (ra r)))))))) (hnr : nr < 12) : go_Fn yX3_begin cX3_begin 1 (some .int) 1 20 G [.ref ru] ((ru, .inr (3, [.ref rows, .ref nth, .int (nI nr)])) :: (ra nr, .inr (6, [.ref w, .int (nI l)])) :: rs) (some (.int (nI nr))) ((ru, .inr (3, [.ref rows, .ref nth, .int (nI (nr + 1))])) :: (ra nr, .inr (6, [.ref w, .int (nI 0)])) :: rs) := by
  refine go_Fn_of (by decide) (Nat.le_of_ble_eq_true rfl) (fun X C E => ?_)
  show go_Go X (0, 0) ((ru, .inr (3, [.ref rows, .ref nth, .int (nI nr)])) :: (ra nr, .inr (6, [.ref w, .int (nI l)])) :: rs) [(0, .ref ru)] [] 0
  refine go_aload_n C dX3_begin_0 0 rfl rfl ?_
  refine go_get C (v := .int (nI nr)) fl_X3_22 dX3_begin_1 0 rfl rfl ?_
  refine go_bipush C (12) dX3_begin_4 (by decide) ?_
  refine go_icmp_ltN (a := nr) (b := 12) C 11 dX3_begin_6 (by decide) (by omega) (by omega) (fun c_6 => ?_) (fun c_6 => ?_)
  · refine go_aload_n C dX3_begin_11 0 rfl rfl ?_
    refine go_get C (v := .ref rows) fl_X3_11 dX3_begin_12 0 rfl rfl ?_
    refine go_aload_n C dX3_begin_15 0 rfl rfl ?_
    refine go_get C (v := .int (nI nr)) fl_X3_22 dX3_begin_16 0 rfl rfl ?_
    refine go_aald C (b := ra nr) dX3_begin_19 (p0 + 2) hp0 (nr) rfl (by omega) (by decide) rfl ?_
    refine go_perm [(ru, .inr (3, [.ref rows, .ref nth, .int (nI nr)])), (ra nr, .inr (6, [.ref w, .int (nI l)]))] [(ra nr, .inr (6, [.ref w, .int (nI l)])), (ru, .inr (3, [.ref rows, .ref nth, .int (nI nr)]))] rs [1, 0] rfl rfl rfl ?_
    refine go_cV C (c_X7_clear G ((ru, .inr (3, [.ref rows, .ref nth, .int (nI nr)])) :: rs)  (ra nr) w l  ) ml_X3_26 mc_X7_clear dX3_begin_20 [] rfl rfl 0 rfl rfl rfl ⟨Nat.le_of_ble_eq_true rfl, Nat.le_of_ble_eq_true rfl, Nat.zero_le _, Nat.zero_le _, Nat.le_of_ble_eq_true rfl⟩ [] rfl ?_
    refine go_aload_n C dX3_begin_23 0 rfl rfl ?_
    refine go_dup C dX3_begin_24 rfl ?_
    refine go_get C (v := .int (nI nr)) fl_X3_22 dX3_begin_25 1 rfl rfl ?_
    refine go_iconst C (1) dX3_begin_28 (by decide) ?_
    refine go_iadd C (z := nI (nr + 1)) dX3_begin_29 (nI_add nr 1) ?_
    refine go_put C fp_X3_22 dX3_begin_30 1 rfl rfl rfl (Nat.le_of_ble_eq_true rfl) (((ra nr), .inr (6, [.ref w, .int (nI 0)])) :: (ru, .inr (3, [.ref rows, .ref nth, .int (nI (nr + 1))])) :: rs) rfl ?_
    refine go_aload_n C dX3_begin_33 0 rfl rfl ?_
    refine go_get C (v := .int (nI (nr + 1))) fl_X3_22 dX3_begin_34 1 rfl rfl ?_
    refine go_iconst C (1) dX3_begin_37 (by decide) ?_
    refine go_isub C (z := nI ((nr + 1) - 1)) dX3_begin_38 (pk_sub (a := nr + 1) (b := 1) (by omega)) ?_
    refine go_perm [((ra nr), .inr (6, [.ref w, .int (nI 0)])), (ru, .inr (3, [.ref rows, .ref nth, .int (nI (nr + 1))]))] [(ru, .inr (3, [.ref rows, .ref nth, .int (nI (nr + 1))])), ((ra nr), .inr (6, [.ref w, .int (nI 0)]))] rs [1, 0] rfl rfl rfl ?_
    exact go_iret C E dX3_begin_39 (by simp) rfl
  · omega
set_option maxHeartbeats 4000000 in
set_option maxRecDepth 100000 in
theorem c_X8_feed (G : go_G) (rs : va_W)  (a : Nat) (w : Nat) (ln : Nat) (f : Nat → Int32) (x : Int32)  (hl : ln ≤ 32) : go_Fn yX8_feed cX8_feed 2 (some .int) 2 41 G [.ref a, .int x] ((a, .inr (6, [.ref w, .int (nI ln)])) :: (w, .inl (G.2.1, 32, .inl f)) :: rs) (some (.int (pc_fr ln x))) ((a, .inr (6, [.ref w, .int (nI (pc_fl ln x))])) :: (w, .inl (G.2.1, 32, .inl (pc_fw ln f x))) :: rs) := by
  refine go_Fn_of (by decide) (Nat.le_of_ble_eq_true rfl) (fun X C E => ?_)
  show go_Go X (0, 0) ((a, .inr (6, [.ref w, .int (nI ln)])) :: (w, .inl (G.2.1, 32, .inl f)) :: rs) [(0, .ref a), (1, .int x)] [] 0
  refine go_iload_n C dX8_feed_0 1 rfl rfl ?_
  refine go_cS C (c_X6_isWord G ((a, .inr (6, [.ref w, .int (nI ln)])) :: (w, .inl (G.2.1, 32, .inl f)) :: rs)  x  ) ml_X8_198 mc_X6_isWord dX8_feed_1 [] rfl rfl rfl ⟨Nat.le_of_ble_eq_true rfl, Nat.le_of_ble_eq_true rfl, Nat.zero_le _, Nat.zero_le _, Nat.le_of_ble_eq_true rfl⟩ [.int (go_b (pc_isW x))] rfl ?_
  refine go_if_neB C 9 dX8_feed_4 (by decide) (fun c_4 => ?_) (fun c_4 => ?_)
  · refine go_aload_n C dX8_feed_9 0 rfl rfl ?_
    refine go_cV C (c_X7_isFull G ((a, .inr (6, [.ref w, .int (nI ln)])) :: (w, .inl (G.2.1, 32, .inl f)) :: rs) 0 a w ln rfl (by omega)) ml_X8_203 mc_X7_isFull dX8_feed_10 [] rfl rfl 0 rfl rfl rfl ⟨Nat.le_of_ble_eq_true rfl, Nat.le_of_ble_eq_true rfl, Nat.zero_le _, Nat.zero_le _, Nat.le_of_ble_eq_true rfl⟩ [.int (go_b (decide (32 ≤ ln)))] rfl ?_
    refine go_if_eqB C 19 dX8_feed_13 (by decide) (fun c_13 => ?_) (fun c_13 => ?_)
    · refine go_aload_n C dX8_feed_19 0 rfl rfl ?_
      refine go_iload_n C dX8_feed_20 1 rfl rfl ?_
      refine go_cV C (c_X7_add G rs  a w ln f x  (by have := of_decide_eq_false c_13; omega)) ml_X8_204 mc_X7_add dX8_feed_21 [] rfl rfl 0 rfl rfl rfl ⟨Nat.le_of_ble_eq_true rfl, Nat.le_of_ble_eq_true rfl, Nat.zero_le _, Nat.zero_le _, Nat.le_of_ble_eq_true rfl⟩ [] rfl ?_
      refine go_iconst C (0) dX8_feed_24 (by decide) ?_
      exact go_iret C E dX8_feed_25 (by first | contradiction | rfl | (simp [pc_fr, *]; done) | (rw [decide_eq_true (by omega)]; done) | (rw [decide_eq_false (by omega)]; done) | (simp_all [pc_fr]; done) | (simp [pc_fr]; omega) | (simp_all [pc_fr]; omega) | omega) (by simp_all [pc_fl, pc_fw])
    · refine go_bipush C ((-3)) dX8_feed_16 (by decide) ?_
      exact go_iret C E dX8_feed_18 (by first | contradiction | rfl | (simp [pc_fr, *]; done) | (rw [decide_eq_true (by omega)]; done) | (rw [decide_eq_false (by omega)]; done) | (simp_all [pc_fr]; done) | (simp [pc_fr]; omega) | (simp_all [pc_fr]; omega) | omega) (by simp_all [pc_fl, pc_fw])
  · refine go_iconst C ((-1)) dX8_feed_7 (by decide) ?_
    exact go_iret C E dX8_feed_8 (by first | contradiction | rfl | (simp [pc_fr, *]; done) | (rw [decide_eq_true (by omega)]; done) | (rw [decide_eq_false (by omega)]; done) | (simp_all [pc_fr]; done) | (simp [pc_fr]; omega) | (simp_all [pc_fr]; omega) | omega) (by simp_all [pc_fl, pc_fw])
set_option maxHeartbeats 4000000 in
set_option maxRecDepth 100000 in
theorem c_X8_setInit (G : go_G) (rs : va_W) (p0 : Nat) (me : Nat) (fi : Nat) (ak : Nat) (bl : Nat) (ru : Nat) (iv : Nat) (ma : Nat) (so : Nat) (tr : Nat) (be : Nat) (af : Nat) (fo : Nat) (sl : Bool) (vi : Bool) (om : Bool) (ex : Nat) (f0 : Nat → Int32) (v : Int32) (x : Int32) (hp0 : rs[p0]? = some (me, .inr (7, [.ref fi, .ref ak, .ref bl, .ref ru, .ref iv, .ref ma, .ref so, .ref tr, .ref be, .ref af, .ref fo, .int (go_b (sl)), .int (go_b (vi)), .int (go_b (om)), .int (nI ex)])))  : go_Fn yX8_setInit cX8_setInit 3 (some .int) 1 20 G [.ref me, .int v, .int x] ((fi, .inl (G.2.1, 6, .inl f0)) :: rs) (some (.int (if pc_isV v = true then (if sl = true then -2 else 0) else -1))) ((fi, .inl (G.2.1, 6, .inl (if pc_isV v = true ∧ sl = false then upd f0 v.toNatClampNeg x else f0))) :: rs) := by
  refine go_Fn_of (by decide) (Nat.le_of_ble_eq_true rfl) (fun X C E => ?_)
  show go_Go X (0, 0) ((fi, .inl (G.2.1, 6, .inl f0)) :: rs) [(0, .ref me), (1, .int v), (2, .int x)] [] 0
  refine go_iload_n C dX8_setInit_0 1 rfl rfl ?_
  refine go_cS C (c_X8_isVariable G ((fi, .inl (G.2.1, 6, .inl f0)) :: rs)  v  ) ml_X8_103 mc_X8_isVariable dX8_setInit_1 [] rfl rfl rfl ⟨Nat.le_of_ble_eq_true rfl, Nat.le_of_ble_eq_true rfl, Nat.zero_le _, Nat.zero_le _, Nat.le_of_ble_eq_true rfl⟩ [.int (go_b (pc_isV v))] rfl ?_
  refine go_if_neB C 9 dX8_setInit_4 (by decide) (fun c_4 => ?_) (fun c_4 => ?_)
  · refine go_aload_n C dX8_setInit_9 0 rfl rfl ?_
    refine go_get C (v := .int (go_b (sl))) fl_X8_89 dX8_setInit_10 (p0 + 1) hp0 rfl ?_
    refine go_if_eqB C 19 dX8_setInit_13 (by decide) (fun c_13 => ?_) (fun c_13 => ?_)
    · obtain ⟨hv1, hv2⟩ := pc_isV_nI c_4
      refine go_aload_n C dX8_setInit_19 0 rfl rfl ?_
      refine go_get C (v := .ref fi) fl_X8_9 dX8_setInit_20 (p0 + 1) hp0 rfl ?_
      refine go_iload_n C dX8_setInit_23 1 rfl rfl ?_
      refine go_iload_n C dX8_setInit_24 2 rfl rfl ?_
      refine go_iast C dX8_setInit_25 0 rfl (v.toNatClampNeg) hv1 hv2 (by decide) ((fi, .inl (G.2.1, 6, .inl (upd f0 v.toNatClampNeg x))) :: rs) rfl ?_
      refine go_iconst C (0) dX8_setInit_26 (by decide) ?_
      exact go_iret C E dX8_setInit_27 (by simp [c_4, c_13]) (by simp [c_4, c_13])
    · refine go_bipush C ((-2)) dX8_setInit_16 (by decide) ?_
      exact go_iret C E dX8_setInit_18 (by simp [c_4, c_13]) (by simp [c_4, c_13])
  · refine go_iconst C ((-1)) dX8_setInit_7 (by decide) ?_
    exact go_iret C E dX8_setInit_8 (by simp [c_4]) (by simp [c_4])
set_option maxHeartbeats 4000000 in
set_option maxRecDepth 100000 in
theorem c_X8_probeVar (G : go_G) (rs : va_W) (p0 : Nat) (me : Nat) (fi : Nat) (ak : Nat) (bl : Nat) (ru : Nat) (iv : Nat) (ma : Nat) (so : Nat) (tr : Nat) (be : Nat) (af : Nat) (fo : Nat) (sl : Bool) (vi : Bool) (om : Bool) (ex : Nat) (f0 : Nat → Int32) (v : Int32) (x : Int32) (hp0 : rs[p0]? = some (me, .inr (7, [.ref fi, .ref ak, .ref bl, .ref ru, .ref iv, .ref ma, .ref so, .ref tr, .ref be, .ref af, .ref fo, .int (go_b (sl)), .int (go_b (vi)), .int (go_b (om)), .int (nI ex)])))  : go_Fn yX8_probeVar cX8_probeVar 3 (some .int) 1 20 G [.ref me, .int v, .int x] ((ak, .inl (G.2.1, 6, .inl f0)) :: rs) (some (.int (if pc_isV v = true then 0 else -1))) ((ak, .inl (G.2.1, 6, .inl (if pc_isV v = true then upd f0 v.toNatClampNeg x else f0))) :: rs) := by
  refine go_Fn_of (by decide) (Nat.le_of_ble_eq_true rfl) (fun X C E => ?_)
  show go_Go X (0, 0) ((ak, .inl (G.2.1, 6, .inl f0)) :: rs) [(0, .ref me), (1, .int v), (2, .int x)] [] 0
  refine go_iload_n C dX8_probeVar_0 1 rfl rfl ?_
  refine go_cS C (c_X8_isVariable G ((ak, .inl (G.2.1, 6, .inl f0)) :: rs)  v  ) ml_X8_103 mc_X8_isVariable dX8_probeVar_1 [] rfl rfl rfl ⟨Nat.le_of_ble_eq_true rfl, Nat.le_of_ble_eq_true rfl, Nat.zero_le _, Nat.zero_le _, Nat.le_of_ble_eq_true rfl⟩ [.int (go_b (pc_isV v))] rfl ?_
  refine go_if_neB C 9 dX8_probeVar_4 (by decide) (fun c_4 => ?_) (fun c_4 => ?_)
  · obtain ⟨hv1, hv2⟩ := pc_isV_nI c_4
    refine go_aload_n C dX8_probeVar_9 0 rfl rfl ?_
    refine go_get C (v := .ref ak) fl_X8_13 dX8_probeVar_10 (p0 + 1) hp0 rfl ?_
    refine go_iload_n C dX8_probeVar_13 1 rfl rfl ?_
    refine go_iload_n C dX8_probeVar_14 2 rfl rfl ?_
    refine go_iast C dX8_probeVar_15 0 rfl (v.toNatClampNeg) hv1 hv2 (by decide) ((ak, .inl (G.2.1, 6, .inl (upd f0 v.toNatClampNeg x))) :: rs) rfl ?_
    refine go_iconst C (0) dX8_probeVar_16 (by decide) ?_
    exact go_iret C E dX8_probeVar_17 (by simp [c_4]) (by simp [c_4])
  · refine go_iconst C ((-1)) dX8_probeVar_7 (by decide) ?_
    exact go_iret C E dX8_probeVar_8 (by simp [c_4]) (by simp [c_4])
set_option maxHeartbeats 4000000 in
set_option maxRecDepth 100000 in
theorem c_X8_setSymGroup (G : go_G) (rs : va_W) (p0 : Nat) (p1 : Nat) (me : Nat) (fi : Nat) (ak : Nat) (bl : Nat) (ru : Nat) (iv : Nat) (ma : Nat) (so : Nat) (tr : Nat) (be : Nat) (af : Nat) (fo : Nat) (sl : Bool) (vi : Bool) (om : Bool) (ex : Nat) (nb : Nat) (Bf : Nat → Int32) (v : Int32) (g : Int32) (hp0 : rs[p0]? = some (me, .inr (7, [.ref fi, .ref ak, .ref bl, .ref ru, .ref iv, .ref ma, .ref so, .ref tr, .ref be, .ref af, .ref fo, .int (go_b (sl)), .int (go_b (vi)), .int (go_b (om)), .int (nI ex)]))) (hp1 : rs[p1]? = some (bl, .inr (0, [.ref nb])))  : go_Fn yX8_setSymGroup cX8_setSymGroup 3 (some .int) 2 42 G [.ref me, .int v, .int g] ((nb, .inl (G.2.1, 6, .inl Bf)) :: rs) (some (.int (if pc_isV v = true ∧ ¬ g < 0 ∧ g ≤ 3 then (if sl = true then -2 else 0) else -1))) ((nb, .inl (G.2.1, 6, .inl (if pc_isV v = true ∧ ¬ g < 0 ∧ g ≤ 3 ∧ sl = false then upd Bf v.toNatClampNeg g else Bf))) :: rs) := by
  refine go_Fn_of (by decide) (Nat.le_of_ble_eq_true rfl) (fun X C E => ?_)
  show go_Go X (0, 0) ((nb, .inl (G.2.1, 6, .inl Bf)) :: rs) [(0, .ref me), (1, .int v), (2, .int g)] [] 0
  refine go_iload_n C dX8_setSymGroup_0 1 rfl rfl ?_
  refine go_cS C (c_X8_isVariable G ((nb, .inl (G.2.1, 6, .inl Bf)) :: rs)  v  ) ml_X8_103 mc_X8_isVariable dX8_setSymGroup_1 [] rfl rfl rfl ⟨Nat.le_of_ble_eq_true rfl, Nat.le_of_ble_eq_true rfl, Nat.zero_le _, Nat.zero_le _, Nat.le_of_ble_eq_true rfl⟩ [.int (go_b (pc_isV v))] rfl ?_
  refine go_if_eqB C 16 dX8_setSymGroup_4 (by decide) (fun c_4 => ?_) (fun c_4 => ?_)
  · refine go_iconst C ((-1)) dX8_setSymGroup_16 (by decide) ?_
    exact go_iret C E dX8_setSymGroup_17 (by first | (simp [c_4, c_8, c_13, c_22]; done) | (simp [c_4, c_8, c_13]; done) | (simp [c_4, c_8]; done) | (simp [c_4]; done)) (by first | (simp [c_4, c_8, c_13, c_22]; done) | (simp [c_4, c_8, c_13]; done) | (simp [c_4, c_8]; done) | (simp [c_4]; done))
  · refine go_iload_n C dX8_setSymGroup_7 2 rfl rfl ?_
    refine go_if_lt C 16 dX8_setSymGroup_8 (by decide) (fun c_8 => ?_) (fun c_8 => ?_)
    · refine go_iconst C ((-1)) dX8_setSymGroup_16 (by decide) ?_
      exact go_iret C E dX8_setSymGroup_17 (by first | (simp [c_4, c_8, c_13, c_22]; done) | (simp [c_4, c_8, c_13]; done) | (simp [c_4, c_8]; done) | (simp [c_4]; done)) (by first | (simp [c_4, c_8, c_13, c_22]; done) | (simp [c_4, c_8, c_13]; done) | (simp [c_4, c_8]; done) | (simp [c_4]; done))
    · refine go_iload_n C dX8_setSymGroup_11 2 rfl rfl ?_
      refine go_iconst C (3) dX8_setSymGroup_12 (by decide) ?_
      refine go_icmp_le C 18 dX8_setSymGroup_13 (by decide) (fun c_13 => ?_) (fun c_13 => ?_)
      · refine go_aload_n C dX8_setSymGroup_18 0 rfl rfl ?_
        refine go_get C (v := .int (go_b (sl))) fl_X8_89 dX8_setSymGroup_19 (p0 + 1) hp0 rfl ?_
        refine go_if_eqB C 28 dX8_setSymGroup_22 (by decide) (fun c_22 => ?_) (fun c_22 => ?_)
        · obtain ⟨hv1, hv2⟩ := pc_isV_nI c_4
          refine go_aload_n C dX8_setSymGroup_28 0 rfl rfl ?_
          refine go_get C (v := .ref bl) fl_X8_19 dX8_setSymGroup_29 (p0 + 1) hp0 rfl ?_
          refine go_iload_n C dX8_setSymGroup_32 1 rfl rfl ?_
          refine go_se [.int (nI (v.toNatClampNeg)), .ref bl] (by rw [← hv1]) ?_
          refine go_iload_n C dX8_setSymGroup_33 2 rfl rfl ?_
          refine go_cV C (c_X0_put G rs p1 bl nb Bf v.toNatClampNeg g hp1 (by omega)) ml_X8_107 mc_X0_put dX8_setSymGroup_34 [] rfl rfl (p1 + 1) hp1 rfl rfl ⟨Nat.le_of_ble_eq_true rfl, Nat.le_of_ble_eq_true rfl, Nat.zero_le _, Nat.zero_le _, Nat.le_of_ble_eq_true rfl⟩ [] rfl ?_
          refine go_iconst C (0) dX8_setSymGroup_37 (by decide) ?_
          exact go_iret C E dX8_setSymGroup_38 (by first | (simp [c_4, c_8, c_13, c_22]; done) | (simp [c_4, c_8, c_13]; done) | (simp [c_4, c_8]; done) | (simp [c_4]; done)) (by first | (simp [c_4, c_8, c_13, c_22]; done) | (simp [c_4, c_8, c_13]; done) | (simp [c_4, c_8]; done) | (simp [c_4]; done))
        · refine go_bipush C ((-2)) dX8_setSymGroup_25 (by decide) ?_
          exact go_iret C E dX8_setSymGroup_27 (by first | (simp [c_4, c_8, c_13, c_22]; done) | (simp [c_4, c_8, c_13]; done) | (simp [c_4, c_8]; done) | (simp [c_4]; done)) (by first | (simp [c_4, c_8, c_13, c_22]; done) | (simp [c_4, c_8, c_13]; done) | (simp [c_4, c_8]; done) | (simp [c_4]; done))
      · refine go_iconst C ((-1)) dX8_setSymGroup_16 (by decide) ?_
        exact go_iret C E dX8_setSymGroup_17 (by first | (simp [c_4, c_8, c_13, c_22]; done) | (simp [c_4, c_8, c_13]; done) | (simp [c_4, c_8]; done) | (simp [c_4]; done)) (by first | (simp [c_4, c_8, c_13, c_22]; done) | (simp [c_4, c_8, c_13]; done) | (simp [c_4, c_8]; done) | (simp [c_4]; done))
set_option maxHeartbeats 4000000 in
set_option maxRecDepth 100000 in
theorem c_X8_beginRule0 (G : go_G) (rs : va_W) (p0 : Nat) (p1 : Nat) (me : Nat) (fi : Nat) (ak : Nat) (bl : Nat) (ru : Nat) (iv : Nat) (ma : Nat) (so : Nat) (tr : Nat) (be : Nat) (af : Nat) (fo : Nat) (sl : Bool) (vi : Bool) (om : Bool) (ex : Nat) (rows : Nat) (nth : Nat) (nr : Nat) (hp0 : rs[p0]? = some (me, .inr (7, [.ref fi, .ref ak, .ref bl, .ref ru, .ref iv, .ref ma, .ref so, .ref tr, .ref be, .ref af, .ref fo, .int (go_b (sl)), .int (go_b (vi)), .int (go_b (om)), .int (nI ex)]))) (hp1 : rs[p1]? = some (ru, .inr (3, [.ref rows, .ref nth, .int (nI nr)]))) (hc : sl = true ∨ nr = 12) (hnr : nr ≤ 12) : go_Fn yX8_beginRule cX8_beginRule 1 (some .int) 2 40 G [.ref me] rs (some (.int (if sl = true then -2 else -3))) rs := by
  refine go_Fn_of (by decide) (Nat.le_of_ble_eq_true rfl) (fun X C E => ?_)
  show go_Go X (0, 0) rs [(0, .ref me)] [] 0
  refine go_aload_n C dX8_beginRule_0 0 rfl rfl ?_
  refine go_get C (v := .int (go_b (sl))) fl_X8_89 dX8_beginRule_1 p0 hp0 rfl ?_
  refine go_if_eqB C 10 dX8_beginRule_4 (by decide) (fun c_4 => ?_) (fun c_4 => ?_)
  · refine go_aload_n C dX8_beginRule_10 0 rfl rfl ?_
    refine go_get C (v := .ref ru) fl_X8_26 dX8_beginRule_11 p0 hp0 rfl ?_
    refine go_cV C (c_X3_isFull G rs p1 ru rows nth nr hp1 (by omega)) ml_X8_111 mc_X3_isFull dX8_beginRule_14 [] rfl rfl p1 hp1 rfl rfl ⟨Nat.le_of_ble_eq_true rfl, Nat.le_of_ble_eq_true rfl, Nat.zero_le _, Nat.zero_le _, Nat.le_of_ble_eq_true rfl⟩ [.int (go_b (decide (12 ≤ nr)))] rfl ?_
    refine go_if_eqB C 25 dX8_beginRule_17 (by decide) (fun c_17 => ?_) (fun c_17 => ?_)
    · exact hc.elim (fun hc => absurd (c_4.symm.trans hc) (by decide)) (fun hc => absurd (of_decide_eq_false c_17) (by omega))
    · refine go_bipush C ((-3)) dX8_beginRule_20 (by decide) ?_
      refine go_goto C 32 dX8_beginRule_22 (by decide) ?_
      exact go_iret C E dX8_beginRule_32 (by simp [c_4]) rfl
  · refine go_bipush C ((-2)) dX8_beginRule_7 (by decide) ?_
    exact go_iret C E dX8_beginRule_9 (by simp [c_4]) rfl
set_option maxHeartbeats 4000000 in
set_option maxRecDepth 100000 in
theorem c_X8_beginRule (G : go_G) (rs : va_W) (p0 : Nat) (p1 : Nat) (me : Nat) (fi : Nat) (ak : Nat) (bl : Nat) (ru : Nat) (iv : Nat) (ma : Nat) (so : Nat) (tr : Nat) (be : Nat) (af : Nat) (fo : Nat) (sl : Bool) (vi : Bool) (om : Bool) (ex : Nat) (rows : Nat) (nth : Nat) (nr : Nat) (ra : Nat → Nat) (w : Nat) (l : Nat) (hp0 : rs[p0]? = some (me, .inr (7, [.ref fi, .ref ak, .ref bl, .ref ru, .ref iv, .ref ma, .ref so, .ref tr, .ref be, .ref af, .ref fo, .int (go_b (sl)), .int (go_b (vi)), .int (go_b (om)), .int (nI ex)]))) (hp1 : rs[p1]? = some (rows, .inl (G.2.2, 12, .inr (.inr (.inr (.inr (fun r => some (ra r)))))))) (hc : sl = false) (hnr : nr < 12) : go_Fn yX8_beginRule cX8_beginRule 1 (some .int) 2 40 G [.ref me] ((ru, .inr (3, [.ref rows, .ref nth, .int (nI nr)])) :: (ra nr, .inr (6, [.ref w, .int (nI l)])) :: rs) (some (.int (nI nr))) ((ru, .inr (3, [.ref rows, .ref nth, .int (nI (nr + 1))])) :: (ra nr, .inr (6, [.ref w, .int (nI 0)])) :: rs) := by
  refine go_Fn_of (by decide) (Nat.le_of_ble_eq_true rfl) (fun X C E => ?_)
  show go_Go X (0, 0) ((ru, .inr (3, [.ref rows, .ref nth, .int (nI nr)])) :: (ra nr, .inr (6, [.ref w, .int (nI l)])) :: rs) [(0, .ref me)] [] 0
  refine go_aload_n C dX8_beginRule_0 0 rfl rfl ?_
  refine go_get C (v := .int (go_b (sl))) fl_X8_89 dX8_beginRule_1 (p0 + 2) hp0 rfl ?_
  refine go_if_eqB C 10 dX8_beginRule_4 (by decide) (fun c_4 => ?_) (fun c_4 => ?_)
  · refine go_aload_n C dX8_beginRule_10 0 rfl rfl ?_
    refine go_get C (v := .ref ru) fl_X8_26 dX8_beginRule_11 (p0 + 2) hp0 rfl ?_
    refine go_cV C (c_X3_isFull G ((ru, .inr (3, [.ref rows, .ref nth, .int (nI nr)])) :: (ra nr, .inr (6, [.ref w, .int (nI l)])) :: rs) 0 ru rows nth nr rfl (by omega)) ml_X8_111 mc_X3_isFull dX8_beginRule_14 [] rfl rfl 0 rfl rfl rfl ⟨Nat.le_of_ble_eq_true rfl, Nat.le_of_ble_eq_true rfl, Nat.zero_le _, Nat.zero_le _, Nat.le_of_ble_eq_true rfl⟩ [.int (go_b (decide (12 ≤ nr)))] rfl ?_
    refine go_if_eqB C 25 dX8_beginRule_17 (by decide) (fun c_17 => ?_) (fun c_17 => ?_)
    · refine go_aload_n C dX8_beginRule_25 0 rfl rfl ?_
      refine go_get C (v := .ref ru) fl_X8_26 dX8_beginRule_26 (p0 + 2) hp0 rfl ?_
      refine go_cV C (c_X3_begin G rs p1 ru rows nth nr ra w l hp1 (by omega)) ml_X8_115 mc_X3_begin dX8_beginRule_29 [] rfl rfl 0 rfl rfl rfl ⟨Nat.le_of_ble_eq_true rfl, Nat.le_of_ble_eq_true rfl, Nat.zero_le _, Nat.zero_le _, Nat.le_of_ble_eq_true rfl⟩ [.int (nI nr)] rfl ?_
      exact go_iret C E dX8_beginRule_32 rfl rfl
    · exact absurd (of_decide_eq_true c_17) (by omega)
  · rw [hc] at c_4; cases c_4
set_option maxHeartbeats 4000000 in
set_option maxRecDepth 100000 in
theorem c_X8_feedRule0 (G : go_G) (rs : va_W) (p0 : Nat) (p1 : Nat) (me : Nat) (fi : Nat) (ak : Nat) (bl : Nat) (ru : Nat) (iv : Nat) (ma : Nat) (so : Nat) (tr : Nat) (be : Nat) (af : Nat) (fo : Nat) (sl : Bool) (vi : Bool) (om : Bool) (ex : Nat) (rows : Nat) (nth : Nat) (nr : Nat) (x : Int32) (hp0 : rs[p0]? = some (me, .inr (7, [.ref fi, .ref ak, .ref bl, .ref ru, .ref iv, .ref ma, .ref so, .ref tr, .ref be, .ref af, .ref fo, .int (go_b (sl)), .int (go_b (vi)), .int (go_b (om)), .int (nI ex)]))) (hp1 : rs[p1]? = some (ru, .inr (3, [.ref rows, .ref nth, .int (nI nr)]))) (hc : sl = true ∨ nr = 0) (hnr : nr ≤ 12) : go_Fn yX8_feedRule cX8_feedRule 2 (some .int) 3 62 G [.ref me, .int x] rs (some (.int (if sl = true then -2 else -4))) rs := by
  refine go_Fn_of (by decide) (Nat.le_of_ble_eq_true rfl) (fun X C E => ?_)
  show go_Go X (0, 0) rs [(0, .ref me), (1, .int x)] [] 0
  refine go_aload_n C dX8_feedRule_0 0 rfl rfl ?_
  refine go_get C (v := .int (go_b (sl))) fl_X8_89 dX8_feedRule_1 p0 hp0 rfl ?_
  refine go_if_eqB C 10 dX8_feedRule_4 (by decide) (fun c_4 => ?_) (fun c_4 => ?_)
  · refine go_aload_n C dX8_feedRule_10 0 rfl rfl ?_
    refine go_get C (v := .ref ru) fl_X8_26 dX8_feedRule_11 p0 hp0 rfl ?_
    refine go_cV C (c_X3_count G rs p1 ru rows nth nr hp1 ) ml_X8_119 mc_X3_count dX8_feedRule_14 [] rfl rfl p1 hp1 rfl rfl ⟨Nat.le_of_ble_eq_true rfl, Nat.le_of_ble_eq_true rfl, Nat.zero_le _, Nat.zero_le _, Nat.le_of_ble_eq_true rfl⟩ [.int (nI nr)] rfl ?_
    refine go_if_neN C 23 dX8_feedRule_17 (by decide) (by omega) (fun c_17 => ?_) (fun c_17 => ?_)
    · exact hc.elim (fun hc => absurd (c_4.symm.trans hc) (by decide)) (fun hc => absurd hc c_17)
    · refine go_bipush C ((-4)) dX8_feedRule_20 (by decide) ?_
      exact go_iret C E dX8_feedRule_22 (by simp [c_4]) rfl
  · refine go_bipush C ((-2)) dX8_feedRule_7 (by decide) ?_
    exact go_iret C E dX8_feedRule_9 (by simp [c_4]) rfl
set_option maxHeartbeats 4000000 in
set_option maxRecDepth 100000 in
theorem c_X8_feedRule (G : go_G) (rs : va_W) (p0 : Nat) (p1 : Nat) (p2 : Nat) (me : Nat) (fi : Nat) (ak : Nat) (bl : Nat) (ru : Nat) (iv : Nat) (ma : Nat) (so : Nat) (tr : Nat) (be : Nat) (af : Nat) (fo : Nat) (sl : Bool) (vi : Bool) (om : Bool) (ex : Nat) (rows : Nat) (nth : Nat) (nr : Nat) (ra : Nat → Nat) (w : Nat) (l : Nat) (f : Nat → Int32) (x : Int32) (hp0 : rs[p0]? = some (me, .inr (7, [.ref fi, .ref ak, .ref bl, .ref ru, .ref iv, .ref ma, .ref so, .ref tr, .ref be, .ref af, .ref fo, .int (go_b (sl)), .int (go_b (vi)), .int (go_b (om)), .int (nI ex)]))) (hp1 : rs[p1]? = some (ru, .inr (3, [.ref rows, .ref nth, .int (nI nr)]))) (hp2 : rs[p2]? = some (rows, .inl (G.2.2, 12, .inr (.inr (.inr (.inr (fun r => some (ra r)))))))) (hc : sl = false) (hnr : nr ≤ 12) (h1 : 1 ≤ nr) (hl : l ≤ 32) : go_Fn yX8_feedRule cX8_feedRule 2 (some .int) 3 62 G [.ref me, .int x] ((ra (nr - 1), .inr (6, [.ref w, .int (nI l)])) :: (w, .inl (G.2.1, 32, .inl f)) :: rs) (some (.int (pc_fr l x))) ((ra (nr - 1), .inr (6, [.ref w, .int (nI (pc_fl l x))])) :: (w, .inl (G.2.1, 32, .inl (pc_fw l f x))) :: rs) := by
  refine go_Fn_of (by decide) (Nat.le_of_ble_eq_true rfl) (fun X C E => ?_)
  show go_Go X (0, 0) ((ra (nr - 1), .inr (6, [.ref w, .int (nI l)])) :: (w, .inl (G.2.1, 32, .inl f)) :: rs) [(0, .ref me), (1, .int x)] [] 0
  refine go_aload_n C dX8_feedRule_0 0 rfl rfl ?_
  refine go_get C (v := .int (go_b (sl))) fl_X8_89 dX8_feedRule_1 (p0 + 2) hp0 rfl ?_
  refine go_if_eqB C 10 dX8_feedRule_4 (by decide) (fun c_4 => ?_) (fun c_4 => ?_)
  · refine go_aload_n C dX8_feedRule_10 0 rfl rfl ?_
    refine go_get C (v := .ref ru) fl_X8_26 dX8_feedRule_11 (p0 + 2) hp0 rfl ?_
    refine go_cV C (c_X3_count G ((ra (nr - 1), .inr (6, [.ref w, .int (nI l)])) :: (w, .inl (G.2.1, 32, .inl f)) :: rs) (p1 + 2) ru rows nth nr hp1 ) ml_X8_119 mc_X3_count dX8_feedRule_14 [] rfl rfl (p1 + 2) hp1 rfl rfl ⟨Nat.le_of_ble_eq_true rfl, Nat.le_of_ble_eq_true rfl, Nat.zero_le _, Nat.zero_le _, Nat.le_of_ble_eq_true rfl⟩ [.int (nI nr)] rfl ?_
    refine go_if_neN C 23 dX8_feedRule_17 (by decide) (by omega) (fun c_17 => ?_) (fun c_17 => ?_)
    · refine go_aload_n C dX8_feedRule_23 0 rfl rfl ?_
      refine go_get C (v := .ref ru) fl_X8_26 dX8_feedRule_24 (p0 + 2) hp0 rfl ?_
      refine go_aload_n C dX8_feedRule_27 0 rfl rfl ?_
      refine go_get C (v := .ref ru) fl_X8_26 dX8_feedRule_28 (p0 + 2) hp0 rfl ?_
      refine go_cV C (c_X3_count G ((ra (nr - 1), .inr (6, [.ref w, .int (nI l)])) :: (w, .inl (G.2.1, 32, .inl f)) :: rs) (p1 + 2) ru rows nth nr hp1 ) ml_X8_119 mc_X3_count dX8_feedRule_31 [.ref ru] rfl rfl (p1 + 2) hp1 rfl rfl ⟨Nat.le_of_ble_eq_true rfl, Nat.le_of_ble_eq_true rfl, Nat.zero_le _, Nat.zero_le _, Nat.le_of_ble_eq_true rfl⟩ [.int (nI nr), .ref ru] rfl ?_
      refine go_iconst C (1) dX8_feedRule_34 (by decide) ?_
      refine go_isub C (z := nI (nr - 1)) dX8_feedRule_35 (pk_sub (a := nr) (b := 1) (by omega)) ?_
      refine go_cV C (c_X3_at G ((ra (nr - 1), .inr (6, [.ref w, .int (nI l)])) :: (w, .inl (G.2.1, 32, .inl f)) :: rs) (p1 + 2) (p2 + 2) ru rows nth nr ra (nr - 1) hp1 hp2 (by omega) (by omega)) ml_X8_122 mc_X3_at dX8_feedRule_36 [] rfl rfl (p1 + 2) hp1 rfl rfl ⟨Nat.le_of_ble_eq_true rfl, Nat.le_of_ble_eq_true rfl, Nat.zero_le _, Nat.zero_le _, Nat.le_of_ble_eq_true rfl⟩ [.ref (ra (nr - 1))] rfl ?_
      refine go_iload_n C dX8_feedRule_39 1 rfl rfl ?_
      refine go_cS C (c_X8_feed G rs  (ra (nr - 1)) w l f x  (by omega)) ml_X8_126 mc_X8_feed dX8_feedRule_40 [] rfl rfl rfl ⟨Nat.le_of_ble_eq_true rfl, Nat.le_of_ble_eq_true rfl, Nat.zero_le _, Nat.zero_le _, Nat.le_of_ble_eq_true rfl⟩ [.int (pc_fr l x)] rfl ?_
      exact go_iret C E dX8_feedRule_43 rfl rfl
    · exact absurd c_17 (by omega)
  · rw [hc] at c_4; cases c_4
set_option maxHeartbeats 4000000 in
set_option maxRecDepth 100000 in
theorem c_X8_feedInvariant (G : go_G) (rs : va_W) (p0 : Nat) (p1 : Nat) (me : Nat) (fi : Nat) (ak : Nat) (bl : Nat) (ru : Nat) (iv : Nat) (ma : Nat) (so : Nat) (tr : Nat) (be : Nat) (af : Nat) (fo : Nat) (sl : Bool) (vi : Bool) (om : Bool) (ex : Nat) (a : Nat) (w : Nat) (ln : Nat) (f : Nat → Int32) (x : Int32) (hp0 : rs[p0]? = some (me, .inr (7, [.ref fi, .ref ak, .ref bl, .ref ru, .ref iv, .ref ma, .ref so, .ref tr, .ref be, .ref af, .ref fo, .int (go_b (sl)), .int (go_b (vi)), .int (go_b (om)), .int (nI ex)]))) (hp1 : rs[p1]? = some (iv, .inr (1, [.ref a]))) (hl : ln ≤ 32) : go_Fn yX8_feedInvariant cX8_feedInvariant 2 (some .int) 3 62 G [.ref me, .int x] ((a, .inr (6, [.ref w, .int (nI ln)])) :: (w, .inl (G.2.1, 32, .inl f)) :: rs) (some (.int (if sl = true then -2 else pc_fr ln x))) ((a, .inr (6, [.ref w, .int (nI (if sl = true then ln else pc_fl ln x))])) :: (w, .inl (G.2.1, 32, .inl (if sl = true then f else pc_fw ln f x))) :: rs) := by
  refine go_Fn_of (by decide) (Nat.le_of_ble_eq_true rfl) (fun X C E => ?_)
  show go_Go X (0, 0) ((a, .inr (6, [.ref w, .int (nI ln)])) :: (w, .inl (G.2.1, 32, .inl f)) :: rs) [(0, .ref me), (1, .int x)] [] 0
  refine go_aload_n C dX8_feedInvariant_0 0 rfl rfl ?_
  refine go_get C (v := .int (go_b (sl))) fl_X8_89 dX8_feedInvariant_1 (p0 + 2) hp0 rfl ?_
  refine go_if_eqB C 10 dX8_feedInvariant_4 (by decide) (fun c_4 => ?_) (fun c_4 => ?_)
  · refine go_aload_n C dX8_feedInvariant_10 0 rfl rfl ?_
    refine go_get C (v := .ref iv) fl_X8_33 dX8_feedInvariant_11 (p0 + 2) hp0 rfl ?_
    refine go_get C (v := .ref a) fl_X8_80 dX8_feedInvariant_14 (p1 + 2) hp1 rfl ?_
    refine go_iload_n C dX8_feedInvariant_17 1 rfl rfl ?_
    refine go_cS C (c_X8_feed G rs  a w ln f x  (by omega)) ml_X8_126 mc_X8_feed dX8_feedInvariant_18 [] rfl rfl rfl ⟨Nat.le_of_ble_eq_true rfl, Nat.le_of_ble_eq_true rfl, Nat.zero_le _, Nat.zero_le _, Nat.le_of_ble_eq_true rfl⟩ [.int (pc_fr ln x)] rfl ?_
    exact go_iret C E dX8_feedInvariant_21 (by simp [c_4]) (by simp [c_4])
  · refine go_bipush C ((-2)) dX8_feedInvariant_7 (by decide) ?_
    exact go_iret C E dX8_feedInvariant_9 (by simp [c_4]) (by simp [c_4])
set_option maxHeartbeats 4000000 in
set_option maxRecDepth 100000 in
theorem c_X8_allExpanded (G : go_G) (rs : va_W) (p0 : Nat) (p1 : Nat) (me : Nat) (fi : Nat) (ak : Nat) (bl : Nat) (ru : Nat) (iv : Nat) (ma : Nat) (so : Nat) (tr : Nat) (be : Nat) (af : Nat) (fo : Nat) (sl : Bool) (vi : Bool) (om : Bool) (ex : Nat) (va : Nat) (pa : Nat) (ne : Nat) (ol : Nat) (ct : Nat) (hp0 : rs[p0]? = some (me, .inr (7, [.ref fi, .ref ak, .ref bl, .ref ru, .ref iv, .ref ma, .ref so, .ref tr, .ref be, .ref af, .ref fo, .int (go_b (sl)), .int (go_b (vi)), .int (go_b (om)), .int (nI ex)]))) (hp1 : rs[p1]? = some (so, .inr (4, [.ref va, .ref pa, .ref ne, .ref ol, .int (nI ct)]))) (he : ex ≤ 1000) (hc : ct ≤ 400) : go_Fn yX8_allExpanded cX8_allExpanded 1 (some .boolean) 1 20 G [.ref me] rs (some (.int (go_b (decide (ct ≤ ex))))) rs := by
  refine go_Fn_of (by decide) (Nat.le_of_ble_eq_true rfl) (fun X C E => ?_)
  show go_Go X (0, 0) rs [(0, .ref me)] [] 0
  refine go_aload_n C dX8_allExpanded_0 0 rfl rfl ?_
  refine go_get C (v := .int (nI ex)) fl_X8_99 dX8_allExpanded_1 p0 hp0 rfl ?_
  refine go_aload_n C dX8_allExpanded_4 0 rfl rfl ?_
  refine go_get C (v := .ref so) fl_X8_47 dX8_allExpanded_5 p0 hp0 rfl ?_
  refine go_cV C (c_X4_count G rs p1 so va pa ne ol ct hp1 ) ml_X8_166 mc_X4_count dX8_allExpanded_8 [.int (nI ex)] rfl rfl p1 hp1 rfl rfl ⟨Nat.le_of_ble_eq_true rfl, Nat.le_of_ble_eq_true rfl, Nat.zero_le _, Nat.zero_le _, Nat.le_of_ble_eq_true rfl⟩ [.int (nI ct), .int (nI ex)] rfl ?_
  refine go_icmp_ltN (a := ex) (b := ct) C 18 dX8_allExpanded_11 (by decide) (by omega) (by omega) (fun c_11 => ?_) (fun c_11 => ?_)
  · refine go_iconst C (0) dX8_allExpanded_18 (by decide) ?_
    refine go_se [.int (go_b (false))] rfl ?_
    exact go_zret C E dX8_allExpanded_19 (go_bn _) (by first | contradiction | rfl | (simp [decide_eq_true_eq, *]; done) | (rw [decide_eq_true (by omega)]; done) | (rw [decide_eq_false (by omega)]; done) | (simp_all [decide_eq_true_eq]; done) | (simp [decide_eq_true_eq]; omega) | (simp_all [decide_eq_true_eq]; omega) | omega) rfl
  · refine go_iconst C (1) dX8_allExpanded_14 (by decide) ?_
    refine go_goto C 19 dX8_allExpanded_15 (by decide) ?_
    refine go_se [.int (go_b (true))] rfl ?_
    exact go_zret C E dX8_allExpanded_19 (go_bn _) (by first | contradiction | rfl | (simp [decide_eq_true_eq, *]; done) | (rw [decide_eq_true (by omega)]; done) | (rw [decide_eq_false (by omega)]; done) | (simp_all [decide_eq_true_eq]; done) | (simp [decide_eq_true_eq]; omega) | (simp_all [decide_eq_true_eq]; omega) | omega) rfl
set_option maxHeartbeats 4000000 in
set_option maxRecDepth 100000 in
theorem c_X8_verdict (G : go_G) (rs : va_W) (p0 : Nat) (p1 : Nat) (me : Nat) (fi : Nat) (ak : Nat) (bl : Nat) (ru : Nat) (iv : Nat) (ma : Nat) (so : Nat) (tr : Nat) (be : Nat) (af : Nat) (fo : Nat) (sl : Bool) (vi : Bool) (om : Bool) (ex : Nat) (va : Nat) (pa : Nat) (ne : Nat) (ol : Nat) (ct : Nat) (hp0 : rs[p0]? = some (me, .inr (7, [.ref fi, .ref ak, .ref bl, .ref ru, .ref iv, .ref ma, .ref so, .ref tr, .ref be, .ref af, .ref fo, .int (go_b (sl)), .int (go_b (vi)), .int (go_b (om)), .int (nI ex)]))) (hp1 : rs[p1]? = some (so, .inr (4, [.ref va, .ref pa, .ref ne, .ref ol, .int (nI ct)]))) (he : ex ≤ 1000) (hc : ct ≤ 400) : go_Fn yX8_verdict cX8_verdict 1 (some .int) 2 40 G [.ref me] rs (some (.int (if vi = true then 2 else if sl = true ∧ ct ≤ ex then 1 else 0))) rs := by
  refine go_Fn_of (by decide) (Nat.le_of_ble_eq_true rfl) (fun X C E => ?_)
  show go_Go X (0, 0) rs [(0, .ref me)] [] 0
  refine go_aload_n C dX8_verdict_0 0 rfl rfl ?_
  refine go_get C (v := .int (go_b (vi))) fl_X8_93 dX8_verdict_1 p0 hp0 rfl ?_
  refine go_if_eqB C 9 dX8_verdict_4 (by decide) (fun c_4 => ?_) (fun c_4 => ?_)
  · refine go_aload_n C dX8_verdict_9 0 rfl rfl ?_
    refine go_get C (v := .int (go_b (sl))) fl_X8_89 dX8_verdict_10 p0 hp0 rfl ?_
    refine go_if_eqB C 27 dX8_verdict_13 (by decide) (fun c_13 => ?_) (fun c_13 => ?_)
    · refine go_iconst C (0) dX8_verdict_27 (by decide) ?_
      exact go_iret C E dX8_verdict_28 (by first | (simp_all; done) | (simp_all; omega)) rfl
    · refine go_aload_n C dX8_verdict_16 0 rfl rfl ?_
      refine go_cV C (c_X8_allExpanded G rs p0 p1 me fi ak bl ru iv ma so tr be af fo sl vi om ex va pa ne ol ct hp0 hp1 (by omega) (by omega)) ml_X8_160 mc_X8_allExpanded dX8_verdict_17 [] rfl rfl p0 hp0 rfl rfl ⟨Nat.le_of_ble_eq_true rfl, Nat.le_of_ble_eq_true rfl, Nat.zero_le _, Nat.zero_le _, Nat.le_of_ble_eq_true rfl⟩ [.int (go_b (decide (ct ≤ ex)))] rfl ?_
      refine go_if_eqB C 27 dX8_verdict_20 (by decide) (fun c_20 => ?_) (fun c_20 => ?_)
      · refine go_iconst C (0) dX8_verdict_27 (by decide) ?_
        exact go_iret C E dX8_verdict_28 (by first | (simp_all; done) | (simp_all; omega)) rfl
      · refine go_iconst C (1) dX8_verdict_23 (by decide) ?_
        refine go_goto C 28 dX8_verdict_24 (by decide) ?_
        exact go_iret C E dX8_verdict_28 (by first | (simp_all; done) | (simp_all; omega)) rfl
  · refine go_iconst C (2) dX8_verdict_7 (by decide) ?_
    exact go_iret C E dX8_verdict_8 (by first | (simp_all; done) | (simp_all; omega)) rfl
set_option maxHeartbeats 4000000 in
set_option maxRecDepth 100000 in
theorem c_X8_stateCount (G : go_G) (rs : va_W) (p0 : Nat) (p1 : Nat) (me : Nat) (fi : Nat) (ak : Nat) (bl : Nat) (ru : Nat) (iv : Nat) (ma : Nat) (so : Nat) (tr : Nat) (be : Nat) (af : Nat) (fo : Nat) (sl : Bool) (vi : Bool) (om : Bool) (ex : Nat) (va : Nat) (pa : Nat) (ne : Nat) (ol : Nat) (ct : Nat) (hp0 : rs[p0]? = some (me, .inr (7, [.ref fi, .ref ak, .ref bl, .ref ru, .ref iv, .ref ma, .ref so, .ref tr, .ref be, .ref af, .ref fo, .int (go_b (sl)), .int (go_b (vi)), .int (go_b (om)), .int (nI ex)]))) (hp1 : rs[p1]? = some (so, .inr (4, [.ref va, .ref pa, .ref ne, .ref ol, .int (nI ct)])))  : go_Fn yX8_stateCount cX8_stateCount 1 (some .int) 1 20 G [.ref me] rs (some (.int (nI ct))) rs := by
  refine go_Fn_of (by decide) (Nat.le_of_ble_eq_true rfl) (fun X C E => ?_)
  show go_Go X (0, 0) rs [(0, .ref me)] [] 0
  refine go_aload_n C dX8_stateCount_0 0 rfl rfl ?_
  refine go_get C (v := .ref so) fl_X8_47 dX8_stateCount_1 p0 hp0 rfl ?_
  refine go_cV C (c_X4_count G rs p1 so va pa ne ol ct hp1 ) ml_X8_166 mc_X4_count dX8_stateCount_4 [] rfl rfl p1 hp1 rfl rfl ⟨Nat.le_of_ble_eq_true rfl, Nat.le_of_ble_eq_true rfl, Nat.zero_le _, Nat.zero_le _, Nat.le_of_ble_eq_true rfl⟩ [.int (nI ct)] rfl ?_
  exact go_iret C E dX8_stateCount_7 rfl rfl
set_option maxHeartbeats 4000000 in
set_option maxRecDepth 100000 in
theorem c_X8_traceLen (G : go_G) (rs : va_W) (p0 : Nat) (p1 : Nat) (me : Nat) (fi : Nat) (ak : Nat) (bl : Nat) (ru : Nat) (iv : Nat) (ma : Nat) (so : Nat) (tr : Nat) (be : Nat) (af : Nat) (fo : Nat) (sl : Bool) (vi : Bool) (om : Bool) (ex : Nat) (wy : Nat) (fd : Nat) (tv : Nat) (sp : Nat) (hp0 : rs[p0]? = some (me, .inr (7, [.ref fi, .ref ak, .ref bl, .ref ru, .ref iv, .ref ma, .ref so, .ref tr, .ref be, .ref af, .ref fo, .int (go_b (sl)), .int (go_b (vi)), .int (go_b (om)), .int (nI ex)]))) (hp1 : rs[p1]? = some (tr, .inr (5, [.ref wy, .ref fd, .ref tv, .int (nI sp)])))  : go_Fn yX8_traceLen cX8_traceLen 1 (some .int) 1 20 G [.ref me] rs (some (.int (if vi = true then nI sp else -1))) rs := by
  refine go_Fn_of (by decide) (Nat.le_of_ble_eq_true rfl) (fun X C E => ?_)
  show go_Go X (0, 0) rs [(0, .ref me)] [] 0
  refine go_aload_n C dX8_traceLen_0 0 rfl rfl ?_
  refine go_get C (v := .int (go_b (vi))) fl_X8_93 dX8_traceLen_1 p0 hp0 rfl ?_
  refine go_if_eqB C 17 dX8_traceLen_4 (by decide) (fun c_4 => ?_) (fun c_4 => ?_)
  · refine go_iconst C ((-1)) dX8_traceLen_17 (by decide) ?_
    exact go_iret C E dX8_traceLen_18 (by simp [c_4]) rfl
  · refine go_aload_n C dX8_traceLen_7 0 rfl rfl ?_
    refine go_get C (v := .ref tr) fl_X8_54 dX8_traceLen_8 p0 hp0 rfl ?_
    refine go_cV C (c_X5_steps G rs p1 tr wy fd tv sp hp1 ) ml_X8_167 mc_X5_steps dX8_traceLen_11 [] rfl rfl p1 hp1 rfl rfl ⟨Nat.le_of_ble_eq_true rfl, Nat.le_of_ble_eq_true rfl, Nat.zero_le _, Nat.zero_le _, Nat.le_of_ble_eq_true rfl⟩ [.int (nI sp)] rfl ?_
    refine go_goto C 18 dX8_traceLen_14 (by decide) ?_
    exact go_iret C E dX8_traceLen_18 (by simp [c_4]) rfl
set_option maxHeartbeats 4000000 in
set_option maxRecDepth 100000 in
theorem c_X8_traceRule (G : go_G) (rs : va_W) (p0 : Nat) (p1 : Nat) (p2 : Nat) (me : Nat) (fi : Nat) (ak : Nat) (bl : Nat) (ru : Nat) (iv : Nat) (ma : Nat) (so : Nat) (tr : Nat) (be : Nat) (af : Nat) (fo : Nat) (sl : Bool) (vi : Bool) (om : Bool) (ex : Nat) (wy : Nat) (fd : Nat) (tv : Nat) (sp : Nat) (Df : Nat → Int32) (i : Int32) (hp0 : rs[p0]? = some (me, .inr (7, [.ref fi, .ref ak, .ref bl, .ref ru, .ref iv, .ref ma, .ref so, .ref tr, .ref be, .ref af, .ref fo, .int (go_b (sl)), .int (go_b (vi)), .int (go_b (om)), .int (nI ex)]))) (hp1 : rs[p1]? = some (tr, .inr (5, [.ref wy, .ref fd, .ref tv, .int (nI sp)]))) (hp2 : rs[p2]? = some (fd, .inl (G.2.1, 400, .inl Df))) (hs : sp < 400) : go_Fn yX8_traceRule cX8_traceRule 2 (some .int) 1 21 G [.ref me, .int i] rs (some (.int (if vi = true then pc_ra sp Df i else -1))) rs := by
  refine go_Fn_of (by decide) (Nat.le_of_ble_eq_true rfl) (fun X C E => ?_)
  show go_Go X (0, 0) rs [(0, .ref me), (1, .int i)] [] 0
  refine go_aload_n C dX8_traceRule_0 0 rfl rfl ?_
  refine go_get C (v := .int (go_b (vi))) fl_X8_93 dX8_traceRule_1 p0 hp0 rfl ?_
  refine go_if_eqB C 18 dX8_traceRule_4 (by decide) (fun c_4 => ?_) (fun c_4 => ?_)
  · refine go_iconst C ((-1)) dX8_traceRule_18 (by decide) ?_
    exact go_iret C E dX8_traceRule_19 (by simp [c_4]) rfl
  · refine go_aload_n C dX8_traceRule_7 0 rfl rfl ?_
    refine go_get C (v := .ref tr) fl_X8_54 dX8_traceRule_8 p0 hp0 rfl ?_
    refine go_iload_n C dX8_traceRule_11 1 rfl rfl ?_
    refine go_cV C (c_X5_ruleAt G rs p1 p2 tr wy fd tv sp Df i hp1 hp2 (by omega)) ml_X8_170 mc_X5_ruleAt dX8_traceRule_12 [] rfl rfl p1 hp1 rfl rfl ⟨Nat.le_of_ble_eq_true rfl, Nat.le_of_ble_eq_true rfl, Nat.zero_le _, Nat.zero_le _, Nat.le_of_ble_eq_true rfl⟩ [.int (pc_ra sp Df i)] rfl ?_
    refine go_goto C 19 dX8_traceRule_15 (by decide) ?_
    exact go_iret C E dX8_traceRule_19 (by simp [c_4]) rfl
end
section
set_option maxHeartbeats 4000000 in
set_option maxRecDepth 100000 in
theorem c_X8_traceVar (G : go_G) (rs : va_W) (p0 : Nat) (p1 : Nat) (p2 : Nat) (me : Nat) (fi : Nat) (ak : Nat) (bl : Nat) (ru : Nat) (iv : Nat) (ma : Nat) (so : Nat) (tr : Nat) (be : Nat) (af : Nat) (fo : Nat) (sl : Bool) (vi : Bool) (om : Bool) (ex : Nat) (wy : Nat) (fd : Nat) (tv : Nat) (sp : Nat) (Tf : Nat → Int32) (g : Nat → Int32) (i : Int32) (v : Int32) (hp0 : rs[p0]? = some (me, .inr (7, [.ref fi, .ref ak, .ref bl, .ref ru, .ref iv, .ref ma, .ref so, .ref tr, .ref be, .ref af, .ref fo, .int (go_b (sl)), .int (go_b (vi)), .int (go_b (om)), .int (nI ex)]))) (hp1 : rs[p1]? = some (tr, .inr (5, [.ref wy, .ref fd, .ref tv, .int (nI sp)]))) (hp2 : rs[p2]? = some (tv, .inl (G.2.1, 2400, .inl Tf))) (hs : sp < 400) : go_Fe yX8_traceVar cX8_traceVar 3 (some .int) 2 66 G [.ref me, .int i, .int v] ((be, .inl (G.2.1, 6, .inl g)) :: rs) (S := Nat → Int32) (fun u => True) (fun u => some (.int (if vi = true ∧ pc_hst sp i = true ∧ pc_isV v = true then Tf (6 * i.toNatClampNeg + v.toNatClampNeg) else 0))) (fun u => (be, .inl (G.2.1, 6, .inl u)) :: rs) := by
  refine go_Fe_of (by decide) (Nat.le_of_ble_eq_true rfl) (fun X C E => ?_)
  show go_Go X (0, 0) ((be, .inl (G.2.1, 6, .inl g)) :: rs) [(0, .ref me), (1, .int i), (2, .int v)] [] 0
  refine go_aload_n C dX8_traceVar_0 0 rfl rfl ?_
  refine go_get C (v := .int (go_b (vi))) fl_X8_93 dX8_traceVar_1 (p0 + 1) hp0 rfl ?_
  refine go_if_eqB C 25 dX8_traceVar_4 (by decide) (fun c_4 => ?_) (fun c_4 => ?_)
  · refine go_iconst C (0) dX8_traceVar_25 (by decide) ?_
    exact go_iretE C E dX8_traceVar_26 (g) trivial (by first | (simp [c_4, c_15, c_22, pc_stt]; done) | (simp [c_4, c_15]; done) | (simp [c_4]; done)) rfl
  · refine go_aload_n C dX8_traceVar_7 0 rfl rfl ?_
    refine go_get C (v := .ref tr) fl_X8_54 dX8_traceVar_8 (p0 + 1) hp0 rfl ?_
    refine go_iload_n C dX8_traceVar_11 1 rfl rfl ?_
    refine go_cV C (c_X5_hasState G ((be, .inl (G.2.1, 6, .inl g)) :: rs) (p1 + 1) tr wy fd tv sp i hp1 ) ml_X8_174 mc_X5_hasState dX8_traceVar_12 [] rfl rfl (p1 + 1) hp1 rfl rfl ⟨Nat.le_of_ble_eq_true rfl, Nat.le_of_ble_eq_true rfl, Nat.zero_le _, Nat.zero_le _, Nat.le_of_ble_eq_true rfl⟩ [.int (go_b (pc_hst sp i))] rfl ?_
    refine go_if_eqB C 25 dX8_traceVar_15 (by decide) (fun c_15 => ?_) (fun c_15 => ?_)
    · refine go_iconst C (0) dX8_traceVar_25 (by decide) ?_
      exact go_iretE C E dX8_traceVar_26 (g) trivial (by first | (simp [c_4, c_15, c_22, pc_stt]; done) | (simp [c_4, c_15]; done) | (simp [c_4]; done)) rfl
    · refine go_iload_n C dX8_traceVar_18 2 rfl rfl ?_
      refine go_cS C (c_X8_isVariable G ((be, .inl (G.2.1, 6, .inl g)) :: rs)  v  ) ml_X8_103 mc_X8_isVariable dX8_traceVar_19 [] rfl rfl rfl ⟨Nat.le_of_ble_eq_true rfl, Nat.le_of_ble_eq_true rfl, Nat.zero_le _, Nat.zero_le _, Nat.le_of_ble_eq_true rfl⟩ [.int (go_b (pc_isV v))] rfl ?_
      refine go_if_neB C 27 dX8_traceVar_22 (by decide) (fun c_22 => ?_) (fun c_22 => ?_)
      · obtain ⟨hi1, hi2, hi3⟩ := pc_hst_nI (by omega) c_15
        obtain ⟨hv1, hv2⟩ := pc_isV_nI c_22
        refine go_aload_n C dX8_traceVar_27 0 rfl rfl ?_
        refine go_get C (v := .ref tr) fl_X8_54 dX8_traceVar_28 (p0 + 1) hp0 rfl ?_
        refine go_iload_n C dX8_traceVar_31 1 rfl rfl ?_
        refine go_se [.int (nI (i.toNatClampNeg)), .ref tr] (by rw [← hi1]) ?_
        refine go_aload_n C dX8_traceVar_32 0 rfl rfl ?_
        refine go_get C (v := .ref be) fl_X8_58 dX8_traceVar_33 (p0 + 1) hp0 rfl ?_
        refine go_cV C (c_X5_copyOut G rs p1 p2 tr wy fd tv sp Tf i.toNatClampNeg be g hp1 hp2 (by omega) (by omega) (by omega)) ml_X8_177 mc_X5_copyOut dX8_traceVar_36 [] rfl rfl (p1 + 1) hp1 rfl rfl ⟨Nat.le_of_ble_eq_true rfl, Nat.le_of_ble_eq_true rfl, Nat.zero_le _, Nat.zero_le _, Nat.le_of_ble_eq_true rfl⟩ [] rfl ?_
        refine go_aload_n C dX8_traceVar_39 0 rfl rfl ?_
        refine go_get C (v := .ref be) fl_X8_58 dX8_traceVar_40 (p0 + 1) hp0 rfl ?_
        refine go_iload_n C dX8_traceVar_43 2 rfl rfl ?_
        refine go_iald C dX8_traceVar_44 0 rfl (v.toNatClampNeg) hv1 hv2 (by decide) ?_
        exact go_iretE C E dX8_traceVar_45 (pc_stt Tf i.toNatClampNeg) trivial (by first | (simp [c_4, c_15, c_22, pc_stt]; done) | (simp [c_4, c_15]; done) | (simp [c_4]; done)) rfl
      · refine go_iconst C (0) dX8_traceVar_25 (by decide) ?_
        exact go_iretE C E dX8_traceVar_26 (g) trivial (by first | (simp [c_4, c_15, c_22, pc_stt]; done) | (simp [c_4, c_15]; done) | (simp [c_4]; done)) rfl
set_option maxHeartbeats 4000000 in
set_option maxRecDepth 100000 in
theorem c_X8_replay (G : go_G) (rs : va_W) (p0 : Nat) (p1 : Nat) (p2 : Nat) (p3 : Nat) (p4 : Nat) (p5 : Nat) (me : Nat) (fi : Nat) (ak : Nat) (bl : Nat) (ru : Nat) (iv : Nat) (ma : Nat) (so : Nat) (tr : Nat) (be : Nat) (af : Nat) (fo : Nat) (sl : Bool) (vi : Bool) (om : Bool) (ex : Nat) (wy : Nat) (fd : Nat) (tv : Nat) (sp : Nat) (Tf : Nat → Int32) (sk : Nat) (h : Nat) (st : Nat → Int32) (ia : Nat) (iw : Nat) (il : Nat) (If : Nat → Int32) (g : Nat → Int32) (hp0 : rs[p0]? = some (me, .inr (7, [.ref fi, .ref ak, .ref bl, .ref ru, .ref iv, .ref ma, .ref so, .ref tr, .ref be, .ref af, .ref fo, .int (go_b (sl)), .int (go_b (vi)), .int (go_b (om)), .int (nI ex)]))) (hp1 : rs[p1]? = some (tr, .inr (5, [.ref wy, .ref fd, .ref tv, .int (nI sp)]))) (hp2 : rs[p2]? = some (tv, .inl (G.2.1, 2400, .inl Tf))) (hp3 : rs[p3]? = some (iv, .inr (1, [.ref ia]))) (hp4 : rs[p4]? = some (ia, .inr (6, [.ref iw, .int (nI il)]))) (hp5 : rs[p5]? = some (iw, .inl (G.2.1, 32, .inl If))) (hs : sp < 400) (hl : il ≤ 32) (hIK : pc_IK il If) : go_Fe yX8_replay cX8_replay 1 (some .int) 4 99 G [.ref me] ((ma, .inr (2, [.ref sk, .int (nI h)])) :: (sk, .inl (G.2.1, 8, .inl st)) :: (be, .inl (G.2.1, 6, .inl g)) :: rs) (S := (Nat → Int32) × Nat × (Nat → Int32)) (fun u => True) (fun u => some (.int (if vi = true then (if pc_ho il If (pc_stt Tf sp) = true then 0 else 1) else 0))) (fun u => (ma, .inr (2, [.ref sk, .int (nI (u.2.1))])) :: (sk, .inl (G.2.1, 8, .inl u.1)) :: (be, .inl (G.2.1, 6, .inl u.2.2)) :: rs) := by
  refine go_Fe_of (by decide) (Nat.le_of_ble_eq_true rfl) (fun X C E => ?_)
  show go_Go X (0, 0) ((ma, .inr (2, [.ref sk, .int (nI h)])) :: (sk, .inl (G.2.1, 8, .inl st)) :: (be, .inl (G.2.1, 6, .inl g)) :: rs) [(0, .ref me)] [] 0
  refine go_aload_n C dX8_replay_0 0 rfl rfl ?_
  refine go_get C (v := .int (go_b (vi))) fl_X8_93 dX8_replay_1 (p0 + 3) hp0 rfl ?_
  refine go_if_neB C 9 dX8_replay_4 (by decide) (fun c_4 => ?_) (fun c_4 => ?_)
  · refine go_aload_n C dX8_replay_9 0 rfl rfl ?_
    refine go_get C (v := .ref tr) fl_X8_54 dX8_replay_10 (p0 + 3) hp0 rfl ?_
    refine go_aload_n C dX8_replay_13 0 rfl rfl ?_
    refine go_get C (v := .ref tr) fl_X8_54 dX8_replay_14 (p0 + 3) hp0 rfl ?_
    refine go_cV C (c_X5_steps G ((ma, .inr (2, [.ref sk, .int (nI h)])) :: (sk, .inl (G.2.1, 8, .inl st)) :: (be, .inl (G.2.1, 6, .inl g)) :: rs) (p1 + 3) tr wy fd tv sp hp1 ) ml_X8_167 mc_X5_steps dX8_replay_17 [.ref tr] rfl rfl (p1 + 3) hp1 rfl rfl ⟨Nat.le_of_ble_eq_true rfl, Nat.le_of_ble_eq_true rfl, Nat.zero_le _, Nat.zero_le _, Nat.le_of_ble_eq_true rfl⟩ [.int (nI sp), .ref tr] rfl ?_
    refine go_aload_n C dX8_replay_20 0 rfl rfl ?_
    refine go_get C (v := .ref be) fl_X8_58 dX8_replay_21 (p0 + 3) hp0 rfl ?_
    refine go_perm [(ma, .inr (2, [.ref sk, .int (nI h)])), (sk, .inl (G.2.1, 8, .inl st)), (be, .inl (G.2.1, 6, .inl g))] [(be, .inl (G.2.1, 6, .inl g)), (ma, .inr (2, [.ref sk, .int (nI h)])), (sk, .inl (G.2.1, 8, .inl st))] rs [2, 0, 1] rfl rfl rfl ?_
    refine go_cV C (c_X5_copyOut G ((ma, .inr (2, [.ref sk, .int (nI h)])) :: (sk, .inl (G.2.1, 8, .inl st)) :: rs) (p1 + 2) (p2 + 2) tr wy fd tv sp Tf sp be g hp1 hp2 (by omega) (by omega) (by omega)) ml_X8_177 mc_X5_copyOut dX8_replay_24 [] rfl rfl (p1 + 3) hp1 rfl rfl ⟨Nat.le_of_ble_eq_true rfl, Nat.le_of_ble_eq_true rfl, Nat.zero_le _, Nat.zero_le _, Nat.le_of_ble_eq_true rfl⟩ [] rfl ?_
    refine go_aload_n C dX8_replay_27 0 rfl rfl ?_
    refine go_get C (v := .ref ma) fl_X8_40 dX8_replay_28 (p0 + 3) hp0 rfl ?_
    refine go_aload_n C dX8_replay_31 0 rfl rfl ?_
    refine go_get C (v := .ref iv) fl_X8_33 dX8_replay_32 (p0 + 3) hp0 rfl ?_
    refine go_aload_n C dX8_replay_35 0 rfl rfl ?_
    refine go_get C (v := .ref be) fl_X8_58 dX8_replay_36 (p0 + 3) hp0 rfl ?_
    refine go_perm [(be, .inl (G.2.1, 6, .inl (pc_stt Tf sp))), (ma, .inr (2, [.ref sk, .int (nI h)])), (sk, .inl (G.2.1, 8, .inl st))] [(ma, .inr (2, [.ref sk, .int (nI h)])), (sk, .inl (G.2.1, 8, .inl st)), (be, .inl (G.2.1, 6, .inl (pc_stt Tf sp)))] rs [1, 2, 0] rfl rfl rfl ?_
    refine go_cVe C (c_X2_holds G ((be, .inl (G.2.1, 6, .inl (pc_stt Tf sp))) :: rs) (p3 + 1) (p4 + 1) (p5 + 1) 0 ma sk h st iv ia iw il If be (pc_stt Tf sp) hp3 hp4 hp5 rfl (by omega) hIK) ml_X8_181 mc_X2_holds dX8_replay_39 [] rfl (fun _ => rfl) 0 rfl rfl rfl ⟨Nat.le_of_ble_eq_true rfl, Nat.le_of_ble_eq_true rfl, Nat.zero_le _, Nat.zero_le _, Nat.le_of_ble_eq_true rfl⟩ (fun u hu_1 => ?_)
    obtain ⟨st2_1, h2_1⟩ := u
    show go_Go X (0, 0) ((ma, .inr (2, [.ref sk, .int (nI h2_1)])) :: (sk, .inl (G.2.1, 8, .inl st2_1)) :: (be, .inl (G.2.1, 6, .inl (pc_stt Tf sp))) :: rs) [(0, .ref me)] [.int (go_b (pc_ho il If (pc_stt Tf sp)))] 42
    refine go_if_eqB C 49 dX8_replay_42 (by decide) (fun c_42 => ?_) (fun c_42 => ?_)
    · refine go_iconst C (1) dX8_replay_49 (by decide) ?_
      exact go_iretE C E dX8_replay_50 (st2_1, h2_1, pc_stt Tf sp) trivial (by first | (simp [c_4, c_42]; done) | (simp [c_4]; done)) rfl
    · refine go_iconst C (0) dX8_replay_45 (by decide) ?_
      refine go_goto C 50 dX8_replay_46 (by decide) ?_
      exact go_iretE C E dX8_replay_50 (st2_1, h2_1, pc_stt Tf sp) trivial (by first | (simp [c_4, c_42]; done) | (simp [c_4]; done)) rfl
  · refine go_iconst C (0) dX8_replay_7 (by decide) ?_
    exact go_iretE C E dX8_replay_8 (st, h, g) trivial (by first | (simp [c_4, c_42]; done) | (simp [c_4]; done)) rfl
set_option maxHeartbeats 4000000 in
set_option maxRecDepth 100000 in
theorem c_X8_isReachable (G : go_G) (rs : va_W) (p0 : Nat) (p1 : Nat) (p2 : Nat) (p3 : Nat) (p4 : Nat) (p5 : Nat) (p6 : Nat) (p7 : Nat) (me : Nat) (fi : Nat) (ak : Nat) (bl : Nat) (ru : Nat) (iv : Nat) (ma : Nat) (so : Nat) (tr : Nat) (be : Nat) (af : Nat) (fo : Nat) (sl : Bool) (vi : Bool) (om : Bool) (ex : Nat) (va : Nat) (pa : Nat) (ne : Nat) (ol : Nat) (ct : Nat) (Vf : Nat → Int32) (Nf : Nat → Int32) (Of : Nat → Int32) (nb : Nat) (Bf : Nat → Int32) (f0 : Nat → Int32) (e : Nat → Int32) (hp0 : rs[p0]? = some (me, .inr (7, [.ref fi, .ref ak, .ref bl, .ref ru, .ref iv, .ref ma, .ref so, .ref tr, .ref be, .ref af, .ref fo, .int (go_b (sl)), .int (go_b (vi)), .int (go_b (om)), .int (nI ex)]))) (hp1 : rs[p1]? = some (so, .inr (4, [.ref va, .ref pa, .ref ne, .ref ol, .int (nI ct)]))) (hp2 : rs[p2]? = some (va, .inl (G.2.1, 2400, .inl Vf))) (hp3 : rs[p3]? = some (ne, .inl (G.2.1, 512, .inl Nf))) (hp4 : rs[p4]? = some (ol, .inl (G.2.1, 400, .inl Of))) (hp5 : rs[p5]? = some (bl, .inr (0, [.ref nb]))) (hp6 : rs[p6]? = some (nb, .inl (G.2.1, 6, .inl Bf))) (hp7 : rs[p7]? = some (ak, .inl (G.2.1, 6, .inl f0))) (he : ex ≤ 1000) (hc : ct ≤ 400) : go_Fe yX8_isReachable cX8_isReachable 1 (some .int) 3 66 G [.ref me] ((fo, .inl (G.2.1, 6, .inl e)) :: rs) (S := Nat → Int32) (fun u => True) (fun u => some (.int (if (if vi = true then 2 else if sl = true ∧ ct ≤ ex then 1 else 0 : Int32) = 1 then (if pc_fd ct Vf Of (pc_sf Bf f0) 401 0 (Nf (pc_bk (pc_sf Bf f0))) = -1 then 0 else 1) else -6))) (fun u => (fo, .inl (G.2.1, 6, .inl u)) :: rs) := by
  refine go_Fe_of (by decide) (Nat.le_of_ble_eq_true rfl) (fun X C E => ?_)
  show go_Go X (0, 0) ((fo, .inl (G.2.1, 6, .inl e)) :: rs) [(0, .ref me)] [] 0
  refine go_aload_n C dX8_isReachable_0 0 rfl rfl ?_
  refine go_cV C (c_X8_verdict G ((fo, .inl (G.2.1, 6, .inl e)) :: rs) (p0 + 1) (p1 + 1) me fi ak bl ru iv ma so tr be af fo sl vi om ex va pa ne ol ct hp0 hp1 (by omega) (by omega)) ml_X8_185 mc_X8_verdict dX8_isReachable_1 [] rfl rfl (p0 + 1) hp0 rfl rfl ⟨Nat.le_of_ble_eq_true rfl, Nat.le_of_ble_eq_true rfl, Nat.zero_le _, Nat.zero_le _, Nat.le_of_ble_eq_true rfl⟩ [.int (if vi = true then 2 else if sl = true ∧ ct ≤ ex then 1 else 0)] rfl ?_
  refine go_iconst C (1) dX8_isReachable_4 (by decide) ?_
  refine go_icmp_eq C 11 dX8_isReachable_5 (by decide) (fun c_5 => ?_) (fun c_5 => ?_)
  · refine go_aload_n C dX8_isReachable_11 0 rfl rfl ?_
    refine go_get C (v := .ref ak) fl_X8_13 dX8_isReachable_12 (p0 + 1) hp0 rfl ?_
    refine go_aload_n C dX8_isReachable_15 0 rfl rfl ?_
    refine go_get C (v := .ref fo) fl_X8_64 dX8_isReachable_16 (p0 + 1) hp0 rfl ?_
    refine go_cS C (c_X8_copyState G rs p7 ak f0 fo e hp7 ) ml_X8_139 mc_X8_copyState dX8_isReachable_19 [] rfl rfl rfl ⟨Nat.le_of_ble_eq_true rfl, Nat.le_of_ble_eq_true rfl, Nat.zero_le _, Nat.zero_le _, Nat.le_of_ble_eq_true rfl⟩ [] rfl ?_
    refine go_aload_n C dX8_isReachable_22 0 rfl rfl ?_
    refine go_get C (v := .ref bl) fl_X8_19 dX8_isReachable_23 (p0 + 1) hp0 rfl ?_
    refine go_aload_n C dX8_isReachable_26 0 rfl rfl ?_
    refine go_get C (v := .ref fo) fl_X8_64 dX8_isReachable_27 (p0 + 1) hp0 rfl ?_
    refine go_cV C (c_X0_toStandardForm G rs p5 p6 bl nb Bf fo f0 hp5 hp6 ) ml_X8_143 mc_X0_toStandardForm dX8_isReachable_30 [] rfl rfl (p5 + 1) hp5 rfl rfl ⟨Nat.le_of_ble_eq_true rfl, Nat.le_of_ble_eq_true rfl, Nat.zero_le _, Nat.zero_le _, Nat.le_of_ble_eq_true rfl⟩ [] rfl ?_
    refine go_aload_n C dX8_isReachable_33 0 rfl rfl ?_
    refine go_get C (v := .ref so) fl_X8_47 dX8_isReachable_34 (p0 + 1) hp0 rfl ?_
    refine go_aload_n C dX8_isReachable_37 0 rfl rfl ?_
    refine go_get C (v := .ref fo) fl_X8_64 dX8_isReachable_38 (p0 + 1) hp0 rfl ?_
    refine go_cV C (c_X4_find G ((fo, .inl (G.2.1, 6, .inl (pc_sf Bf f0))) :: rs) (p1 + 1) (p2 + 1) (p3 + 1) (p4 + 1) 0 so va pa ne ol ct Vf Nf Of fo (pc_sf Bf f0) hp1 hp2 hp3 hp4 rfl (by omega)) ml_X8_188 mc_X4_find dX8_isReachable_41 [] rfl rfl (p1 + 1) hp1 rfl rfl ⟨Nat.le_of_ble_eq_true rfl, Nat.le_of_ble_eq_true rfl, Nat.zero_le _, Nat.zero_le _, Nat.le_of_ble_eq_true rfl⟩ [.int (pc_fd ct Vf Of (pc_sf Bf f0) 401 0 (Nf (pc_bk (pc_sf Bf f0))))] rfl ?_
    refine go_iconst C ((-1)) dX8_isReachable_44 (by decide) ?_
    refine go_icmp_ne C 52 dX8_isReachable_45 (by decide) (fun c_45 => ?_) (fun c_45 => ?_)
    · refine go_iconst C (1) dX8_isReachable_52 (by decide) ?_
      exact go_iretE C E dX8_isReachable_53 (pc_sf Bf f0) trivial (by first | (simp only [c_5, c_45]; rfl) | (simp only [c_5, if_true, if_false, c_45]; rfl) | (rw [if_pos c_5, if_pos c_45]; done) | (rw [if_pos c_5, if_neg c_45]; done) | (rw [if_neg c_5]; done)) rfl
    · refine go_iconst C (0) dX8_isReachable_48 (by decide) ?_
      refine go_goto C 53 dX8_isReachable_49 (by decide) ?_
      exact go_iretE C E dX8_isReachable_53 (pc_sf Bf f0) trivial (by first | (simp only [c_5, c_45]; rfl) | (simp only [c_5, if_true, if_false, c_45]; rfl) | (rw [if_pos c_5, if_pos c_45]; done) | (rw [if_pos c_5, if_neg c_45]; done) | (rw [if_neg c_5]; done)) rfl
  · refine go_bipush C ((-6)) dX8_isReachable_8 (by decide) ?_
    exact go_iretE C E dX8_isReachable_10 (e) trivial (by first | (simp only [c_5, c_45]; rfl) | (simp only [c_5, if_true, if_false, c_45]; rfl) | (rw [if_pos c_5, if_pos c_45]; done) | (rw [if_pos c_5, if_neg c_45]; done) | (rw [if_neg c_5]; done)) rfl
set_option maxHeartbeats 4000000 in
set_option maxRecDepth 100000 in
theorem l_X8_blocksAreRight_12 {X : go_X} (G : go_G) (rs : va_W) (p0 : Nat) (p1 : Nat) (p2 : Nat) (p3 : Nat) (p4 : Nat) (p5 : Nat) (p6 : Nat) (p7 : Nat) (me : Nat) (fi : Nat) (ak : Nat) (bl : Nat) (ru : Nat) (iv : Nat) (ma : Nat) (so : Nat) (tr : Nat) (be : Nat) (af : Nat) (fo : Nat) (sl : Bool) (vi : Bool) (om : Bool) (ex : Nat) (nb : Nat) (Bf : Nat → Int32) (rows : Nat) (nth : Nat) (nr : Nat) (ra : Nat → Nat) (wa : Nat → Nat) (ln : Nat → Nat) (F : Nat → Nat → Int32) (pr : Nat → Nat) (pw : Nat → Nat) (ia : Nat) (iw : Nat) (il : Nat) (If : Nat → Int32) (hp0 : rs[p0]? = some (me, .inr (7, [.ref fi, .ref ak, .ref bl, .ref ru, .ref iv, .ref ma, .ref so, .ref tr, .ref be, .ref af, .ref fo, .int (go_b (sl)), .int (go_b (vi)), .int (go_b (om)), .int (nI ex)]))) (hp1 : rs[p1]? = some (bl, .inr (0, [.ref nb]))) (hp2 : rs[p2]? = some (nb, .inl (G.2.1, 6, .inl Bf))) (hp3 : rs[p3]? = some (ru, .inr (3, [.ref rows, .ref nth, .int (nI nr)]))) (hp4 : rs[p4]? = some (rows, .inl (G.2.2, 12, .inr (.inr (.inr (.inr (fun r => some (ra r)))))))) (hp5 : rs[p5]? = some (iv, .inr (1, [.ref ia]))) (hp6 : rs[p6]? = some (ia, .inr (6, [.ref iw, .int (nI il)]))) (hp7 : rs[p7]? = some (iw, .inl (G.2.1, 32, .inl If))) (hrow : ∀ r, r < 12 → rs[pr r]? = some (ra r, .inr (6, [.ref (wa r), .int (nI (ln r))]))) (hwd : ∀ r, r < 12 → rs[pw r]? = some (wa r, .inl (G.2.1, 32, .inl (F r)))) (hln : ∀ r, r < 12 → ln r ≤ 32) (hnr : nr ≤ 12) (hil : il ≤ 32) {Rr : Option Value} (a : Nat) (fb : Bool) (ha : a < 6) (hF : fb = false → some (.int (go_b false)) = Rr) (C : go_Cx X cX8_blocksAreRight RX8 (some .boolean) 3 5 119 0 0 G) (E : go_Ex X Rr rs) (K : fb = true → go_Go X (0, 0) rs [(0, .ref me), (1, .int (nI a))] [] 62) : ∀ (n : Nat) (b : Nat) (hin : 6 < b + n) (hb : b ≤ 6) (hB : pc_bi nr ln F Bf il If a n b = fb), go_Go X (0, 0) rs [(0, .ref me), (1, .int (nI a)), (2, .int (nI b))] [] 12 := by
  intro n
  induction n with
  | zero => intro b hin hb hB; omega
  | succ n ih =>
    intro b hin hb hB
    refine go_iload_n C dX8_blocksAreRight_12 2 rfl rfl ?_
    refine go_bipush C (6) dX8_blocksAreRight_13 (by decide) ?_
    refine go_icmp_geN (a := b) (b := 6) C 62 dX8_blocksAreRight_15 (by decide) (by omega) (by omega) (fun c_15 => ?_) (fun c_15 => ?_)
    · refine go_lv [(0, .ref me), (1, .int (nI a))] [0, 1] rfl ?_
      exact K (by rw [← hB]; simp [pc_bi, c_15])
    · refine go_aload_n C dX8_blocksAreRight_18 0 rfl rfl ?_
      refine go_get C (v := .ref bl) fl_X8_19 dX8_blocksAreRight_19 p0 hp0 rfl ?_
      refine go_iload_n C dX8_blocksAreRight_22 1 rfl rfl ?_
      refine go_iload_n C dX8_blocksAreRight_23 2 rfl rfl ?_
      refine go_cV C (c_X0_join G rs p1 p2 bl nb Bf a b hp1 hp2 (by omega) (by omega)) ml_X8_207 mc_X0_join dX8_blocksAreRight_24 [] rfl rfl p1 hp1 rfl rfl ⟨Nat.le_of_ble_eq_true rfl, Nat.le_of_ble_eq_true rfl, Nat.zero_le _, Nat.zero_le _, Nat.le_of_ble_eq_true rfl⟩ [.int (go_b (pc_jn Bf a b))] rfl ?_
      refine go_if_eqB C 56 dX8_blocksAreRight_27 (by decide) (fun c_27 => ?_) (fun c_27 => ?_)
      · refine go_iinc C (nI (b + 1)) [(0, .ref me), (1, .int (nI a)), (2, .int (nI (b + 1)))] dX8_blocksAreRight_56 2 [1, 2, 0] rfl (nI_add b 1) (by decide) rfl ?_
        refine go_goto C 12 dX8_blocksAreRight_59 (by decide) ?_
        exact ih (b + 1) (by omega) (by omega) (by rw [← hB]; first | (simp [pc_bi, c_15, c_27, c_39, c_51]; done) | (simp [pc_bi, c_15, c_27]; done))
      · refine go_aload_n C dX8_blocksAreRight_30 0 rfl rfl ?_
        refine go_get C (v := .ref ru) fl_X8_26 dX8_blocksAreRight_31 p0 hp0 rfl ?_
        refine go_iload_n C dX8_blocksAreRight_34 1 rfl rfl ?_
        refine go_iload_n C dX8_blocksAreRight_35 2 rfl rfl ?_
        refine go_cV C (c_X3_bearExchange G rs p3 p4 ru rows nth nr ra wa ln F pr pw (nI a) (nI b) hp3 hp4 hrow hwd hln hnr) ml_X8_211 mc_X3_bearExchange dX8_blocksAreRight_36 [] rfl rfl p3 hp3 rfl rfl ⟨Nat.le_of_ble_eq_true rfl, Nat.le_of_ble_eq_true rfl, Nat.zero_le _, Nat.zero_le _, Nat.le_of_ble_eq_true rfl⟩ [.int (go_b (pc_bX nr ln F (nI a) (nI b) (nr + 1) 0))] rfl ?_
        refine go_if_eqB C 54 dX8_blocksAreRight_39 (by decide) (fun c_39 => ?_) (fun c_39 => ?_)
        · refine go_iconst C (0) dX8_blocksAreRight_54 (by decide) ?_
          refine go_se [.int (go_b (false))] rfl ?_
          exact go_zret C E dX8_blocksAreRight_55 (go_bn _) (hF (by rw [← hB]; first | (simp [pc_bi, c_15, c_27, c_39, c_51]; done) | (simp [pc_bi, c_15, c_27, c_39]; done))) rfl
        · refine go_aload_n C dX8_blocksAreRight_42 0 rfl rfl ?_
          refine go_get C (v := .ref iv) fl_X8_33 dX8_blocksAreRight_43 p0 hp0 rfl ?_
          refine go_iload_n C dX8_blocksAreRight_46 1 rfl rfl ?_
          refine go_iload_n C dX8_blocksAreRight_47 2 rfl rfl ?_
          refine go_cV C (c_X1_bearsExchange G rs p5 p6 p7 iv ia iw il If (nI a) (nI b) hp5 hp6 hp7 (by omega)) ml_X8_214 mc_X1_bearsExchange dX8_blocksAreRight_48 [] rfl rfl p5 hp5 rfl rfl ⟨Nat.le_of_ble_eq_true rfl, Nat.le_of_ble_eq_true rfl, Nat.zero_le _, Nat.zero_le _, Nat.le_of_ble_eq_true rfl⟩ [.int (go_b (pc_bE il If (nI a) (nI b) (il + 1) 0))] rfl ?_
          refine go_if_neB C 56 dX8_blocksAreRight_51 (by decide) (fun c_51 => ?_) (fun c_51 => ?_)
          · refine go_iinc C (nI (b + 1)) [(0, .ref me), (1, .int (nI a)), (2, .int (nI (b + 1)))] dX8_blocksAreRight_56 2 [1, 2, 0] rfl (nI_add b 1) (by decide) rfl ?_
            refine go_goto C 12 dX8_blocksAreRight_59 (by decide) ?_
            exact ih (b + 1) (by omega) (by omega) (by rw [← hB]; first | (simp [pc_bi, c_15, c_27, c_39, c_51]; done) | (simp [pc_bi, c_15, c_27]; done))
          · refine go_iconst C (0) dX8_blocksAreRight_54 (by decide) ?_
            refine go_se [.int (go_b (false))] rfl ?_
            exact go_zret C E dX8_blocksAreRight_55 (go_bn _) (hF (by rw [← hB]; first | (simp [pc_bi, c_15, c_27, c_39, c_51]; done) | (simp [pc_bi, c_15, c_27, c_39]; done))) rfl
set_option maxHeartbeats 4000000 in
set_option maxRecDepth 100000 in
theorem l_X8_blocksAreRight_2 {X : go_X} (G : go_G) (rs : va_W) (p0 : Nat) (p1 : Nat) (p2 : Nat) (p3 : Nat) (p4 : Nat) (p5 : Nat) (p6 : Nat) (p7 : Nat) (me : Nat) (fi : Nat) (ak : Nat) (bl : Nat) (ru : Nat) (iv : Nat) (ma : Nat) (so : Nat) (tr : Nat) (be : Nat) (af : Nat) (fo : Nat) (sl : Bool) (vi : Bool) (om : Bool) (ex : Nat) (nb : Nat) (Bf : Nat → Int32) (rows : Nat) (nth : Nat) (nr : Nat) (ra : Nat → Nat) (wa : Nat → Nat) (ln : Nat → Nat) (F : Nat → Nat → Int32) (pr : Nat → Nat) (pw : Nat → Nat) (ia : Nat) (iw : Nat) (il : Nat) (If : Nat → Int32) (hp0 : rs[p0]? = some (me, .inr (7, [.ref fi, .ref ak, .ref bl, .ref ru, .ref iv, .ref ma, .ref so, .ref tr, .ref be, .ref af, .ref fo, .int (go_b (sl)), .int (go_b (vi)), .int (go_b (om)), .int (nI ex)]))) (hp1 : rs[p1]? = some (bl, .inr (0, [.ref nb]))) (hp2 : rs[p2]? = some (nb, .inl (G.2.1, 6, .inl Bf))) (hp3 : rs[p3]? = some (ru, .inr (3, [.ref rows, .ref nth, .int (nI nr)]))) (hp4 : rs[p4]? = some (rows, .inl (G.2.2, 12, .inr (.inr (.inr (.inr (fun r => some (ra r)))))))) (hp5 : rs[p5]? = some (iv, .inr (1, [.ref ia]))) (hp6 : rs[p6]? = some (ia, .inr (6, [.ref iw, .int (nI il)]))) (hp7 : rs[p7]? = some (iw, .inl (G.2.1, 32, .inl If))) (hrow : ∀ r, r < 12 → rs[pr r]? = some (ra r, .inr (6, [.ref (wa r), .int (nI (ln r))]))) (hwd : ∀ r, r < 12 → rs[pw r]? = some (wa r, .inl (G.2.1, 32, .inl (F r)))) (hln : ∀ r, r < 12 → ln r ≤ 32) (hnr : nr ≤ 12) (hil : il ≤ 32) {Rr : Option Value}  (C : go_Cx X cX8_blocksAreRight RX8 (some .boolean) 3 5 119 0 0 G) (E : go_Ex X Rr rs)  : ∀ (n : Nat) (a : Nat) (hin : 6 < a + n) (ha : a ≤ 6) (hR : some (.int (go_b (pc_ba nr ln F Bf il If n a))) = Rr), go_Go X (0, 0) rs [(0, .ref me), (1, .int (nI a))] [] 2 := by
  intro n
  induction n with
  | zero => intro a hin ha hR; omega
  | succ n ih =>
    intro a hin ha hR
    refine go_iload_n C dX8_blocksAreRight_2 1 rfl rfl ?_
    refine go_bipush C (6) dX8_blocksAreRight_3 (by decide) ?_
    refine go_icmp_geN (a := a) (b := 6) C 68 dX8_blocksAreRight_5 (by decide) (by omega) (by omega) (fun c_5 => ?_) (fun c_5 => ?_)
    · refine go_iconst C (1) dX8_blocksAreRight_68 (by decide) ?_
      refine go_se [.int (go_b (true))] rfl ?_
      exact go_zret C E dX8_blocksAreRight_69 (go_bn _) (by rw [← hR]; first | contradiction | rfl | (simp [pc_ba, *]; done) | (rw [decide_eq_true (by omega)]; done) | (rw [decide_eq_false (by omega)]; done) | (simp_all [pc_ba]; done) | (simp [pc_ba]; omega) | (simp_all [pc_ba]; omega) | omega) rfl
    · refine go_iload_n C dX8_blocksAreRight_8 1 rfl rfl ?_
      refine go_iconst C (1) dX8_blocksAreRight_9 (by decide) ?_
      refine go_iadd C (z := nI (a + 1)) dX8_blocksAreRight_10 (nI_add a 1) ?_
      refine go_istore_n C [(0, .ref me), (1, .int (nI a)), (2, .int (nI (a + 1)))] dX8_blocksAreRight_11 [1, 2, 0] rfl (by decide) rfl ?_
      refine l_X8_blocksAreRight_12 G rs p0 p1 p2 p3 p4 p5 p6 p7 me fi ak bl ru iv ma so tr be af fo sl vi om ex nb Bf rows nth nr ra wa ln F pr pw ia iw il If hp0 hp1 hp2 hp3 hp4 hp5 hp6 hp7 hrow hwd hln hnr hil a (pc_bi nr ln F Bf il If a 7 (a + 1)) (by omega) (fun h => by rw [← hR]; simp [pc_ba, c_5, h]) C E (fun hK_12 => ?_) 7 (a + 1) (by omega) (by omega) rfl
      show go_Go X (0, 0) rs [(0, .ref me), (1, .int (nI a))] [] 62
      refine go_iinc C (nI (a + 1)) [(0, .ref me), (1, .int (nI (a + 1)))] dX8_blocksAreRight_62 1 [1, 0] rfl (nI_add a 1) (by decide) rfl ?_
      refine go_goto C 2 dX8_blocksAreRight_65 (by decide) ?_
      exact ih (a + 1) (by omega) (by omega) (by rw [← hR]; simp [pc_ba, c_5, hK_12])
set_option maxHeartbeats 4000000 in
set_option maxRecDepth 100000 in
theorem c_X8_blocksAreRight (G : go_G) (rs : va_W) (p0 : Nat) (p1 : Nat) (p2 : Nat) (p3 : Nat) (p4 : Nat) (p5 : Nat) (p6 : Nat) (p7 : Nat) (me : Nat) (fi : Nat) (ak : Nat) (bl : Nat) (ru : Nat) (iv : Nat) (ma : Nat) (so : Nat) (tr : Nat) (be : Nat) (af : Nat) (fo : Nat) (sl : Bool) (vi : Bool) (om : Bool) (ex : Nat) (nb : Nat) (Bf : Nat → Int32) (rows : Nat) (nth : Nat) (nr : Nat) (ra : Nat → Nat) (wa : Nat → Nat) (ln : Nat → Nat) (F : Nat → Nat → Int32) (pr : Nat → Nat) (pw : Nat → Nat) (ia : Nat) (iw : Nat) (il : Nat) (If : Nat → Int32) (hp0 : rs[p0]? = some (me, .inr (7, [.ref fi, .ref ak, .ref bl, .ref ru, .ref iv, .ref ma, .ref so, .ref tr, .ref be, .ref af, .ref fo, .int (go_b (sl)), .int (go_b (vi)), .int (go_b (om)), .int (nI ex)]))) (hp1 : rs[p1]? = some (bl, .inr (0, [.ref nb]))) (hp2 : rs[p2]? = some (nb, .inl (G.2.1, 6, .inl Bf))) (hp3 : rs[p3]? = some (ru, .inr (3, [.ref rows, .ref nth, .int (nI nr)]))) (hp4 : rs[p4]? = some (rows, .inl (G.2.2, 12, .inr (.inr (.inr (.inr (fun r => some (ra r)))))))) (hp5 : rs[p5]? = some (iv, .inr (1, [.ref ia]))) (hp6 : rs[p6]? = some (ia, .inr (6, [.ref iw, .int (nI il)]))) (hp7 : rs[p7]? = some (iw, .inl (G.2.1, 32, .inl If))) (hrow : ∀ r, r < 12 → rs[pr r]? = some (ra r, .inr (6, [.ref (wa r), .int (nI (ln r))]))) (hwd : ∀ r, r < 12 → rs[pw r]? = some (wa r, .inl (G.2.1, 32, .inl (F r)))) (hln : ∀ r, r < 12 → ln r ≤ 32) (hnr : nr ≤ 12) (hil : il ≤ 32) : go_Fn yX8_blocksAreRight cX8_blocksAreRight 3 (some .boolean) 5 119 G [.ref me] rs (some (.int (go_b (pc_ba nr ln F Bf il If 7 0)))) rs := by
  refine go_Fn_of (by decide) (Nat.le_of_ble_eq_true rfl) (fun X C E => ?_)
  show go_Go X (0, 0) rs [(0, .ref me)] [] 0
  refine go_iconst C (0) dX8_blocksAreRight_0 (by decide) ?_
  refine go_istore_n C [(0, .ref me), (1, .int 0)] dX8_blocksAreRight_1 [1, 0] rfl (by decide) rfl ?_
  exact l_X8_blocksAreRight_2 G rs p0 p1 p2 p3 p4 p5 p6 p7 me fi ak bl ru iv ma so tr be af fo sl vi om ex nb Bf rows nth nr ra wa ln F pr pw ia iw il If hp0 hp1 hp2 hp3 hp4 hp5 hp6 hp7 hrow hwd hln hnr hil  C E 7 0 (by omega) (by omega) rfl
set_option maxHeartbeats 4000000 in
set_option maxRecDepth 100000 in
theorem c_X8_init_ (G : go_G) (rs : va_W) (p0 : Nat) (p1 : Nat) (me : Nat) (fi : Nat) (ak : Nat) (bl : Nat) (ru : Nat) (iv : Nat) (ma : Nat) (so : Nat) (tr : Nat) (be : Nat) (af : Nat) (fo : Nat) (sl : Bool) (vi : Bool) (om : Bool) (ex : Nat) (f0 : Nat → Int32) (f1 : Nat → Int32) (nb : Nat) (Bf : Nat → Int32) (rows : Nat) (nth : Nat) (nr : Nat) (ia : Nat) (iw : Nat) (il : Nat) (va : Nat) (pa : Nat) (ne : Nat) (ol : Nat) (ct : Nat) (Nf : Nat → Int32) (wy : Nat) (fd : Nat) (tv : Nat) (sp : Nat) (hp0 : rs[p0]? = some (bl, .inr (0, [.ref nb]))) (hp1 : rs[p1]? = some (iv, .inr (1, [.ref ia])))  : go_Fn yX8_init_ cX8_init_ 1 none 2 43 G [.ref me] ((me, .inr (7, [.ref fi, .ref ak, .ref bl, .ref ru, .ref iv, .ref ma, .ref so, .ref tr, .ref be, .ref af, .ref fo, .int (go_b (sl)), .int (go_b (vi)), .int (go_b (om)), .int (nI ex)])) :: (fi, .inl (G.2.1, 6, .inl f0)) :: (ak, .inl (G.2.1, 6, .inl f1)) :: (nb, .inl (G.2.1, 6, .inl Bf)) :: (ru, .inr (3, [.ref rows, .ref nth, .int (nI nr)])) :: (ia, .inr (6, [.ref iw, .int (nI il)])) :: (so, .inr (4, [.ref va, .ref pa, .ref ne, .ref ol, .int (nI ct)])) :: (ne, .inl (G.2.1, 512, .inl Nf)) :: (tr, .inr (5, [.ref wy, .ref fd, .ref tv, .int (nI sp)])) :: rs) (none) ((me, .inr (7, [.ref fi, .ref ak, .ref bl, .ref ru, .ref iv, .ref ma, .ref so, .ref tr, .ref be, .ref af, .ref fo, .int (go_b (false)), .int (go_b (false)), .int (go_b (false)), .int (nI 0)])) :: (fi, .inl (G.2.1, 6, .inl (pc_fill 6 0 f0))) :: (ak, .inl (G.2.1, 6, .inl (pc_fill 6 0 f1))) :: (nb, .inl (G.2.1, 6, .inl (pc_fill 6 0 Bf))) :: (ru, .inr (3, [.ref rows, .ref nth, .int (nI 0)])) :: (ia, .inr (6, [.ref iw, .int (nI 0)])) :: (so, .inr (4, [.ref va, .ref pa, .ref ne, .ref ol, .int (nI 0)])) :: (ne, .inl (G.2.1, 512, .inl (pc_fill 512 (-1) Nf))) :: (tr, .inr (5, [.ref wy, .ref fd, .ref tv, .int (nI 0)])) :: rs) := by
  refine go_Fn_of (by decide) (Nat.le_of_ble_eq_true rfl) (fun X C E => ?_)
  show go_Go X (0, 0) ((me, .inr (7, [.ref fi, .ref ak, .ref bl, .ref ru, .ref iv, .ref ma, .ref so, .ref tr, .ref be, .ref af, .ref fo, .int (go_b (sl)), .int (go_b (vi)), .int (go_b (om)), .int (nI ex)])) :: (fi, .inl (G.2.1, 6, .inl f0)) :: (ak, .inl (G.2.1, 6, .inl f1)) :: (nb, .inl (G.2.1, 6, .inl Bf)) :: (ru, .inr (3, [.ref rows, .ref nth, .int (nI nr)])) :: (ia, .inr (6, [.ref iw, .int (nI il)])) :: (so, .inr (4, [.ref va, .ref pa, .ref ne, .ref ol, .int (nI ct)])) :: (ne, .inl (G.2.1, 512, .inl Nf)) :: (tr, .inr (5, [.ref wy, .ref fd, .ref tv, .int (nI sp)])) :: rs) [(0, .ref me)] [] 0
  refine go_aload_n C dX8_init__0 0 rfl rfl ?_
  refine go_get C (v := .ref fi) fl_X8_9 dX8_init__1 0 rfl rfl ?_
  refine go_iconst C (0) dX8_init__4 (by decide) ?_
  refine go_perm [(me, .inr (7, [.ref fi, .ref ak, .ref bl, .ref ru, .ref iv, .ref ma, .ref so, .ref tr, .ref be, .ref af, .ref fo, .int (go_b (sl)), .int (go_b (vi)), .int (go_b (om)), .int (nI ex)])), (fi, .inl (G.2.1, 6, .inl f0)), (ak, .inl (G.2.1, 6, .inl f1)), (nb, .inl (G.2.1, 6, .inl Bf)), (ru, .inr (3, [.ref rows, .ref nth, .int (nI nr)])), (ia, .inr (6, [.ref iw, .int (nI il)])), (so, .inr (4, [.ref va, .ref pa, .ref ne, .ref ol, .int (nI ct)])), (ne, .inl (G.2.1, 512, .inl Nf)), (tr, .inr (5, [.ref wy, .ref fd, .ref tv, .int (nI sp)]))] [(fi, .inl (G.2.1, 6, .inl f0)), (me, .inr (7, [.ref fi, .ref ak, .ref bl, .ref ru, .ref iv, .ref ma, .ref so, .ref tr, .ref be, .ref af, .ref fo, .int (go_b (sl)), .int (go_b (vi)), .int (go_b (om)), .int (nI ex)])), (ak, .inl (G.2.1, 6, .inl f1)), (nb, .inl (G.2.1, 6, .inl Bf)), (ru, .inr (3, [.ref rows, .ref nth, .int (nI nr)])), (ia, .inr (6, [.ref iw, .int (nI il)])), (so, .inr (4, [.ref va, .ref pa, .ref ne, .ref ol, .int (nI ct)])), (ne, .inl (G.2.1, 512, .inl Nf)), (tr, .inr (5, [.ref wy, .ref fd, .ref tv, .int (nI sp)]))] rs [1, 0, 2, 3, 4, 5, 6, 7, 8] rfl rfl rfl ?_
  refine go_cS C (c_J7_fill_53178 G ((me, .inr (7, [.ref fi, .ref ak, .ref bl, .ref ru, .ref iv, .ref ma, .ref so, .ref tr, .ref be, .ref af, .ref fo, .int (go_b (sl)), .int (go_b (vi)), .int (go_b (om)), .int (nI ex)])) :: (ak, .inl (G.2.1, 6, .inl f1)) :: (nb, .inl (G.2.1, 6, .inl Bf)) :: (ru, .inr (3, [.ref rows, .ref nth, .int (nI nr)])) :: (ia, .inr (6, [.ref iw, .int (nI il)])) :: (so, .inr (4, [.ref va, .ref pa, .ref ne, .ref ol, .int (nI ct)])) :: (ne, .inl (G.2.1, 512, .inl Nf)) :: (tr, .inr (5, [.ref wy, .ref fd, .ref tv, .int (nI sp)])) :: rs)  fi 6 f0 0  (by omega)) ml_X8_70 mc_J7_fill_53178 dX8_init__5 [] rfl rfl rfl ⟨Nat.le_of_ble_eq_true rfl, Nat.le_of_ble_eq_true rfl, Nat.zero_le _, Nat.zero_le _, Nat.le_of_ble_eq_true rfl⟩ [] rfl ?_
  refine go_aload_n C dX8_init__8 0 rfl rfl ?_
  refine go_get C (v := .ref ak) fl_X8_13 dX8_init__9 1 rfl rfl ?_
  refine go_iconst C (0) dX8_init__12 (by decide) ?_
  refine go_perm [(fi, .inl (G.2.1, 6, .inl (pc_fill 6 0 f0))), (me, .inr (7, [.ref fi, .ref ak, .ref bl, .ref ru, .ref iv, .ref ma, .ref so, .ref tr, .ref be, .ref af, .ref fo, .int (go_b (sl)), .int (go_b (vi)), .int (go_b (om)), .int (nI ex)])), (ak, .inl (G.2.1, 6, .inl f1)), (nb, .inl (G.2.1, 6, .inl Bf)), (ru, .inr (3, [.ref rows, .ref nth, .int (nI nr)])), (ia, .inr (6, [.ref iw, .int (nI il)])), (so, .inr (4, [.ref va, .ref pa, .ref ne, .ref ol, .int (nI ct)])), (ne, .inl (G.2.1, 512, .inl Nf)), (tr, .inr (5, [.ref wy, .ref fd, .ref tv, .int (nI sp)]))] [(ak, .inl (G.2.1, 6, .inl f1)), (fi, .inl (G.2.1, 6, .inl (pc_fill 6 0 f0))), (me, .inr (7, [.ref fi, .ref ak, .ref bl, .ref ru, .ref iv, .ref ma, .ref so, .ref tr, .ref be, .ref af, .ref fo, .int (go_b (sl)), .int (go_b (vi)), .int (go_b (om)), .int (nI ex)])), (nb, .inl (G.2.1, 6, .inl Bf)), (ru, .inr (3, [.ref rows, .ref nth, .int (nI nr)])), (ia, .inr (6, [.ref iw, .int (nI il)])), (so, .inr (4, [.ref va, .ref pa, .ref ne, .ref ol, .int (nI ct)])), (ne, .inl (G.2.1, 512, .inl Nf)), (tr, .inr (5, [.ref wy, .ref fd, .ref tv, .int (nI sp)]))] rs [2, 0, 1, 3, 4, 5, 6, 7, 8] rfl rfl rfl ?_
  refine go_cS C (c_J7_fill_53178 G ((fi, .inl (G.2.1, 6, .inl (pc_fill 6 0 f0))) :: (me, .inr (7, [.ref fi, .ref ak, .ref bl, .ref ru, .ref iv, .ref ma, .ref so, .ref tr, .ref be, .ref af, .ref fo, .int (go_b (sl)), .int (go_b (vi)), .int (go_b (om)), .int (nI ex)])) :: (nb, .inl (G.2.1, 6, .inl Bf)) :: (ru, .inr (3, [.ref rows, .ref nth, .int (nI nr)])) :: (ia, .inr (6, [.ref iw, .int (nI il)])) :: (so, .inr (4, [.ref va, .ref pa, .ref ne, .ref ol, .int (nI ct)])) :: (ne, .inl (G.2.1, 512, .inl Nf)) :: (tr, .inr (5, [.ref wy, .ref fd, .ref tv, .int (nI sp)])) :: rs)  ak 6 f1 0  (by omega)) ml_X8_70 mc_J7_fill_53178 dX8_init__13 [] rfl rfl rfl ⟨Nat.le_of_ble_eq_true rfl, Nat.le_of_ble_eq_true rfl, Nat.zero_le _, Nat.zero_le _, Nat.le_of_ble_eq_true rfl⟩ [] rfl ?_
  refine go_aload_n C dX8_init__16 0 rfl rfl ?_
  refine go_get C (v := .ref bl) fl_X8_19 dX8_init__17 2 rfl rfl ?_
  refine go_perm [(ak, .inl (G.2.1, 6, .inl (pc_fill 6 0 f1))), (fi, .inl (G.2.1, 6, .inl (pc_fill 6 0 f0))), (me, .inr (7, [.ref fi, .ref ak, .ref bl, .ref ru, .ref iv, .ref ma, .ref so, .ref tr, .ref be, .ref af, .ref fo, .int (go_b (sl)), .int (go_b (vi)), .int (go_b (om)), .int (nI ex)])), (nb, .inl (G.2.1, 6, .inl Bf)), (ru, .inr (3, [.ref rows, .ref nth, .int (nI nr)])), (ia, .inr (6, [.ref iw, .int (nI il)])), (so, .inr (4, [.ref va, .ref pa, .ref ne, .ref ol, .int (nI ct)])), (ne, .inl (G.2.1, 512, .inl Nf)), (tr, .inr (5, [.ref wy, .ref fd, .ref tv, .int (nI sp)]))] [(nb, .inl (G.2.1, 6, .inl Bf)), (ak, .inl (G.2.1, 6, .inl (pc_fill 6 0 f1))), (fi, .inl (G.2.1, 6, .inl (pc_fill 6 0 f0))), (me, .inr (7, [.ref fi, .ref ak, .ref bl, .ref ru, .ref iv, .ref ma, .ref so, .ref tr, .ref be, .ref af, .ref fo, .int (go_b (sl)), .int (go_b (vi)), .int (go_b (om)), .int (nI ex)])), (ru, .inr (3, [.ref rows, .ref nth, .int (nI nr)])), (ia, .inr (6, [.ref iw, .int (nI il)])), (so, .inr (4, [.ref va, .ref pa, .ref ne, .ref ol, .int (nI ct)])), (ne, .inl (G.2.1, 512, .inl Nf)), (tr, .inr (5, [.ref wy, .ref fd, .ref tv, .int (nI sp)]))] rs [3, 0, 1, 2, 4, 5, 6, 7, 8] rfl rfl rfl ?_
  refine go_cV C (c_X0_clear G ((ak, .inl (G.2.1, 6, .inl (pc_fill 6 0 f1))) :: (fi, .inl (G.2.1, 6, .inl (pc_fill 6 0 f0))) :: (me, .inr (7, [.ref fi, .ref ak, .ref bl, .ref ru, .ref iv, .ref ma, .ref so, .ref tr, .ref be, .ref af, .ref fo, .int (go_b (sl)), .int (go_b (vi)), .int (go_b (om)), .int (nI ex)])) :: (ru, .inr (3, [.ref rows, .ref nth, .int (nI nr)])) :: (ia, .inr (6, [.ref iw, .int (nI il)])) :: (so, .inr (4, [.ref va, .ref pa, .ref ne, .ref ol, .int (nI ct)])) :: (ne, .inl (G.2.1, 512, .inl Nf)) :: (tr, .inr (5, [.ref wy, .ref fd, .ref tv, .int (nI sp)])) :: rs) (p0 + 8) bl nb Bf hp0 ) ml_X8_76 mc_X0_clear dX8_init__20 [] rfl rfl (p0 + 9) hp0 rfl rfl ⟨Nat.le_of_ble_eq_true rfl, Nat.le_of_ble_eq_true rfl, Nat.zero_le _, Nat.zero_le _, Nat.le_of_ble_eq_true rfl⟩ [] rfl ?_
  refine go_aload_n C dX8_init__23 0 rfl rfl ?_
  refine go_get C (v := .ref ru) fl_X8_26 dX8_init__24 3 rfl rfl ?_
  refine go_perm [(nb, .inl (G.2.1, 6, .inl (pc_fill 6 0 Bf))), (ak, .inl (G.2.1, 6, .inl (pc_fill 6 0 f1))), (fi, .inl (G.2.1, 6, .inl (pc_fill 6 0 f0))), (me, .inr (7, [.ref fi, .ref ak, .ref bl, .ref ru, .ref iv, .ref ma, .ref so, .ref tr, .ref be, .ref af, .ref fo, .int (go_b (sl)), .int (go_b (vi)), .int (go_b (om)), .int (nI ex)])), (ru, .inr (3, [.ref rows, .ref nth, .int (nI nr)])), (ia, .inr (6, [.ref iw, .int (nI il)])), (so, .inr (4, [.ref va, .ref pa, .ref ne, .ref ol, .int (nI ct)])), (ne, .inl (G.2.1, 512, .inl Nf)), (tr, .inr (5, [.ref wy, .ref fd, .ref tv, .int (nI sp)]))] [(ru, .inr (3, [.ref rows, .ref nth, .int (nI nr)])), (nb, .inl (G.2.1, 6, .inl (pc_fill 6 0 Bf))), (ak, .inl (G.2.1, 6, .inl (pc_fill 6 0 f1))), (fi, .inl (G.2.1, 6, .inl (pc_fill 6 0 f0))), (me, .inr (7, [.ref fi, .ref ak, .ref bl, .ref ru, .ref iv, .ref ma, .ref so, .ref tr, .ref be, .ref af, .ref fo, .int (go_b (sl)), .int (go_b (vi)), .int (go_b (om)), .int (nI ex)])), (ia, .inr (6, [.ref iw, .int (nI il)])), (so, .inr (4, [.ref va, .ref pa, .ref ne, .ref ol, .int (nI ct)])), (ne, .inl (G.2.1, 512, .inl Nf)), (tr, .inr (5, [.ref wy, .ref fd, .ref tv, .int (nI sp)]))] rs [4, 0, 1, 2, 3, 5, 6, 7, 8] rfl rfl rfl ?_
  refine go_cV C (c_X3_clear G ((nb, .inl (G.2.1, 6, .inl (pc_fill 6 0 Bf))) :: (ak, .inl (G.2.1, 6, .inl (pc_fill 6 0 f1))) :: (fi, .inl (G.2.1, 6, .inl (pc_fill 6 0 f0))) :: (me, .inr (7, [.ref fi, .ref ak, .ref bl, .ref ru, .ref iv, .ref ma, .ref so, .ref tr, .ref be, .ref af, .ref fo, .int (go_b (sl)), .int (go_b (vi)), .int (go_b (om)), .int (nI ex)])) :: (ia, .inr (6, [.ref iw, .int (nI il)])) :: (so, .inr (4, [.ref va, .ref pa, .ref ne, .ref ol, .int (nI ct)])) :: (ne, .inl (G.2.1, 512, .inl Nf)) :: (tr, .inr (5, [.ref wy, .ref fd, .ref tv, .int (nI sp)])) :: rs)  ru rows nth nr  ) ml_X8_79 mc_X3_clear dX8_init__27 [] rfl rfl 0 rfl rfl rfl ⟨Nat.le_of_ble_eq_true rfl, Nat.le_of_ble_eq_true rfl, Nat.zero_le _, Nat.zero_le _, Nat.le_of_ble_eq_true rfl⟩ [] rfl ?_
  refine go_aload_n C dX8_init__30 0 rfl rfl ?_
  refine go_get C (v := .ref iv) fl_X8_33 dX8_init__31 4 rfl rfl ?_
  refine go_get C (v := .ref ia) fl_X8_80 dX8_init__34 (p1 + 9) hp1 rfl ?_
  refine go_perm [(ru, .inr (3, [.ref rows, .ref nth, .int (nI 0)])), (nb, .inl (G.2.1, 6, .inl (pc_fill 6 0 Bf))), (ak, .inl (G.2.1, 6, .inl (pc_fill 6 0 f1))), (fi, .inl (G.2.1, 6, .inl (pc_fill 6 0 f0))), (me, .inr (7, [.ref fi, .ref ak, .ref bl, .ref ru, .ref iv, .ref ma, .ref so, .ref tr, .ref be, .ref af, .ref fo, .int (go_b (sl)), .int (go_b (vi)), .int (go_b (om)), .int (nI ex)])), (ia, .inr (6, [.ref iw, .int (nI il)])), (so, .inr (4, [.ref va, .ref pa, .ref ne, .ref ol, .int (nI ct)])), (ne, .inl (G.2.1, 512, .inl Nf)), (tr, .inr (5, [.ref wy, .ref fd, .ref tv, .int (nI sp)]))] [(ia, .inr (6, [.ref iw, .int (nI il)])), (ru, .inr (3, [.ref rows, .ref nth, .int (nI 0)])), (nb, .inl (G.2.1, 6, .inl (pc_fill 6 0 Bf))), (ak, .inl (G.2.1, 6, .inl (pc_fill 6 0 f1))), (fi, .inl (G.2.1, 6, .inl (pc_fill 6 0 f0))), (me, .inr (7, [.ref fi, .ref ak, .ref bl, .ref ru, .ref iv, .ref ma, .ref so, .ref tr, .ref be, .ref af, .ref fo, .int (go_b (sl)), .int (go_b (vi)), .int (go_b (om)), .int (nI ex)])), (so, .inr (4, [.ref va, .ref pa, .ref ne, .ref ol, .int (nI ct)])), (ne, .inl (G.2.1, 512, .inl Nf)), (tr, .inr (5, [.ref wy, .ref fd, .ref tv, .int (nI sp)]))] rs [5, 0, 1, 2, 3, 4, 6, 7, 8] rfl rfl rfl ?_
  refine go_cV C (c_X7_clear G ((ru, .inr (3, [.ref rows, .ref nth, .int (nI 0)])) :: (nb, .inl (G.2.1, 6, .inl (pc_fill 6 0 Bf))) :: (ak, .inl (G.2.1, 6, .inl (pc_fill 6 0 f1))) :: (fi, .inl (G.2.1, 6, .inl (pc_fill 6 0 f0))) :: (me, .inr (7, [.ref fi, .ref ak, .ref bl, .ref ru, .ref iv, .ref ma, .ref so, .ref tr, .ref be, .ref af, .ref fo, .int (go_b (sl)), .int (go_b (vi)), .int (go_b (om)), .int (nI ex)])) :: (so, .inr (4, [.ref va, .ref pa, .ref ne, .ref ol, .int (nI ct)])) :: (ne, .inl (G.2.1, 512, .inl Nf)) :: (tr, .inr (5, [.ref wy, .ref fd, .ref tv, .int (nI sp)])) :: rs)  ia iw il  ) ml_X8_84 mc_X7_clear dX8_init__37 [] rfl rfl 0 rfl rfl rfl ⟨Nat.le_of_ble_eq_true rfl, Nat.le_of_ble_eq_true rfl, Nat.zero_le _, Nat.zero_le _, Nat.le_of_ble_eq_true rfl⟩ [] rfl ?_
  refine go_aload_n C dX8_init__40 0 rfl rfl ?_
  refine go_get C (v := .ref so) fl_X8_47 dX8_init__41 5 rfl rfl ?_
  refine go_perm [(ia, .inr (6, [.ref iw, .int (nI 0)])), (ru, .inr (3, [.ref rows, .ref nth, .int (nI 0)])), (nb, .inl (G.2.1, 6, .inl (pc_fill 6 0 Bf))), (ak, .inl (G.2.1, 6, .inl (pc_fill 6 0 f1))), (fi, .inl (G.2.1, 6, .inl (pc_fill 6 0 f0))), (me, .inr (7, [.ref fi, .ref ak, .ref bl, .ref ru, .ref iv, .ref ma, .ref so, .ref tr, .ref be, .ref af, .ref fo, .int (go_b (sl)), .int (go_b (vi)), .int (go_b (om)), .int (nI ex)])), (so, .inr (4, [.ref va, .ref pa, .ref ne, .ref ol, .int (nI ct)])), (ne, .inl (G.2.1, 512, .inl Nf)), (tr, .inr (5, [.ref wy, .ref fd, .ref tv, .int (nI sp)]))] [(so, .inr (4, [.ref va, .ref pa, .ref ne, .ref ol, .int (nI ct)])), (ne, .inl (G.2.1, 512, .inl Nf)), (ia, .inr (6, [.ref iw, .int (nI 0)])), (ru, .inr (3, [.ref rows, .ref nth, .int (nI 0)])), (nb, .inl (G.2.1, 6, .inl (pc_fill 6 0 Bf))), (ak, .inl (G.2.1, 6, .inl (pc_fill 6 0 f1))), (fi, .inl (G.2.1, 6, .inl (pc_fill 6 0 f0))), (me, .inr (7, [.ref fi, .ref ak, .ref bl, .ref ru, .ref iv, .ref ma, .ref so, .ref tr, .ref be, .ref af, .ref fo, .int (go_b (sl)), .int (go_b (vi)), .int (go_b (om)), .int (nI ex)])), (tr, .inr (5, [.ref wy, .ref fd, .ref tv, .int (nI sp)]))] rs [6, 7, 0, 1, 2, 3, 4, 5, 8] rfl rfl rfl ?_
  refine go_cV C (c_X4_clear G ((ia, .inr (6, [.ref iw, .int (nI 0)])) :: (ru, .inr (3, [.ref rows, .ref nth, .int (nI 0)])) :: (nb, .inl (G.2.1, 6, .inl (pc_fill 6 0 Bf))) :: (ak, .inl (G.2.1, 6, .inl (pc_fill 6 0 f1))) :: (fi, .inl (G.2.1, 6, .inl (pc_fill 6 0 f0))) :: (me, .inr (7, [.ref fi, .ref ak, .ref bl, .ref ru, .ref iv, .ref ma, .ref so, .ref tr, .ref be, .ref af, .ref fo, .int (go_b (sl)), .int (go_b (vi)), .int (go_b (om)), .int (nI ex)])) :: (tr, .inr (5, [.ref wy, .ref fd, .ref tv, .int (nI sp)])) :: rs)  so va pa ne ol ct Nf  ) ml_X8_87 mc_X4_clear dX8_init__44 [] rfl rfl 0 rfl rfl rfl ⟨Nat.le_of_ble_eq_true rfl, Nat.le_of_ble_eq_true rfl, Nat.zero_le _, Nat.zero_le _, Nat.le_of_ble_eq_true rfl⟩ [] rfl ?_
  refine go_aload_n C dX8_init__47 0 rfl rfl ?_
  refine go_get C (v := .ref tr) fl_X8_54 dX8_init__48 7 rfl rfl ?_
  refine go_perm [(so, .inr (4, [.ref va, .ref pa, .ref ne, .ref ol, .int (nI 0)])), (ne, .inl (G.2.1, 512, .inl (pc_fill 512 (-1) Nf))), (ia, .inr (6, [.ref iw, .int (nI 0)])), (ru, .inr (3, [.ref rows, .ref nth, .int (nI 0)])), (nb, .inl (G.2.1, 6, .inl (pc_fill 6 0 Bf))), (ak, .inl (G.2.1, 6, .inl (pc_fill 6 0 f1))), (fi, .inl (G.2.1, 6, .inl (pc_fill 6 0 f0))), (me, .inr (7, [.ref fi, .ref ak, .ref bl, .ref ru, .ref iv, .ref ma, .ref so, .ref tr, .ref be, .ref af, .ref fo, .int (go_b (sl)), .int (go_b (vi)), .int (go_b (om)), .int (nI ex)])), (tr, .inr (5, [.ref wy, .ref fd, .ref tv, .int (nI sp)]))] [(tr, .inr (5, [.ref wy, .ref fd, .ref tv, .int (nI sp)])), (so, .inr (4, [.ref va, .ref pa, .ref ne, .ref ol, .int (nI 0)])), (ne, .inl (G.2.1, 512, .inl (pc_fill 512 (-1) Nf))), (ia, .inr (6, [.ref iw, .int (nI 0)])), (ru, .inr (3, [.ref rows, .ref nth, .int (nI 0)])), (nb, .inl (G.2.1, 6, .inl (pc_fill 6 0 Bf))), (ak, .inl (G.2.1, 6, .inl (pc_fill 6 0 f1))), (fi, .inl (G.2.1, 6, .inl (pc_fill 6 0 f0))), (me, .inr (7, [.ref fi, .ref ak, .ref bl, .ref ru, .ref iv, .ref ma, .ref so, .ref tr, .ref be, .ref af, .ref fo, .int (go_b (sl)), .int (go_b (vi)), .int (go_b (om)), .int (nI ex)]))] rs [8, 0, 1, 2, 3, 4, 5, 6, 7] rfl rfl rfl ?_
  refine go_cV C (c_X5_clear G ((so, .inr (4, [.ref va, .ref pa, .ref ne, .ref ol, .int (nI 0)])) :: (ne, .inl (G.2.1, 512, .inl (pc_fill 512 (-1) Nf))) :: (ia, .inr (6, [.ref iw, .int (nI 0)])) :: (ru, .inr (3, [.ref rows, .ref nth, .int (nI 0)])) :: (nb, .inl (G.2.1, 6, .inl (pc_fill 6 0 Bf))) :: (ak, .inl (G.2.1, 6, .inl (pc_fill 6 0 f1))) :: (fi, .inl (G.2.1, 6, .inl (pc_fill 6 0 f0))) :: (me, .inr (7, [.ref fi, .ref ak, .ref bl, .ref ru, .ref iv, .ref ma, .ref so, .ref tr, .ref be, .ref af, .ref fo, .int (go_b (sl)), .int (go_b (vi)), .int (go_b (om)), .int (nI ex)])) :: rs)  tr wy fd tv sp  ) ml_X8_88 mc_X5_clear dX8_init__51 [] rfl rfl 0 rfl rfl rfl ⟨Nat.le_of_ble_eq_true rfl, Nat.le_of_ble_eq_true rfl, Nat.zero_le _, Nat.zero_le _, Nat.le_of_ble_eq_true rfl⟩ [] rfl ?_
  refine go_aload_n C dX8_init__54 0 rfl rfl ?_
  refine go_iconst C (0) dX8_init__55 (by decide) ?_
  refine go_se [.int (go_b (false)), .ref me] rfl ?_
  refine go_put C fp_X8_89 dX8_init__56 8 rfl (go_bn _) (go_bf _) (Nat.le_of_ble_eq_true rfl) ((tr, .inr (5, [.ref wy, .ref fd, .ref tv, .int (nI 0)])) :: (so, .inr (4, [.ref va, .ref pa, .ref ne, .ref ol, .int (nI 0)])) :: (ne, .inl (G.2.1, 512, .inl (pc_fill 512 (-1) Nf))) :: (ia, .inr (6, [.ref iw, .int (nI 0)])) :: (ru, .inr (3, [.ref rows, .ref nth, .int (nI 0)])) :: (nb, .inl (G.2.1, 6, .inl (pc_fill 6 0 Bf))) :: (ak, .inl (G.2.1, 6, .inl (pc_fill 6 0 f1))) :: (fi, .inl (G.2.1, 6, .inl (pc_fill 6 0 f0))) :: (me, .inr (7, [.ref fi, .ref ak, .ref bl, .ref ru, .ref iv, .ref ma, .ref so, .ref tr, .ref be, .ref af, .ref fo, .int (go_b (false)), .int (go_b (vi)), .int (go_b (om)), .int (nI ex)])) :: rs) rfl ?_
  refine go_aload_n C dX8_init__59 0 rfl rfl ?_
  refine go_iconst C (0) dX8_init__60 (by decide) ?_
  refine go_se [.int (go_b (false)), .ref me] rfl ?_
  refine go_put C fp_X8_93 dX8_init__61 8 rfl (go_bn _) (go_bf _) (Nat.le_of_ble_eq_true rfl) ((tr, .inr (5, [.ref wy, .ref fd, .ref tv, .int (nI 0)])) :: (so, .inr (4, [.ref va, .ref pa, .ref ne, .ref ol, .int (nI 0)])) :: (ne, .inl (G.2.1, 512, .inl (pc_fill 512 (-1) Nf))) :: (ia, .inr (6, [.ref iw, .int (nI 0)])) :: (ru, .inr (3, [.ref rows, .ref nth, .int (nI 0)])) :: (nb, .inl (G.2.1, 6, .inl (pc_fill 6 0 Bf))) :: (ak, .inl (G.2.1, 6, .inl (pc_fill 6 0 f1))) :: (fi, .inl (G.2.1, 6, .inl (pc_fill 6 0 f0))) :: (me, .inr (7, [.ref fi, .ref ak, .ref bl, .ref ru, .ref iv, .ref ma, .ref so, .ref tr, .ref be, .ref af, .ref fo, .int (go_b (false)), .int (go_b (false)), .int (go_b (om)), .int (nI ex)])) :: rs) rfl ?_
  refine go_aload_n C dX8_init__64 0 rfl rfl ?_
  refine go_iconst C (0) dX8_init__65 (by decide) ?_
  refine go_se [.int (go_b (false)), .ref me] rfl ?_
  refine go_put C fp_X8_96 dX8_init__66 8 rfl (go_bn _) (go_bf _) (Nat.le_of_ble_eq_true rfl) ((tr, .inr (5, [.ref wy, .ref fd, .ref tv, .int (nI 0)])) :: (so, .inr (4, [.ref va, .ref pa, .ref ne, .ref ol, .int (nI 0)])) :: (ne, .inl (G.2.1, 512, .inl (pc_fill 512 (-1) Nf))) :: (ia, .inr (6, [.ref iw, .int (nI 0)])) :: (ru, .inr (3, [.ref rows, .ref nth, .int (nI 0)])) :: (nb, .inl (G.2.1, 6, .inl (pc_fill 6 0 Bf))) :: (ak, .inl (G.2.1, 6, .inl (pc_fill 6 0 f1))) :: (fi, .inl (G.2.1, 6, .inl (pc_fill 6 0 f0))) :: (me, .inr (7, [.ref fi, .ref ak, .ref bl, .ref ru, .ref iv, .ref ma, .ref so, .ref tr, .ref be, .ref af, .ref fo, .int (go_b (false)), .int (go_b (false)), .int (go_b (false)), .int (nI ex)])) :: rs) rfl ?_
  refine go_aload_n C dX8_init__69 0 rfl rfl ?_
  refine go_iconst C (0) dX8_init__70 (by decide) ?_
  refine go_put C fp_X8_99 dX8_init__71 8 rfl rfl rfl (Nat.le_of_ble_eq_true rfl) ((tr, .inr (5, [.ref wy, .ref fd, .ref tv, .int (nI 0)])) :: (so, .inr (4, [.ref va, .ref pa, .ref ne, .ref ol, .int (nI 0)])) :: (ne, .inl (G.2.1, 512, .inl (pc_fill 512 (-1) Nf))) :: (ia, .inr (6, [.ref iw, .int (nI 0)])) :: (ru, .inr (3, [.ref rows, .ref nth, .int (nI 0)])) :: (nb, .inl (G.2.1, 6, .inl (pc_fill 6 0 Bf))) :: (ak, .inl (G.2.1, 6, .inl (pc_fill 6 0 f1))) :: (fi, .inl (G.2.1, 6, .inl (pc_fill 6 0 f0))) :: (me, .inr (7, [.ref fi, .ref ak, .ref bl, .ref ru, .ref iv, .ref ma, .ref so, .ref tr, .ref be, .ref af, .ref fo, .int (go_b (false)), .int (go_b (false)), .int (go_b (false)), .int 0])) :: rs) rfl ?_
  refine go_perm [(tr, .inr (5, [.ref wy, .ref fd, .ref tv, .int (nI 0)])), (so, .inr (4, [.ref va, .ref pa, .ref ne, .ref ol, .int (nI 0)])), (ne, .inl (G.2.1, 512, .inl (pc_fill 512 (-1) Nf))), (ia, .inr (6, [.ref iw, .int (nI 0)])), (ru, .inr (3, [.ref rows, .ref nth, .int (nI 0)])), (nb, .inl (G.2.1, 6, .inl (pc_fill 6 0 Bf))), (ak, .inl (G.2.1, 6, .inl (pc_fill 6 0 f1))), (fi, .inl (G.2.1, 6, .inl (pc_fill 6 0 f0))), (me, .inr (7, [.ref fi, .ref ak, .ref bl, .ref ru, .ref iv, .ref ma, .ref so, .ref tr, .ref be, .ref af, .ref fo, .int (go_b (false)), .int (go_b (false)), .int (go_b (false)), .int 0]))] [(me, .inr (7, [.ref fi, .ref ak, .ref bl, .ref ru, .ref iv, .ref ma, .ref so, .ref tr, .ref be, .ref af, .ref fo, .int (go_b (false)), .int (go_b (false)), .int (go_b (false)), .int 0])), (fi, .inl (G.2.1, 6, .inl (pc_fill 6 0 f0))), (ak, .inl (G.2.1, 6, .inl (pc_fill 6 0 f1))), (nb, .inl (G.2.1, 6, .inl (pc_fill 6 0 Bf))), (ru, .inr (3, [.ref rows, .ref nth, .int (nI 0)])), (ia, .inr (6, [.ref iw, .int (nI 0)])), (so, .inr (4, [.ref va, .ref pa, .ref ne, .ref ol, .int (nI 0)])), (ne, .inl (G.2.1, 512, .inl (pc_fill 512 (-1) Nf))), (tr, .inr (5, [.ref wy, .ref fd, .ref tv, .int (nI 0)]))] rs [8, 7, 6, 5, 4, 3, 1, 2, 0] rfl rfl rfl ?_
  exact go_vret C E dX8_init__74 rfl rfl
set_option maxHeartbeats 4000000 in
set_option maxRecDepth 100000 in
theorem c_X8_fires (G : go_G) (rs : va_W) (p0 : Nat) (p1 : Nat) (p2 : Nat) (p3 : Nat) (p4 : Nat) (p5 : Nat) (me : Nat) (fi : Nat) (ak : Nat) (bl : Nat) (ru : Nat) (iv : Nat) (ma : Nat) (so : Nat) (tr : Nat) (be : Nat) (af : Nat) (fo : Nat) (sl : Bool) (vi : Bool) (om : Bool) (ex : Nat) (sk : Nat) (h : Nat) (st : Nat → Int32) (a : Nat) (w : Nat) (ln : Nat) (f : Nat → Int32) (nb : Nat) (Bf : Nat → Int32) (b : Nat → Int32) (d : Nat → Int32) (e : Nat → Int32) (hp0 : rs[p0]? = some (me, .inr (7, [.ref fi, .ref ak, .ref bl, .ref ru, .ref iv, .ref ma, .ref so, .ref tr, .ref be, .ref af, .ref fo, .int (go_b (sl)), .int (go_b (vi)), .int (go_b (om)), .int (nI ex)]))) (hp1 : rs[p1]? = some (a, .inr (6, [.ref w, .int (nI ln)]))) (hp2 : rs[p2]? = some (w, .inl (G.2.1, 32, .inl f))) (hp3 : rs[p3]? = some (bl, .inr (0, [.ref nb]))) (hp4 : rs[p4]? = some (nb, .inl (G.2.1, 6, .inl Bf))) (hp5 : rs[p5]? = some (be, .inl (G.2.1, 6, .inl b))) (hl : ln ≤ 32) (hr : pc_RK ln f) : go_Fe yX8_fires cX8_fires 2 (some .boolean) 4 98 G [.ref me, .ref a] ((ma, .inr (2, [.ref sk, .int (nI h)])) :: (sk, .inl (G.2.1, 8, .inl st)) :: (af, .inl (G.2.1, 6, .inl d)) :: (fo, .inl (G.2.1, 6, .inl e)) :: rs) (S := (Nat → Int32) × Nat) (fun u => True) (fun u => some (.int (go_b (pc_mf ln f b)))) (fun u => (ma, .inr (2, [.ref sk, .int (nI (u.2))])) :: (sk, .inl (G.2.1, 8, .inl u.1)) :: (af, .inl (G.2.1, 6, .inl (pc_fA ln f b d))) :: (fo, .inl (G.2.1, 6, .inl (pc_fF Bf ln f b e))) :: rs) := by
  refine go_Fe_of (by decide) (Nat.le_of_ble_eq_true rfl) (fun X C E => ?_)
  show go_Go X (0, 0) ((ma, .inr (2, [.ref sk, .int (nI h)])) :: (sk, .inl (G.2.1, 8, .inl st)) :: (af, .inl (G.2.1, 6, .inl d)) :: (fo, .inl (G.2.1, 6, .inl e)) :: rs) [(0, .ref me), (1, .ref a)] [] 0
  refine go_aload_n C dX8_fires_0 0 rfl rfl ?_
  refine go_get C (v := .ref ma) fl_X8_40 dX8_fires_1 (p0 + 4) hp0 rfl ?_
  refine go_aload_n C dX8_fires_4 1 rfl rfl ?_
  refine go_aload_n C dX8_fires_5 0 rfl rfl ?_
  refine go_get C (v := .ref be) fl_X8_58 dX8_fires_6 (p0 + 4) hp0 rfl ?_
  refine go_cV C (c_X2_mayFire G ((af, .inl (G.2.1, 6, .inl d)) :: (fo, .inl (G.2.1, 6, .inl e)) :: rs) (p1 + 2) (p2 + 2) (p5 + 2) ma sk h st a w ln f be b hp1 hp2 hp5 (by omega) (by omega)) ml_X8_222 mc_X2_mayFire dX8_fires_9 [] rfl rfl 0 rfl rfl rfl ⟨Nat.le_of_ble_eq_true rfl, Nat.le_of_ble_eq_true rfl, Nat.zero_le _, Nat.zero_le _, Nat.le_of_ble_eq_true rfl⟩ [.int (go_b (pc_mf ln f b))] rfl ?_
  refine go_if_neB C 17 dX8_fires_12 (by decide) (fun c_12 => ?_) (fun c_12 => ?_)
  · refine go_aload_n C dX8_fires_17 0 rfl rfl ?_
    refine go_get C (v := .ref ma) fl_X8_40 dX8_fires_18 (p0 + 4) hp0 rfl ?_
    refine go_aload_n C dX8_fires_21 1 rfl rfl ?_
    refine go_aload_n C dX8_fires_22 0 rfl rfl ?_
    refine go_get C (v := .ref be) fl_X8_58 dX8_fires_23 (p0 + 4) hp0 rfl ?_
    refine go_aload_n C dX8_fires_26 0 rfl rfl ?_
    refine go_get C (v := .ref af) fl_X8_61 dX8_fires_27 (p0 + 4) hp0 rfl ?_
    refine go_cV C (c_X2_fire G ((fo, .inl (G.2.1, 6, .inl e)) :: rs) (p1 + 1) (p2 + 1) (p5 + 1) ma sk 0 ((pc_fo f b (pc_th ln f) 0 0 st).2) a w ln f be b af d hp1 hp2 hp5 (by omega) (by omega)) ml_X8_226 mc_X2_fire dX8_fires_30 [] rfl rfl 0 rfl rfl rfl ⟨Nat.le_of_ble_eq_true rfl, Nat.le_of_ble_eq_true rfl, Nat.zero_le _, Nat.zero_le _, Nat.le_of_ble_eq_true rfl⟩ [] rfl ?_
    refine go_aload_n C dX8_fires_33 0 rfl rfl ?_
    refine go_get C (v := .ref af) fl_X8_61 dX8_fires_34 (p0 + 4) hp0 rfl ?_
    refine go_aload_n C dX8_fires_37 0 rfl rfl ?_
    refine go_get C (v := .ref fo) fl_X8_64 dX8_fires_38 (p0 + 4) hp0 rfl ?_
    refine go_perm [(ma, .inr (2, [.ref sk, .int (nI 0)])), (sk, .inl (G.2.1, 8, .inl ((pc_fo' f b (ln - (pc_th ln f + 1)) (pc_th ln f + 1) 0 ((pc_fo f b (pc_th ln f) 0 0 st).2) b).2.1))), (af, .inl (G.2.1, 6, .inl (pc_af ln f b))), (fo, .inl (G.2.1, 6, .inl e))] [(fo, .inl (G.2.1, 6, .inl e)), (ma, .inr (2, [.ref sk, .int (nI 0)])), (sk, .inl (G.2.1, 8, .inl ((pc_fo' f b (ln - (pc_th ln f + 1)) (pc_th ln f + 1) 0 ((pc_fo f b (pc_th ln f) 0 0 st).2) b).2.1))), (af, .inl (G.2.1, 6, .inl (pc_af ln f b)))] rs [3, 0, 1, 2] rfl rfl rfl ?_
    refine go_cS C (c_X8_copyState G ((ma, .inr (2, [.ref sk, .int (nI 0)])) :: (sk, .inl (G.2.1, 8, .inl ((pc_fo' f b (ln - (pc_th ln f + 1)) (pc_th ln f + 1) 0 ((pc_fo f b (pc_th ln f) 0 0 st).2) b).2.1))) :: (af, .inl (G.2.1, 6, .inl (pc_af ln f b))) :: rs) 2 af (pc_af ln f b) fo e rfl ) ml_X8_139 mc_X8_copyState dX8_fires_41 [] rfl rfl rfl ⟨Nat.le_of_ble_eq_true rfl, Nat.le_of_ble_eq_true rfl, Nat.zero_le _, Nat.zero_le _, Nat.le_of_ble_eq_true rfl⟩ [] rfl ?_
    refine go_aload_n C dX8_fires_44 0 rfl rfl ?_
    refine go_get C (v := .ref bl) fl_X8_19 dX8_fires_45 (p0 + 4) hp0 rfl ?_
    refine go_aload_n C dX8_fires_48 0 rfl rfl ?_
    refine go_get C (v := .ref fo) fl_X8_64 dX8_fires_49 (p0 + 4) hp0 rfl ?_
    refine go_cV C (c_X0_toStandardForm G ((ma, .inr (2, [.ref sk, .int (nI 0)])) :: (sk, .inl (G.2.1, 8, .inl ((pc_fo' f b (ln - (pc_th ln f + 1)) (pc_th ln f + 1) 0 ((pc_fo f b (pc_th ln f) 0 0 st).2) b).2.1))) :: (af, .inl (G.2.1, 6, .inl (pc_af ln f b))) :: rs) (p3 + 3) (p4 + 3) bl nb Bf fo (pc_af ln f b) hp3 hp4 ) ml_X8_143 mc_X0_toStandardForm dX8_fires_52 [] rfl rfl (p3 + 4) hp3 rfl rfl ⟨Nat.le_of_ble_eq_true rfl, Nat.le_of_ble_eq_true rfl, Nat.zero_le _, Nat.zero_le _, Nat.le_of_ble_eq_true rfl⟩ [] rfl ?_
    refine go_iconst C (1) dX8_fires_55 (by decide) ?_
    refine go_perm [(fo, .inl (G.2.1, 6, .inl (pc_sf Bf (pc_af ln f b)))), (ma, .inr (2, [.ref sk, .int (nI 0)])), (sk, .inl (G.2.1, 8, .inl ((pc_fo' f b (ln - (pc_th ln f + 1)) (pc_th ln f + 1) 0 ((pc_fo f b (pc_th ln f) 0 0 st).2) b).2.1))), (af, .inl (G.2.1, 6, .inl (pc_af ln f b)))] [(ma, .inr (2, [.ref sk, .int (nI 0)])), (sk, .inl (G.2.1, 8, .inl ((pc_fo' f b (ln - (pc_th ln f + 1)) (pc_th ln f + 1) 0 ((pc_fo f b (pc_th ln f) 0 0 st).2) b).2.1))), (af, .inl (G.2.1, 6, .inl (pc_af ln f b))), (fo, .inl (G.2.1, 6, .inl (pc_sf Bf (pc_af ln f b))))] rs [1, 2, 3, 0] rfl rfl rfl ?_
    refine go_se [.int (go_b (true))] rfl ?_
    exact go_zretE C E dX8_fires_56 (go_bn _) ((pc_fo' f b (ln - (pc_th ln f + 1)) (pc_th ln f + 1) 0 ((pc_fo f b (pc_th ln f) 0 0 st).2) b).2.1, 0) trivial (by simp [c_12]) (by simp [pc_fA, pc_fF, c_12])
  · refine go_iconst C (0) dX8_fires_15 (by decide) ?_
    refine go_se [.int (go_b (false))] rfl ?_
    exact go_zretE C E dX8_fires_16 (go_bn _) ((pc_fo f b (pc_th ln f) 0 0 st).2, 0) trivial (by simp [c_12]) (by simp [pc_fA, pc_fF, c_12])
set_option maxHeartbeats 4000000 in
set_option maxRecDepth 100000 in
theorem c_X8_storeForm (G : go_G) (rs : va_W) (p0 : Nat) (p1 : Nat) (p2 : Nat) (p3 : Nat) (me : Nat) (fi : Nat) (ak : Nat) (bl : Nat) (ru : Nat) (iv : Nat) (ma : Nat) (so : Nat) (tr : Nat) (be : Nat) (af : Nat) (fo : Nat) (sl : Bool) (ex : Nat) (va : Nat) (pa : Nat) (ne : Nat) (ol : Nat) (z : pc_Z) (sk : Nat) (h : Nat) (st : Nat → Int32) (ia : Nat) (iw : Nat) (il : Nat) (If : Nat → Int32) (t : Nat → Int32) (q : Int32) (hp0 : rs[p0]? = some (iv, .inr (1, [.ref ia]))) (hp1 : rs[p1]? = some (ia, .inr (6, [.ref iw, .int (nI il)]))) (hp2 : rs[p2]? = some (iw, .inl (G.2.1, 32, .inl If))) (hp3 : rs[p3]? = some (fo, .inl (G.2.1, 6, .inl t))) (hc : z.1 ≤ 400) (hil : il ≤ 32) (hIK : pc_IK il If) : go_Fe yX8_storeForm cX8_storeForm 2 none 4 99 G [.ref me, .int q] ((me, .inr (7, [.ref fi, .ref ak, .ref bl, .ref ru, .ref iv, .ref ma, .ref so, .ref tr, .ref be, .ref af, .ref fo, .int (go_b (sl)), .int (go_b (z.2.2.2.2.2.1)), .int (go_b (z.2.2.2.2.2.2)), .int (nI ex)])) :: (so, .inr (4, [.ref va, .ref pa, .ref ne, .ref ol, .int (nI (z.1))])) :: (va, .inl (G.2.1, 2400, .inl z.2.1)) :: (pa, .inl (G.2.1, 400, .inl z.2.2.1)) :: (ne, .inl (G.2.1, 512, .inl z.2.2.2.1)) :: (ol, .inl (G.2.1, 400, .inl z.2.2.2.2.1)) :: (ma, .inr (2, [.ref sk, .int (nI h)])) :: (sk, .inl (G.2.1, 8, .inl st)) :: rs) (S := (Nat → Int32) × Nat) (fun u => True) (fun u => none) (fun u => (me, .inr (7, [.ref fi, .ref ak, .ref bl, .ref ru, .ref iv, .ref ma, .ref so, .ref tr, .ref be, .ref af, .ref fo, .int (go_b (sl)), .int (go_b ((pc_sto il If z t q).2.2.2.2.2.1)), .int (go_b ((pc_sto il If z t q).2.2.2.2.2.2)), .int (nI ex)])) :: (so, .inr (4, [.ref va, .ref pa, .ref ne, .ref ol, .int (nI ((pc_sto il If z t q).1))])) :: (va, .inl (G.2.1, 2400, .inl ((pc_sto il If z t q).2.1))) :: (pa, .inl (G.2.1, 400, .inl ((pc_sto il If z t q).2.2.1))) :: (ne, .inl (G.2.1, 512, .inl ((pc_sto il If z t q).2.2.2.1))) :: (ol, .inl (G.2.1, 400, .inl ((pc_sto il If z t q).2.2.2.2.1))) :: (ma, .inr (2, [.ref sk, .int (nI (u.2))])) :: (sk, .inl (G.2.1, 8, .inl u.1)) :: rs) := by
  refine go_Fe_of (by decide) (Nat.le_of_ble_eq_true rfl) (fun X C E => ?_)
  show go_Go X (0, 0) ((me, .inr (7, [.ref fi, .ref ak, .ref bl, .ref ru, .ref iv, .ref ma, .ref so, .ref tr, .ref be, .ref af, .ref fo, .int (go_b (sl)), .int (go_b (z.2.2.2.2.2.1)), .int (go_b (z.2.2.2.2.2.2)), .int (nI ex)])) :: (so, .inr (4, [.ref va, .ref pa, .ref ne, .ref ol, .int (nI (z.1))])) :: (va, .inl (G.2.1, 2400, .inl z.2.1)) :: (pa, .inl (G.2.1, 400, .inl z.2.2.1)) :: (ne, .inl (G.2.1, 512, .inl z.2.2.2.1)) :: (ol, .inl (G.2.1, 400, .inl z.2.2.2.2.1)) :: (ma, .inr (2, [.ref sk, .int (nI h)])) :: (sk, .inl (G.2.1, 8, .inl st)) :: rs) [(0, .ref me), (1, .int q)] [] 0
  refine go_aload_n C dX8_storeForm_0 0 rfl rfl ?_
  refine go_get C (v := .ref so) fl_X8_47 dX8_storeForm_1 0 rfl rfl ?_
  refine go_cV C (c_X4_isFull G ((me, .inr (7, [.ref fi, .ref ak, .ref bl, .ref ru, .ref iv, .ref ma, .ref so, .ref tr, .ref be, .ref af, .ref fo, .int (go_b (sl)), .int (go_b (z.2.2.2.2.2.1)), .int (go_b (z.2.2.2.2.2.2)), .int (nI ex)])) :: (so, .inr (4, [.ref va, .ref pa, .ref ne, .ref ol, .int (nI (z.1))])) :: (va, .inl (G.2.1, 2400, .inl z.2.1)) :: (pa, .inl (G.2.1, 400, .inl z.2.2.1)) :: (ne, .inl (G.2.1, 512, .inl z.2.2.2.1)) :: (ol, .inl (G.2.1, 400, .inl z.2.2.2.2.1)) :: (ma, .inr (2, [.ref sk, .int (nI h)])) :: (sk, .inl (G.2.1, 8, .inl st)) :: rs) 1 so va pa ne ol z.1 rfl (by omega)) ml_X8_230 mc_X4_isFull dX8_storeForm_4 [] rfl rfl 1 rfl rfl rfl ⟨Nat.le_of_ble_eq_true rfl, Nat.le_of_ble_eq_true rfl, Nat.zero_le _, Nat.zero_le _, Nat.le_of_ble_eq_true rfl⟩ [.int (go_b (decide (400 ≤ z.1)))] rfl ?_
  refine go_if_eqB C 16 dX8_storeForm_7 (by decide) (fun c_7 => ?_) (fun c_7 => ?_)
  · have hf := of_decide_eq_false c_7
    refine go_aload_n C dX8_storeForm_16 0 rfl rfl ?_
    refine go_get C (v := .ref so) fl_X8_47 dX8_storeForm_17 0 rfl rfl ?_
    refine go_aload_n C dX8_storeForm_20 0 rfl rfl ?_
    refine go_get C (v := .ref fo) fl_X8_64 dX8_storeForm_21 0 rfl rfl ?_
    refine go_iload_n C dX8_storeForm_24 1 rfl rfl ?_
    refine go_perm [(me, .inr (7, [.ref fi, .ref ak, .ref bl, .ref ru, .ref iv, .ref ma, .ref so, .ref tr, .ref be, .ref af, .ref fo, .int (go_b (sl)), .int (go_b (z.2.2.2.2.2.1)), .int (go_b (z.2.2.2.2.2.2)), .int (nI ex)])), (so, .inr (4, [.ref va, .ref pa, .ref ne, .ref ol, .int (nI (z.1))])), (va, .inl (G.2.1, 2400, .inl z.2.1)), (pa, .inl (G.2.1, 400, .inl z.2.2.1)), (ne, .inl (G.2.1, 512, .inl z.2.2.2.1)), (ol, .inl (G.2.1, 400, .inl z.2.2.2.2.1)), (ma, .inr (2, [.ref sk, .int (nI h)])), (sk, .inl (G.2.1, 8, .inl st))] [(so, .inr (4, [.ref va, .ref pa, .ref ne, .ref ol, .int (nI (z.1))])), (va, .inl (G.2.1, 2400, .inl z.2.1)), (pa, .inl (G.2.1, 400, .inl z.2.2.1)), (ne, .inl (G.2.1, 512, .inl z.2.2.2.1)), (ol, .inl (G.2.1, 400, .inl z.2.2.2.2.1)), (me, .inr (7, [.ref fi, .ref ak, .ref bl, .ref ru, .ref iv, .ref ma, .ref so, .ref tr, .ref be, .ref af, .ref fo, .int (go_b (sl)), .int (go_b (z.2.2.2.2.2.1)), .int (go_b (z.2.2.2.2.2.2)), .int (nI ex)])), (ma, .inr (2, [.ref sk, .int (nI h)])), (sk, .inl (G.2.1, 8, .inl st))] rs [1, 2, 3, 4, 5, 0, 6, 7] rfl rfl rfl ?_
    refine go_cV C (c_X4_add G ((me, .inr (7, [.ref fi, .ref ak, .ref bl, .ref ru, .ref iv, .ref ma, .ref so, .ref tr, .ref be, .ref af, .ref fo, .int (go_b (sl)), .int (go_b (z.2.2.2.2.2.1)), .int (go_b (z.2.2.2.2.2.2)), .int (nI ex)])) :: (ma, .inr (2, [.ref sk, .int (nI h)])) :: (sk, .inl (G.2.1, 8, .inl st)) :: rs) (p3 + 3) so va pa ne ol z.1 z.2.1 z.2.2.1 z.2.2.2.1 z.2.2.2.2.1 fo t q hp3 (by omega)) ml_X8_231 mc_X4_add dX8_storeForm_25 [] rfl rfl 0 rfl rfl rfl ⟨Nat.le_of_ble_eq_true rfl, Nat.le_of_ble_eq_true rfl, Nat.zero_le _, Nat.zero_le _, Nat.le_of_ble_eq_true rfl⟩ [] rfl ?_
    refine go_aload_n C dX8_storeForm_28 0 rfl rfl ?_
    refine go_aload_n C dX8_storeForm_29 0 rfl rfl ?_
    refine go_get C (v := .ref ma) fl_X8_40 dX8_storeForm_30 5 rfl rfl ?_
    refine go_aload_n C dX8_storeForm_33 0 rfl rfl ?_
    refine go_get C (v := .ref iv) fl_X8_33 dX8_storeForm_34 5 rfl rfl ?_
    refine go_aload_n C dX8_storeForm_37 0 rfl rfl ?_
    refine go_get C (v := .ref fo) fl_X8_64 dX8_storeForm_38 5 rfl rfl ?_
    refine go_perm [(so, .inr (4, [.ref va, .ref pa, .ref ne, .ref ol, .int (nI (z.1 + 1))])), (va, .inl (G.2.1, 2400, .inl (pc_wr z.2.1 z.1 t))), (pa, .inl (G.2.1, 400, .inl (upd z.2.2.1 z.1 q))), (ne, .inl (G.2.1, 512, .inl (upd z.2.2.2.1 (pc_bk t) (nI z.1)))), (ol, .inl (G.2.1, 400, .inl (upd z.2.2.2.2.1 z.1 (z.2.2.2.1 (pc_bk t))))), (me, .inr (7, [.ref fi, .ref ak, .ref bl, .ref ru, .ref iv, .ref ma, .ref so, .ref tr, .ref be, .ref af, .ref fo, .int (go_b (sl)), .int (go_b (z.2.2.2.2.2.1)), .int (go_b (z.2.2.2.2.2.2)), .int (nI ex)])), (ma, .inr (2, [.ref sk, .int (nI h)])), (sk, .inl (G.2.1, 8, .inl st))] [(ma, .inr (2, [.ref sk, .int (nI h)])), (sk, .inl (G.2.1, 8, .inl st)), (so, .inr (4, [.ref va, .ref pa, .ref ne, .ref ol, .int (nI (z.1 + 1))])), (va, .inl (G.2.1, 2400, .inl (pc_wr z.2.1 z.1 t))), (pa, .inl (G.2.1, 400, .inl (upd z.2.2.1 z.1 q))), (ne, .inl (G.2.1, 512, .inl (upd z.2.2.2.1 (pc_bk t) (nI z.1)))), (ol, .inl (G.2.1, 400, .inl (upd z.2.2.2.2.1 z.1 (z.2.2.2.1 (pc_bk t))))), (me, .inr (7, [.ref fi, .ref ak, .ref bl, .ref ru, .ref iv, .ref ma, .ref so, .ref tr, .ref be, .ref af, .ref fo, .int (go_b (sl)), .int (go_b (z.2.2.2.2.2.1)), .int (go_b (z.2.2.2.2.2.2)), .int (nI ex)]))] rs [6, 7, 0, 1, 2, 3, 4, 5] rfl rfl rfl ?_
    refine go_cVe C (c_X2_holds G ((so, .inr (4, [.ref va, .ref pa, .ref ne, .ref ol, .int (nI (z.1 + 1))])) :: (va, .inl (G.2.1, 2400, .inl (pc_wr z.2.1 z.1 t))) :: (pa, .inl (G.2.1, 400, .inl (upd z.2.2.1 z.1 q))) :: (ne, .inl (G.2.1, 512, .inl (upd z.2.2.2.1 (pc_bk t) (nI z.1)))) :: (ol, .inl (G.2.1, 400, .inl (upd z.2.2.2.2.1 z.1 (z.2.2.2.1 (pc_bk t))))) :: (me, .inr (7, [.ref fi, .ref ak, .ref bl, .ref ru, .ref iv, .ref ma, .ref so, .ref tr, .ref be, .ref af, .ref fo, .int (go_b (sl)), .int (go_b (z.2.2.2.2.2.1)), .int (go_b (z.2.2.2.2.2.2)), .int (nI ex)])) :: rs) (p0 + 6) (p1 + 6) (p2 + 6) (p3 + 6) ma sk h st iv ia iw il If fo t hp0 hp1 hp2 hp3 (by omega) hIK) ml_X8_181 mc_X2_holds dX8_storeForm_41 [.ref me] rfl (fun _ => rfl) 0 rfl rfl rfl ⟨Nat.le_of_ble_eq_true rfl, Nat.le_of_ble_eq_true rfl, Nat.zero_le _, Nat.zero_le _, Nat.le_of_ble_eq_true rfl⟩ (fun u hu_1 => ?_)
    obtain ⟨st2_1, h2_1⟩ := u
    show go_Go X (0, 0) ((ma, .inr (2, [.ref sk, .int (nI h2_1)])) :: (sk, .inl (G.2.1, 8, .inl st2_1)) :: (so, .inr (4, [.ref va, .ref pa, .ref ne, .ref ol, .int (nI (z.1 + 1))])) :: (va, .inl (G.2.1, 2400, .inl (pc_wr z.2.1 z.1 t))) :: (pa, .inl (G.2.1, 400, .inl (upd z.2.2.1 z.1 q))) :: (ne, .inl (G.2.1, 512, .inl (upd z.2.2.2.1 (pc_bk t) (nI z.1)))) :: (ol, .inl (G.2.1, 400, .inl (upd z.2.2.2.2.1 z.1 (z.2.2.2.1 (pc_bk t))))) :: (me, .inr (7, [.ref fi, .ref ak, .ref bl, .ref ru, .ref iv, .ref ma, .ref so, .ref tr, .ref be, .ref af, .ref fo, .int (go_b (sl)), .int (go_b (z.2.2.2.2.2.1)), .int (go_b (z.2.2.2.2.2.2)), .int (nI ex)])) :: rs) [(0, .ref me), (1, .int q)] [.int (go_b (pc_ho il If t)), .ref me] 44
    refine go_if_neB C 51 dX8_storeForm_44 (by decide) (fun c_44 => ?_) (fun c_44 => ?_)
    · refine go_iconst C (0) dX8_storeForm_51 (by decide) ?_
      refine go_se [.int (go_b (false)), .ref me] rfl ?_
      refine go_put C fp_X8_93 dX8_storeForm_52 7 rfl (go_bn _) (go_bf _) (Nat.le_of_ble_eq_true rfl) ((ma, .inr (2, [.ref sk, .int (nI h2_1)])) :: (sk, .inl (G.2.1, 8, .inl st2_1)) :: (so, .inr (4, [.ref va, .ref pa, .ref ne, .ref ol, .int (nI (z.1 + 1))])) :: (va, .inl (G.2.1, 2400, .inl (pc_wr z.2.1 z.1 t))) :: (pa, .inl (G.2.1, 400, .inl (upd z.2.2.1 z.1 q))) :: (ne, .inl (G.2.1, 512, .inl (upd z.2.2.2.1 (pc_bk t) (nI z.1)))) :: (ol, .inl (G.2.1, 400, .inl (upd z.2.2.2.2.1 z.1 (z.2.2.2.1 (pc_bk t))))) :: (me, .inr (7, [.ref fi, .ref ak, .ref bl, .ref ru, .ref iv, .ref ma, .ref so, .ref tr, .ref be, .ref af, .ref fo, .int (go_b (sl)), .int (go_b (false)), .int (go_b (z.2.2.2.2.2.2)), .int (nI ex)])) :: rs) rfl ?_
      refine go_perm [(ma, .inr (2, [.ref sk, .int (nI h2_1)])), (sk, .inl (G.2.1, 8, .inl st2_1)), (so, .inr (4, [.ref va, .ref pa, .ref ne, .ref ol, .int (nI (z.1 + 1))])), (va, .inl (G.2.1, 2400, .inl (pc_wr z.2.1 z.1 t))), (pa, .inl (G.2.1, 400, .inl (upd z.2.2.1 z.1 q))), (ne, .inl (G.2.1, 512, .inl (upd z.2.2.2.1 (pc_bk t) (nI z.1)))), (ol, .inl (G.2.1, 400, .inl (upd z.2.2.2.2.1 z.1 (z.2.2.2.1 (pc_bk t))))), (me, .inr (7, [.ref fi, .ref ak, .ref bl, .ref ru, .ref iv, .ref ma, .ref so, .ref tr, .ref be, .ref af, .ref fo, .int (go_b (sl)), .int (go_b (false)), .int (go_b (z.2.2.2.2.2.2)), .int (nI ex)]))] [(me, .inr (7, [.ref fi, .ref ak, .ref bl, .ref ru, .ref iv, .ref ma, .ref so, .ref tr, .ref be, .ref af, .ref fo, .int (go_b (sl)), .int (go_b (false)), .int (go_b (z.2.2.2.2.2.2)), .int (nI ex)])), (so, .inr (4, [.ref va, .ref pa, .ref ne, .ref ol, .int (nI (z.1 + 1))])), (va, .inl (G.2.1, 2400, .inl (pc_wr z.2.1 z.1 t))), (pa, .inl (G.2.1, 400, .inl (upd z.2.2.1 z.1 q))), (ne, .inl (G.2.1, 512, .inl (upd z.2.2.2.1 (pc_bk t) (nI z.1)))), (ol, .inl (G.2.1, 400, .inl (upd z.2.2.2.2.1 z.1 (z.2.2.2.1 (pc_bk t))))), (ma, .inr (2, [.ref sk, .int (nI h2_1)])), (sk, .inl (G.2.1, 8, .inl st2_1))] rs [7, 2, 3, 4, 5, 6, 0, 1] rfl rfl rfl ?_
      exact go_vretE C E dX8_storeForm_55 (st2_1, h2_1) trivial rfl (by simp [pc_sto, show z.1 < 400 by omega, c_44])
    · refine go_iconst C (1) dX8_storeForm_47 (by decide) ?_
      refine go_goto C 52 dX8_storeForm_48 (by decide) ?_
      refine go_se [.int (go_b (true)), .ref me] rfl ?_
      refine go_put C fp_X8_93 dX8_storeForm_52 7 rfl (go_bn _) (go_bf _) (Nat.le_of_ble_eq_true rfl) ((ma, .inr (2, [.ref sk, .int (nI h2_1)])) :: (sk, .inl (G.2.1, 8, .inl st2_1)) :: (so, .inr (4, [.ref va, .ref pa, .ref ne, .ref ol, .int (nI (z.1 + 1))])) :: (va, .inl (G.2.1, 2400, .inl (pc_wr z.2.1 z.1 t))) :: (pa, .inl (G.2.1, 400, .inl (upd z.2.2.1 z.1 q))) :: (ne, .inl (G.2.1, 512, .inl (upd z.2.2.2.1 (pc_bk t) (nI z.1)))) :: (ol, .inl (G.2.1, 400, .inl (upd z.2.2.2.2.1 z.1 (z.2.2.2.1 (pc_bk t))))) :: (me, .inr (7, [.ref fi, .ref ak, .ref bl, .ref ru, .ref iv, .ref ma, .ref so, .ref tr, .ref be, .ref af, .ref fo, .int (go_b (sl)), .int (go_b (true)), .int (go_b (z.2.2.2.2.2.2)), .int (nI ex)])) :: rs) rfl ?_
      refine go_perm [(ma, .inr (2, [.ref sk, .int (nI h2_1)])), (sk, .inl (G.2.1, 8, .inl st2_1)), (so, .inr (4, [.ref va, .ref pa, .ref ne, .ref ol, .int (nI (z.1 + 1))])), (va, .inl (G.2.1, 2400, .inl (pc_wr z.2.1 z.1 t))), (pa, .inl (G.2.1, 400, .inl (upd z.2.2.1 z.1 q))), (ne, .inl (G.2.1, 512, .inl (upd z.2.2.2.1 (pc_bk t) (nI z.1)))), (ol, .inl (G.2.1, 400, .inl (upd z.2.2.2.2.1 z.1 (z.2.2.2.1 (pc_bk t))))), (me, .inr (7, [.ref fi, .ref ak, .ref bl, .ref ru, .ref iv, .ref ma, .ref so, .ref tr, .ref be, .ref af, .ref fo, .int (go_b (sl)), .int (go_b (true)), .int (go_b (z.2.2.2.2.2.2)), .int (nI ex)]))] [(me, .inr (7, [.ref fi, .ref ak, .ref bl, .ref ru, .ref iv, .ref ma, .ref so, .ref tr, .ref be, .ref af, .ref fo, .int (go_b (sl)), .int (go_b (true)), .int (go_b (z.2.2.2.2.2.2)), .int (nI ex)])), (so, .inr (4, [.ref va, .ref pa, .ref ne, .ref ol, .int (nI (z.1 + 1))])), (va, .inl (G.2.1, 2400, .inl (pc_wr z.2.1 z.1 t))), (pa, .inl (G.2.1, 400, .inl (upd z.2.2.1 z.1 q))), (ne, .inl (G.2.1, 512, .inl (upd z.2.2.2.1 (pc_bk t) (nI z.1)))), (ol, .inl (G.2.1, 400, .inl (upd z.2.2.2.2.1 z.1 (z.2.2.2.1 (pc_bk t))))), (ma, .inr (2, [.ref sk, .int (nI h2_1)])), (sk, .inl (G.2.1, 8, .inl st2_1))] rs [7, 2, 3, 4, 5, 6, 0, 1] rfl rfl rfl ?_
      exact go_vretE C E dX8_storeForm_55 (st2_1, h2_1) trivial rfl (by simp [pc_sto, show z.1 < 400 by omega, c_44])
  · have hf := of_decide_eq_true c_7
    refine go_aload_n C dX8_storeForm_10 0 rfl rfl ?_
    refine go_iconst C (1) dX8_storeForm_11 (by decide) ?_
    refine go_se [.int (go_b (true)), .ref me] rfl ?_
    refine go_put C fp_X8_96 dX8_storeForm_12 0 rfl (go_bn _) (go_bf _) (Nat.le_of_ble_eq_true rfl) ((me, .inr (7, [.ref fi, .ref ak, .ref bl, .ref ru, .ref iv, .ref ma, .ref so, .ref tr, .ref be, .ref af, .ref fo, .int (go_b (sl)), .int (go_b (z.2.2.2.2.2.1)), .int (go_b (true)), .int (nI ex)])) :: (so, .inr (4, [.ref va, .ref pa, .ref ne, .ref ol, .int (nI (z.1))])) :: (va, .inl (G.2.1, 2400, .inl z.2.1)) :: (pa, .inl (G.2.1, 400, .inl z.2.2.1)) :: (ne, .inl (G.2.1, 512, .inl z.2.2.2.1)) :: (ol, .inl (G.2.1, 400, .inl z.2.2.2.2.1)) :: (ma, .inr (2, [.ref sk, .int (nI h)])) :: (sk, .inl (G.2.1, 8, .inl st)) :: rs) rfl ?_
    exact go_vretE C E dX8_storeForm_15 (st, h) trivial rfl (by simp [pc_sto, show ¬ z.1 < 400 by omega])
end
section
theorem mc_min : Cond.code Lib.Math.min.name Lib.Math.min.code 2 (some .int) ∈ go_tb := go_tb_of (List.mem_of_getElem? (i := 518) (by decide +kernel)) rfl
theorem ml_min : go_MS RX8 154 Lib.Math.min.name 2 := ml_X8_154
theorem go_min {X : go_X} {cc : ByteArray} {own : String} {rt : Option FieldType} {nL fr lo rc rs : Nat} {G : go_G} {kz : Nat × Nat} {ws : va_W} {lv : List (Nat × Value)} {st : List Value} {pc index : Nat} (C : go_Cx X cc own rt nL fr lo rc rs G) (M : go_MS own index Lib.Math.min.name 2) (d : decode cc pc = .ok (.invokestatic index, 3)) {x y : Int32} (hR : 1 ≤ fr ∧ (st.map fun v => v.category).sum + 13 ≤ lo ∧ kz.1 ≤ rc ∧ kz.2 ≤ rs) (kk : go_Go X kz ws lv (.int (if y < x then y else x) :: st) (pc + 3)) : go_Go X kz ws lv (.int y :: .int x :: st) pc := by
  obtain ⟨p, l, e, R, s, m, args, below, meth, c, G', nL0, A, Q⟩ := X
  obtain ⟨hx, hb, hr, hml, hown, hts, hlk, hK, rfl, rfl, rfl, hA⟩ := C
  intro H locs ls hP hD hS hl
  exact va_mmin hx hb (hml.trans hl.1.symm) hown (hts _ M.1) (hts _ M.2.1) (hts _ M.2.2.1) (hts _ mc_min) hR.1 hR.2.1 hR.2.2.1 hR.2.2.2 d (kk H locs ls hP hD hS hl)
end
section
set_option maxHeartbeats 4000000 in
set_option maxRecDepth 100000 in
theorem l_X8_expandNext_17 {X : go_X} (G : go_G) (rs : va_W) (p0 : Nat) (p1 : Nat) (p2 : Nat) (p3 : Nat) (p4 : Nat) (p5 : Nat) (p6 : Nat) (me : Nat) (fi : Nat) (ak : Nat) (bl : Nat) (ru : Nat) (iv : Nat) (ma : Nat) (so : Nat) (tr : Nat) (be : Nat) (af : Nat) (fo : Nat) (sl : Bool) (ex : Nat) (va : Nat) (pa : Nat) (ne : Nat) (ol : Nat) (z : pc_Z) (sk : Nat) (h : Nat) (st : Nat → Int32) (nb : Nat) (Bf : Nat → Int32) (rows : Nat) (nth : Nat) (nr : Nat) (ra : Nat → Nat) (wa : Nat → Nat) (ln : Nat → Nat) (F : Nat → Nat → Int32) (pr : Nat → Nat) (pw : Nat → Nat) (ia : Nat) (iw : Nat) (il : Nat) (If : Nat → Int32) (g0 : Nat → Int32) (d : Nat → Int32) (e : Nat → Int32) (hp0 : rs[p0]? = some (bl, .inr (0, [.ref nb]))) (hp1 : rs[p1]? = some (nb, .inl (G.2.1, 6, .inl Bf))) (hp2 : rs[p2]? = some (ru, .inr (3, [.ref rows, .ref nth, .int (nI nr)]))) (hp3 : rs[p3]? = some (rows, .inl (G.2.2, 12, .inr (.inr (.inr (.inr (fun r => some (ra r)))))))) (hp4 : rs[p4]? = some (iv, .inr (1, [.ref ia]))) (hp5 : rs[p5]? = some (ia, .inr (6, [.ref iw, .int (nI il)]))) (hp6 : rs[p6]? = some (iw, .inl (G.2.1, 32, .inl If))) (hrow : ∀ r, r < 12 → rs[pr r]? = some (ra r, .inr (6, [.ref (wa r), .int (nI (ln r))]))) (hwd : ∀ r, r < 12 → rs[pw r]? = some (wa r, .inl (G.2.1, 32, .inl (F r)))) (hln : ∀ r, r < 12 → ln r ≤ 32) (hnr : nr ≤ 12) (hRK : ∀ r, r < nr → pc_RK (ln r) (F r)) (hIK : pc_IK il If) (hil : il ≤ 32) (hc : z.1 ≤ 400) (hex : ex < z.1)  (b : Nat → Int32) (C : go_Cx X cX8_expandNext RX8 none 2 5 120 0 0 G) (E : go_Ee X (S := (Nat → Int32) × Nat × (Nat → Int32) × (Nat → Int32) × (Nat → Int32)) (fun u => True) (fun u => none) (fun u => (me, .inr (7, [.ref fi, .ref ak, .ref bl, .ref ru, .ref iv, .ref ma, .ref so, .ref tr, .ref be, .ref af, .ref fo, .int (go_b (sl)), .int (go_b (((pc_xp nr ln F Bf il If ex z).1).2.2.2.2.2.1)), .int (go_b (((pc_xp nr ln F Bf il If ex z).1).2.2.2.2.2.2)), .int (nI ((pc_xp nr ln F Bf il If ex z).2))])) :: (so, .inr (4, [.ref va, .ref pa, .ref ne, .ref ol, .int (nI (((pc_xp nr ln F Bf il If ex z).1).1))])) :: (va, .inl (G.2.1, 2400, .inl (((pc_xp nr ln F Bf il If ex z).1).2.1))) :: (pa, .inl (G.2.1, 400, .inl (((pc_xp nr ln F Bf il If ex z).1).2.2.1))) :: (ne, .inl (G.2.1, 512, .inl (((pc_xp nr ln F Bf il If ex z).1).2.2.2.1))) :: (ol, .inl (G.2.1, 400, .inl (((pc_xp nr ln F Bf il If ex z).1).2.2.2.2.1))) :: (ma, .inr (2, [.ref sk, .int (nI (u.2.1))])) :: (sk, .inl (G.2.1, 8, .inl u.1)) :: (be, .inl (G.2.1, 6, .inl u.2.2.1)) :: (af, .inl (G.2.1, 6, .inl u.2.2.2.1)) :: (fo, .inl (G.2.1, 6, .inl u.2.2.2.2)) :: rs))  : ∀ (n : Nat) (r : Nat) (y : pc_Z) (g : Nat) (t : Nat → Int32) (d1 : Nat → Int32) (e1 : Nat → Int32) (hin : nr < r + n) (hr : r ≤ nr) (hc2 : y.1 ≤ 400) (hZ : pc_xl nr ln F Bf il If b ex n r y = pc_xp nr ln F Bf il If ex z), go_Go X (0, 0) ((me, .inr (7, [.ref fi, .ref ak, .ref bl, .ref ru, .ref iv, .ref ma, .ref so, .ref tr, .ref be, .ref af, .ref fo, .int (go_b (sl)), .int (go_b (y.2.2.2.2.2.1)), .int (go_b (y.2.2.2.2.2.2)), .int (nI ex)])) :: (so, .inr (4, [.ref va, .ref pa, .ref ne, .ref ol, .int (nI (y.1))])) :: (va, .inl (G.2.1, 2400, .inl y.2.1)) :: (pa, .inl (G.2.1, 400, .inl y.2.2.1)) :: (ne, .inl (G.2.1, 512, .inl y.2.2.2.1)) :: (ol, .inl (G.2.1, 400, .inl y.2.2.2.2.1)) :: (ma, .inr (2, [.ref sk, .int (nI g)])) :: (sk, .inl (G.2.1, 8, .inl t)) :: (be, .inl (G.2.1, 6, .inl b)) :: (af, .inl (G.2.1, 6, .inl d1)) :: (fo, .inl (G.2.1, 6, .inl e1)) :: rs) [(0, .ref me), (1, .int (nI r))] [] 17 := by
  intro n
  induction n with
  | zero => intro r y g t d1 e1 hin hr hc2 hZ; omega
  | succ n ih =>
    intro r y g t d1 e1 hin hr hc2 hZ
    refine go_iload_n C dX8_expandNext_17 1 rfl rfl ?_
    refine go_aload_n C dX8_expandNext_18 0 rfl rfl ?_
    refine go_get C (v := .ref ru) fl_X8_26 dX8_expandNext_19 0 rfl rfl ?_
    refine go_cV C (c_X3_count G ((me, .inr (7, [.ref fi, .ref ak, .ref bl, .ref ru, .ref iv, .ref ma, .ref so, .ref tr, .ref be, .ref af, .ref fo, .int (go_b (sl)), .int (go_b (y.2.2.2.2.2.1)), .int (go_b (y.2.2.2.2.2.2)), .int (nI ex)])) :: (so, .inr (4, [.ref va, .ref pa, .ref ne, .ref ol, .int (nI (y.1))])) :: (va, .inl (G.2.1, 2400, .inl y.2.1)) :: (pa, .inl (G.2.1, 400, .inl y.2.2.1)) :: (ne, .inl (G.2.1, 512, .inl y.2.2.2.1)) :: (ol, .inl (G.2.1, 400, .inl y.2.2.2.2.1)) :: (ma, .inr (2, [.ref sk, .int (nI g)])) :: (sk, .inl (G.2.1, 8, .inl t)) :: (be, .inl (G.2.1, 6, .inl b)) :: (af, .inl (G.2.1, 6, .inl d1)) :: (fo, .inl (G.2.1, 6, .inl e1)) :: rs) (p2 + 11) ru rows nth nr hp2 ) ml_X8_119 mc_X3_count dX8_expandNext_22 [.int (nI r)] rfl rfl (p2 + 11) hp2 rfl rfl ⟨Nat.le_of_ble_eq_true rfl, Nat.le_of_ble_eq_true rfl, Nat.zero_le _, Nat.zero_le _, Nat.le_of_ble_eq_true rfl⟩ [.int (nI nr), .int (nI r)] rfl ?_
    refine go_icmp_geN (a := r) (b := nr) C 87 dX8_expandNext_25 (by decide) (by omega) (by omega) (fun c_25 => ?_) (fun c_25 => ?_)
    · refine go_aload_n C dX8_expandNext_87 0 rfl rfl ?_
      refine go_dup C dX8_expandNext_88 rfl ?_
      refine go_get C (v := .int (nI ex)) fl_X8_99 dX8_expandNext_89 0 rfl rfl ?_
      refine go_iconst C (1) dX8_expandNext_92 (by decide) ?_
      refine go_iadd C (z := nI (ex + 1)) dX8_expandNext_93 (nI_add ex 1) ?_
      refine go_put C fp_X8_99 dX8_expandNext_94 0 rfl rfl rfl (Nat.le_of_ble_eq_true rfl) ((me, .inr (7, [.ref fi, .ref ak, .ref bl, .ref ru, .ref iv, .ref ma, .ref so, .ref tr, .ref be, .ref af, .ref fo, .int (go_b (sl)), .int (go_b (y.2.2.2.2.2.1)), .int (go_b (y.2.2.2.2.2.2)), .int (nI (ex + 1))])) :: (so, .inr (4, [.ref va, .ref pa, .ref ne, .ref ol, .int (nI (y.1))])) :: (va, .inl (G.2.1, 2400, .inl y.2.1)) :: (pa, .inl (G.2.1, 400, .inl y.2.2.1)) :: (ne, .inl (G.2.1, 512, .inl y.2.2.2.1)) :: (ol, .inl (G.2.1, 400, .inl y.2.2.2.2.1)) :: (ma, .inr (2, [.ref sk, .int (nI g)])) :: (sk, .inl (G.2.1, 8, .inl t)) :: (be, .inl (G.2.1, 6, .inl b)) :: (af, .inl (G.2.1, 6, .inl d1)) :: (fo, .inl (G.2.1, 6, .inl e1)) :: rs) rfl ?_
      exact go_vretE C E dX8_expandNext_97 (t, g, b, d1, e1) trivial rfl (by rw [← hZ]; first | (simp [pc_xl, pc_xr, c_25, c_40, c_55, c_70, c_77]; done) | (simp [pc_xl, pc_xr, c_25, c_40, c_55, c_70]; done) | (simp [pc_xl, pc_xr, c_25, c_40, c_70, c_77]; done) | (simp [pc_xl, pc_xr, c_25, c_40, c_70]; done) | (simp [pc_xl, c_25]; done))
    · refine go_aload_n C dX8_expandNext_28 0 rfl rfl ?_
      refine go_aload_n C dX8_expandNext_29 0 rfl rfl ?_
      refine go_get C (v := .ref ru) fl_X8_26 dX8_expandNext_30 0 rfl rfl ?_
      refine go_iload_n C dX8_expandNext_33 1 rfl rfl ?_
      refine go_cV C (c_X3_at G ((me, .inr (7, [.ref fi, .ref ak, .ref bl, .ref ru, .ref iv, .ref ma, .ref so, .ref tr, .ref be, .ref af, .ref fo, .int (go_b (sl)), .int (go_b (y.2.2.2.2.2.1)), .int (go_b (y.2.2.2.2.2.2)), .int (nI ex)])) :: (so, .inr (4, [.ref va, .ref pa, .ref ne, .ref ol, .int (nI (y.1))])) :: (va, .inl (G.2.1, 2400, .inl y.2.1)) :: (pa, .inl (G.2.1, 400, .inl y.2.2.1)) :: (ne, .inl (G.2.1, 512, .inl y.2.2.2.1)) :: (ol, .inl (G.2.1, 400, .inl y.2.2.2.2.1)) :: (ma, .inr (2, [.ref sk, .int (nI g)])) :: (sk, .inl (G.2.1, 8, .inl t)) :: (be, .inl (G.2.1, 6, .inl b)) :: (af, .inl (G.2.1, 6, .inl d1)) :: (fo, .inl (G.2.1, 6, .inl e1)) :: rs) (p2 + 11) (p3 + 11) ru rows nth nr ra r hp2 hp3 (by omega) (by omega)) ml_X8_122 mc_X3_at dX8_expandNext_34 [.ref me] rfl rfl (p2 + 11) hp2 rfl rfl ⟨Nat.le_of_ble_eq_true rfl, Nat.le_of_ble_eq_true rfl, Nat.zero_le _, Nat.zero_le _, Nat.le_of_ble_eq_true rfl⟩ [.ref (ra r), .ref me] rfl ?_
      refine go_perm [(me, .inr (7, [.ref fi, .ref ak, .ref bl, .ref ru, .ref iv, .ref ma, .ref so, .ref tr, .ref be, .ref af, .ref fo, .int (go_b (sl)), .int (go_b (y.2.2.2.2.2.1)), .int (go_b (y.2.2.2.2.2.2)), .int (nI ex)])), (so, .inr (4, [.ref va, .ref pa, .ref ne, .ref ol, .int (nI (y.1))])), (va, .inl (G.2.1, 2400, .inl y.2.1)), (pa, .inl (G.2.1, 400, .inl y.2.2.1)), (ne, .inl (G.2.1, 512, .inl y.2.2.2.1)), (ol, .inl (G.2.1, 400, .inl y.2.2.2.2.1)), (ma, .inr (2, [.ref sk, .int (nI g)])), (sk, .inl (G.2.1, 8, .inl t)), (be, .inl (G.2.1, 6, .inl b)), (af, .inl (G.2.1, 6, .inl d1)), (fo, .inl (G.2.1, 6, .inl e1))] [(ma, .inr (2, [.ref sk, .int (nI g)])), (sk, .inl (G.2.1, 8, .inl t)), (af, .inl (G.2.1, 6, .inl d1)), (fo, .inl (G.2.1, 6, .inl e1)), (me, .inr (7, [.ref fi, .ref ak, .ref bl, .ref ru, .ref iv, .ref ma, .ref so, .ref tr, .ref be, .ref af, .ref fo, .int (go_b (sl)), .int (go_b (y.2.2.2.2.2.1)), .int (go_b (y.2.2.2.2.2.2)), .int (nI ex)])), (so, .inr (4, [.ref va, .ref pa, .ref ne, .ref ol, .int (nI (y.1))])), (va, .inl (G.2.1, 2400, .inl y.2.1)), (pa, .inl (G.2.1, 400, .inl y.2.2.1)), (ne, .inl (G.2.1, 512, .inl y.2.2.2.1)), (ol, .inl (G.2.1, 400, .inl y.2.2.2.2.1)), (be, .inl (G.2.1, 6, .inl b))] rs [6, 7, 9, 10, 0, 1, 2, 3, 4, 5, 8] rfl rfl rfl ?_
      refine go_cVe C (c_X8_fires G ((me, .inr (7, [.ref fi, .ref ak, .ref bl, .ref ru, .ref iv, .ref ma, .ref so, .ref tr, .ref be, .ref af, .ref fo, .int (go_b (sl)), .int (go_b (y.2.2.2.2.2.1)), .int (go_b (y.2.2.2.2.2.2)), .int (nI ex)])) :: (so, .inr (4, [.ref va, .ref pa, .ref ne, .ref ol, .int (nI (y.1))])) :: (va, .inl (G.2.1, 2400, .inl y.2.1)) :: (pa, .inl (G.2.1, 400, .inl y.2.2.1)) :: (ne, .inl (G.2.1, 512, .inl y.2.2.2.1)) :: (ol, .inl (G.2.1, 400, .inl y.2.2.2.2.1)) :: (be, .inl (G.2.1, 6, .inl b)) :: rs) 0 (pr r + 7) (pw r + 7) (p0 + 7) (p1 + 7) 6 me fi ak bl ru iv ma so tr be af fo sl y.2.2.2.2.2.1 y.2.2.2.2.2.2 ex sk g t (ra r) (wa r) (ln r) (F r) nb Bf b d1 e1 rfl (hrow r (by omega)) (hwd r (by omega)) hp0 hp1 rfl (hln r (by omega)) (hRK r (by omega))) ml_X8_218 mc_X8_fires dX8_expandNext_37 [] rfl (fun _ => rfl) 4 rfl rfl rfl ⟨Nat.le_of_ble_eq_true rfl, Nat.le_of_ble_eq_true rfl, Nat.zero_le _, Nat.zero_le _, Nat.le_of_ble_eq_true rfl⟩ (fun u hu_1 => ?_)
      obtain ⟨st2_1, h2_1⟩ := u
      show go_Go X (0, 0) ((ma, .inr (2, [.ref sk, .int (nI h2_1)])) :: (sk, .inl (G.2.1, 8, .inl st2_1)) :: (af, .inl (G.2.1, 6, .inl (pc_fA (ln r) (F r) b d1))) :: (fo, .inl (G.2.1, 6, .inl (pc_fF Bf (ln r) (F r) b e1))) :: (me, .inr (7, [.ref fi, .ref ak, .ref bl, .ref ru, .ref iv, .ref ma, .ref so, .ref tr, .ref be, .ref af, .ref fo, .int (go_b (sl)), .int (go_b (y.2.2.2.2.2.1)), .int (go_b (y.2.2.2.2.2.2)), .int (nI ex)])) :: (so, .inr (4, [.ref va, .ref pa, .ref ne, .ref ol, .int (nI (y.1))])) :: (va, .inl (G.2.1, 2400, .inl y.2.1)) :: (pa, .inl (G.2.1, 400, .inl y.2.2.1)) :: (ne, .inl (G.2.1, 512, .inl y.2.2.2.1)) :: (ol, .inl (G.2.1, 400, .inl y.2.2.2.2.1)) :: (be, .inl (G.2.1, 6, .inl b)) :: rs) [(0, .ref me), (1, .int (nI r))] [.int (go_b (pc_mf (ln r) (F r) b))] 40
      refine go_if_eqB C 66 dX8_expandNext_40 (by decide) (fun c_40 => ?_) (fun c_40 => ?_)
      · refine go_aload_n C dX8_expandNext_66 0 rfl rfl ?_
        refine go_get C (v := .int (go_b (y.2.2.2.2.2.1))) fl_X8_93 dX8_expandNext_67 4 rfl rfl ?_
        refine go_if_neB C 80 dX8_expandNext_70 (by decide) (fun c_70 => ?_) (fun c_70 => ?_)
        · refine go_perm [(ma, .inr (2, [.ref sk, .int (nI h2_1)])), (sk, .inl (G.2.1, 8, .inl st2_1)), (af, .inl (G.2.1, 6, .inl (pc_fA (ln r) (F r) b d1))), (fo, .inl (G.2.1, 6, .inl (pc_fF Bf (ln r) (F r) b e1))), (me, .inr (7, [.ref fi, .ref ak, .ref bl, .ref ru, .ref iv, .ref ma, .ref so, .ref tr, .ref be, .ref af, .ref fo, .int (go_b (sl)), .int (go_b (y.2.2.2.2.2.1)), .int (go_b (y.2.2.2.2.2.2)), .int (nI ex)])), (so, .inr (4, [.ref va, .ref pa, .ref ne, .ref ol, .int (nI (y.1))])), (va, .inl (G.2.1, 2400, .inl y.2.1)), (pa, .inl (G.2.1, 400, .inl y.2.2.1)), (ne, .inl (G.2.1, 512, .inl y.2.2.2.1)), (ol, .inl (G.2.1, 400, .inl y.2.2.2.2.1)), (be, .inl (G.2.1, 6, .inl b))] [(me, .inr (7, [.ref fi, .ref ak, .ref bl, .ref ru, .ref iv, .ref ma, .ref so, .ref tr, .ref be, .ref af, .ref fo, .int (go_b (sl)), .int (go_b (y.2.2.2.2.2.1)), .int (go_b (y.2.2.2.2.2.2)), .int (nI ex)])), (so, .inr (4, [.ref va, .ref pa, .ref ne, .ref ol, .int (nI (y.1))])), (va, .inl (G.2.1, 2400, .inl y.2.1)), (pa, .inl (G.2.1, 400, .inl y.2.2.1)), (ne, .inl (G.2.1, 512, .inl y.2.2.2.1)), (ol, .inl (G.2.1, 400, .inl y.2.2.2.2.1)), (ma, .inr (2, [.ref sk, .int (nI h2_1)])), (sk, .inl (G.2.1, 8, .inl st2_1)), (be, .inl (G.2.1, 6, .inl b)), (af, .inl (G.2.1, 6, .inl (pc_fA (ln r) (F r) b d1))), (fo, .inl (G.2.1, 6, .inl (pc_fF Bf (ln r) (F r) b e1)))] rs [4, 5, 6, 7, 8, 9, 0, 1, 10, 2, 3] rfl rfl rfl ?_
          exact go_vretE C E dX8_expandNext_80 (st2_1, h2_1, b, pc_fA (ln r) (F r) b d1, pc_fF Bf (ln r) (F r) b e1) trivial rfl (by rw [← hZ]; first | (simp [pc_xl, pc_xr, c_25, c_40, c_55, c_70, c_77]; done) | (simp [pc_xl, pc_xr, c_25, c_40, c_55, c_70]; done) | (simp [pc_xl, pc_xr, c_25, c_40, c_70, c_77]; done) | (simp [pc_xl, pc_xr, c_25, c_40, c_70]; done) | (simp [pc_xl, c_25]; done))
        · refine go_aload_n C dX8_expandNext_73 0 rfl rfl ?_
          refine go_get C (v := .int (go_b (y.2.2.2.2.2.2))) fl_X8_96 dX8_expandNext_74 4 rfl rfl ?_
          refine go_if_eqB C 81 dX8_expandNext_77 (by decide) (fun c_77 => ?_) (fun c_77 => ?_)
          · refine go_iinc C (nI (r + 1)) [(0, .ref me), (1, .int (nI (r + 1)))] dX8_expandNext_81 1 [1, 0] rfl (nI_add r 1) (by decide) rfl ?_
            refine go_goto C 17 dX8_expandNext_84 (by decide) ?_
            refine go_perm [(ma, .inr (2, [.ref sk, .int (nI h2_1)])), (sk, .inl (G.2.1, 8, .inl st2_1)), (af, .inl (G.2.1, 6, .inl (pc_fA (ln r) (F r) b d1))), (fo, .inl (G.2.1, 6, .inl (pc_fF Bf (ln r) (F r) b e1))), (me, .inr (7, [.ref fi, .ref ak, .ref bl, .ref ru, .ref iv, .ref ma, .ref so, .ref tr, .ref be, .ref af, .ref fo, .int (go_b (sl)), .int (go_b (y.2.2.2.2.2.1)), .int (go_b (y.2.2.2.2.2.2)), .int (nI ex)])), (so, .inr (4, [.ref va, .ref pa, .ref ne, .ref ol, .int (nI (y.1))])), (va, .inl (G.2.1, 2400, .inl y.2.1)), (pa, .inl (G.2.1, 400, .inl y.2.2.1)), (ne, .inl (G.2.1, 512, .inl y.2.2.2.1)), (ol, .inl (G.2.1, 400, .inl y.2.2.2.2.1)), (be, .inl (G.2.1, 6, .inl b))] [(me, .inr (7, [.ref fi, .ref ak, .ref bl, .ref ru, .ref iv, .ref ma, .ref so, .ref tr, .ref be, .ref af, .ref fo, .int (go_b (sl)), .int (go_b (y.2.2.2.2.2.1)), .int (go_b (y.2.2.2.2.2.2)), .int (nI ex)])), (so, .inr (4, [.ref va, .ref pa, .ref ne, .ref ol, .int (nI (y.1))])), (va, .inl (G.2.1, 2400, .inl y.2.1)), (pa, .inl (G.2.1, 400, .inl y.2.2.1)), (ne, .inl (G.2.1, 512, .inl y.2.2.2.1)), (ol, .inl (G.2.1, 400, .inl y.2.2.2.2.1)), (ma, .inr (2, [.ref sk, .int (nI h2_1)])), (sk, .inl (G.2.1, 8, .inl st2_1)), (be, .inl (G.2.1, 6, .inl b)), (af, .inl (G.2.1, 6, .inl (pc_fA (ln r) (F r) b d1))), (fo, .inl (G.2.1, 6, .inl (pc_fF Bf (ln r) (F r) b e1)))] rs [4, 5, 6, 7, 8, 9, 0, 1, 10, 2, 3] rfl rfl rfl ?_
            exact ih (r + 1) y h2_1 st2_1 (pc_fA (ln r) (F r) b d1) (pc_fF Bf (ln r) (F r) b e1) (by omega) (by omega) (by omega) (by rw [← hZ]; first | (simp [pc_xl, pc_xr, c_25, c_40, c_55, c_70, c_77]; done) | (simp [pc_xl, pc_xr, c_25, c_40, c_70, c_77]; done))
          · refine go_perm [(ma, .inr (2, [.ref sk, .int (nI h2_1)])), (sk, .inl (G.2.1, 8, .inl st2_1)), (af, .inl (G.2.1, 6, .inl (pc_fA (ln r) (F r) b d1))), (fo, .inl (G.2.1, 6, .inl (pc_fF Bf (ln r) (F r) b e1))), (me, .inr (7, [.ref fi, .ref ak, .ref bl, .ref ru, .ref iv, .ref ma, .ref so, .ref tr, .ref be, .ref af, .ref fo, .int (go_b (sl)), .int (go_b (y.2.2.2.2.2.1)), .int (go_b (y.2.2.2.2.2.2)), .int (nI ex)])), (so, .inr (4, [.ref va, .ref pa, .ref ne, .ref ol, .int (nI (y.1))])), (va, .inl (G.2.1, 2400, .inl y.2.1)), (pa, .inl (G.2.1, 400, .inl y.2.2.1)), (ne, .inl (G.2.1, 512, .inl y.2.2.2.1)), (ol, .inl (G.2.1, 400, .inl y.2.2.2.2.1)), (be, .inl (G.2.1, 6, .inl b))] [(me, .inr (7, [.ref fi, .ref ak, .ref bl, .ref ru, .ref iv, .ref ma, .ref so, .ref tr, .ref be, .ref af, .ref fo, .int (go_b (sl)), .int (go_b (y.2.2.2.2.2.1)), .int (go_b (y.2.2.2.2.2.2)), .int (nI ex)])), (so, .inr (4, [.ref va, .ref pa, .ref ne, .ref ol, .int (nI (y.1))])), (va, .inl (G.2.1, 2400, .inl y.2.1)), (pa, .inl (G.2.1, 400, .inl y.2.2.1)), (ne, .inl (G.2.1, 512, .inl y.2.2.2.1)), (ol, .inl (G.2.1, 400, .inl y.2.2.2.2.1)), (ma, .inr (2, [.ref sk, .int (nI h2_1)])), (sk, .inl (G.2.1, 8, .inl st2_1)), (be, .inl (G.2.1, 6, .inl b)), (af, .inl (G.2.1, 6, .inl (pc_fA (ln r) (F r) b d1))), (fo, .inl (G.2.1, 6, .inl (pc_fF Bf (ln r) (F r) b e1)))] rs [4, 5, 6, 7, 8, 9, 0, 1, 10, 2, 3] rfl rfl rfl ?_
            exact go_vretE C E dX8_expandNext_80 (st2_1, h2_1, b, pc_fA (ln r) (F r) b d1, pc_fF Bf (ln r) (F r) b e1) trivial rfl (by rw [← hZ]; first | (simp [pc_xl, pc_xr, c_25, c_40, c_55, c_70, c_77]; done) | (simp [pc_xl, pc_xr, c_25, c_40, c_55, c_70]; done) | (simp [pc_xl, pc_xr, c_25, c_40, c_70, c_77]; done) | (simp [pc_xl, pc_xr, c_25, c_40, c_70]; done) | (simp [pc_xl, c_25]; done))
      · refine go_we ((ma, .inr (2, [.ref sk, .int (nI h2_1)])) :: (sk, .inl (G.2.1, 8, .inl st2_1)) :: (af, .inl (G.2.1, 6, .inl (pc_af (ln r) (F r) b))) :: (fo, .inl (G.2.1, 6, .inl (pc_sf Bf (pc_af (ln r) (F r) b)))) :: (me, .inr (7, [.ref fi, .ref ak, .ref bl, .ref ru, .ref iv, .ref ma, .ref so, .ref tr, .ref be, .ref af, .ref fo, .int (go_b (sl)), .int (go_b (y.2.2.2.2.2.1)), .int (go_b (y.2.2.2.2.2.2)), .int (nI ex)])) :: (so, .inr (4, [.ref va, .ref pa, .ref ne, .ref ol, .int (nI (y.1))])) :: (va, .inl (G.2.1, 2400, .inl y.2.1)) :: (pa, .inl (G.2.1, 400, .inl y.2.2.1)) :: (ne, .inl (G.2.1, 512, .inl y.2.2.2.1)) :: (ol, .inl (G.2.1, 400, .inl y.2.2.2.2.1)) :: (be, .inl (G.2.1, 6, .inl b)) :: rs) (by simp only [pc_fA, pc_fF, if_pos c_40]) ?_
        refine go_aload_n C dX8_expandNext_43 0 rfl rfl ?_
        refine go_get C (v := .ref so) fl_X8_47 dX8_expandNext_44 4 rfl rfl ?_
        refine go_aload_n C dX8_expandNext_47 0 rfl rfl ?_
        refine go_get C (v := .ref fo) fl_X8_64 dX8_expandNext_48 4 rfl rfl ?_
        refine go_cV C (c_X4_find G ((ma, .inr (2, [.ref sk, .int (nI h2_1)])) :: (sk, .inl (G.2.1, 8, .inl st2_1)) :: (af, .inl (G.2.1, 6, .inl (pc_af (ln r) (F r) b))) :: (fo, .inl (G.2.1, 6, .inl (pc_sf Bf (pc_af (ln r) (F r) b)))) :: (me, .inr (7, [.ref fi, .ref ak, .ref bl, .ref ru, .ref iv, .ref ma, .ref so, .ref tr, .ref be, .ref af, .ref fo, .int (go_b (sl)), .int (go_b (y.2.2.2.2.2.1)), .int (go_b (y.2.2.2.2.2.2)), .int (nI ex)])) :: (so, .inr (4, [.ref va, .ref pa, .ref ne, .ref ol, .int (nI (y.1))])) :: (va, .inl (G.2.1, 2400, .inl y.2.1)) :: (pa, .inl (G.2.1, 400, .inl y.2.2.1)) :: (ne, .inl (G.2.1, 512, .inl y.2.2.2.1)) :: (ol, .inl (G.2.1, 400, .inl y.2.2.2.2.1)) :: (be, .inl (G.2.1, 6, .inl b)) :: rs) 5 6 8 9 3 so va pa ne ol y.1 y.2.1 y.2.2.2.1 y.2.2.2.2.1 fo (pc_sf Bf (pc_af (ln r) (F r) b)) rfl rfl rfl rfl rfl (by omega)) ml_X8_188 mc_X4_find dX8_expandNext_51 [] rfl rfl 5 rfl rfl rfl ⟨Nat.le_of_ble_eq_true rfl, Nat.le_of_ble_eq_true rfl, Nat.zero_le _, Nat.zero_le _, Nat.le_of_ble_eq_true rfl⟩ [.int (pc_fdz y (pc_sf Bf (pc_af (ln r) (F r) b)))] rfl ?_
        refine go_iconst C ((-1)) dX8_expandNext_54 (by decide) ?_
        refine go_icmp_ne C 66 dX8_expandNext_55 (by decide) (fun c_55 => ?_) (fun c_55 => ?_)
        · refine go_aload_n C dX8_expandNext_66 0 rfl rfl ?_
          refine go_get C (v := .int (go_b (y.2.2.2.2.2.1))) fl_X8_93 dX8_expandNext_67 4 rfl rfl ?_
          refine go_if_neB C 80 dX8_expandNext_70 (by decide) (fun c_70 => ?_) (fun c_70 => ?_)
          · refine go_perm [(ma, .inr (2, [.ref sk, .int (nI h2_1)])), (sk, .inl (G.2.1, 8, .inl st2_1)), (af, .inl (G.2.1, 6, .inl (pc_af (ln r) (F r) b))), (fo, .inl (G.2.1, 6, .inl (pc_sf Bf (pc_af (ln r) (F r) b)))), (me, .inr (7, [.ref fi, .ref ak, .ref bl, .ref ru, .ref iv, .ref ma, .ref so, .ref tr, .ref be, .ref af, .ref fo, .int (go_b (sl)), .int (go_b (y.2.2.2.2.2.1)), .int (go_b (y.2.2.2.2.2.2)), .int (nI ex)])), (so, .inr (4, [.ref va, .ref pa, .ref ne, .ref ol, .int (nI (y.1))])), (va, .inl (G.2.1, 2400, .inl y.2.1)), (pa, .inl (G.2.1, 400, .inl y.2.2.1)), (ne, .inl (G.2.1, 512, .inl y.2.2.2.1)), (ol, .inl (G.2.1, 400, .inl y.2.2.2.2.1)), (be, .inl (G.2.1, 6, .inl b))] [(me, .inr (7, [.ref fi, .ref ak, .ref bl, .ref ru, .ref iv, .ref ma, .ref so, .ref tr, .ref be, .ref af, .ref fo, .int (go_b (sl)), .int (go_b (y.2.2.2.2.2.1)), .int (go_b (y.2.2.2.2.2.2)), .int (nI ex)])), (so, .inr (4, [.ref va, .ref pa, .ref ne, .ref ol, .int (nI (y.1))])), (va, .inl (G.2.1, 2400, .inl y.2.1)), (pa, .inl (G.2.1, 400, .inl y.2.2.1)), (ne, .inl (G.2.1, 512, .inl y.2.2.2.1)), (ol, .inl (G.2.1, 400, .inl y.2.2.2.2.1)), (ma, .inr (2, [.ref sk, .int (nI h2_1)])), (sk, .inl (G.2.1, 8, .inl st2_1)), (be, .inl (G.2.1, 6, .inl b)), (af, .inl (G.2.1, 6, .inl (pc_af (ln r) (F r) b))), (fo, .inl (G.2.1, 6, .inl (pc_sf Bf (pc_af (ln r) (F r) b))))] rs [4, 5, 6, 7, 8, 9, 0, 1, 10, 2, 3] rfl rfl rfl ?_
            exact go_vretE C E dX8_expandNext_80 (st2_1, h2_1, b, pc_af (ln r) (F r) b, pc_sf Bf (pc_af (ln r) (F r) b)) trivial rfl (by rw [← hZ]; first | (simp [pc_xl, pc_xr, c_25, c_40, c_55, c_70, c_77]; done) | (simp [pc_xl, pc_xr, c_25, c_40, c_55, c_70]; done) | (simp [pc_xl, pc_xr, c_25, c_40, c_70, c_77]; done) | (simp [pc_xl, pc_xr, c_25, c_40, c_70]; done) | (simp [pc_xl, c_25]; done))
          · refine go_aload_n C dX8_expandNext_73 0 rfl rfl ?_
            refine go_get C (v := .int (go_b (y.2.2.2.2.2.2))) fl_X8_96 dX8_expandNext_74 4 rfl rfl ?_
            refine go_if_eqB C 81 dX8_expandNext_77 (by decide) (fun c_77 => ?_) (fun c_77 => ?_)
            · refine go_iinc C (nI (r + 1)) [(0, .ref me), (1, .int (nI (r + 1)))] dX8_expandNext_81 1 [1, 0] rfl (nI_add r 1) (by decide) rfl ?_
              refine go_goto C 17 dX8_expandNext_84 (by decide) ?_
              refine go_perm [(ma, .inr (2, [.ref sk, .int (nI h2_1)])), (sk, .inl (G.2.1, 8, .inl st2_1)), (af, .inl (G.2.1, 6, .inl (pc_af (ln r) (F r) b))), (fo, .inl (G.2.1, 6, .inl (pc_sf Bf (pc_af (ln r) (F r) b)))), (me, .inr (7, [.ref fi, .ref ak, .ref bl, .ref ru, .ref iv, .ref ma, .ref so, .ref tr, .ref be, .ref af, .ref fo, .int (go_b (sl)), .int (go_b (y.2.2.2.2.2.1)), .int (go_b (y.2.2.2.2.2.2)), .int (nI ex)])), (so, .inr (4, [.ref va, .ref pa, .ref ne, .ref ol, .int (nI (y.1))])), (va, .inl (G.2.1, 2400, .inl y.2.1)), (pa, .inl (G.2.1, 400, .inl y.2.2.1)), (ne, .inl (G.2.1, 512, .inl y.2.2.2.1)), (ol, .inl (G.2.1, 400, .inl y.2.2.2.2.1)), (be, .inl (G.2.1, 6, .inl b))] [(me, .inr (7, [.ref fi, .ref ak, .ref bl, .ref ru, .ref iv, .ref ma, .ref so, .ref tr, .ref be, .ref af, .ref fo, .int (go_b (sl)), .int (go_b (y.2.2.2.2.2.1)), .int (go_b (y.2.2.2.2.2.2)), .int (nI ex)])), (so, .inr (4, [.ref va, .ref pa, .ref ne, .ref ol, .int (nI (y.1))])), (va, .inl (G.2.1, 2400, .inl y.2.1)), (pa, .inl (G.2.1, 400, .inl y.2.2.1)), (ne, .inl (G.2.1, 512, .inl y.2.2.2.1)), (ol, .inl (G.2.1, 400, .inl y.2.2.2.2.1)), (ma, .inr (2, [.ref sk, .int (nI h2_1)])), (sk, .inl (G.2.1, 8, .inl st2_1)), (be, .inl (G.2.1, 6, .inl b)), (af, .inl (G.2.1, 6, .inl (pc_af (ln r) (F r) b))), (fo, .inl (G.2.1, 6, .inl (pc_sf Bf (pc_af (ln r) (F r) b))))] rs [4, 5, 6, 7, 8, 9, 0, 1, 10, 2, 3] rfl rfl rfl ?_
              exact ih (r + 1) y h2_1 st2_1 (pc_af (ln r) (F r) b) (pc_sf Bf (pc_af (ln r) (F r) b)) (by omega) (by omega) (by omega) (by rw [← hZ]; first | (simp [pc_xl, pc_xr, c_25, c_40, c_55, c_70, c_77]; done) | (simp [pc_xl, pc_xr, c_25, c_40, c_70, c_77]; done))
            · refine go_perm [(ma, .inr (2, [.ref sk, .int (nI h2_1)])), (sk, .inl (G.2.1, 8, .inl st2_1)), (af, .inl (G.2.1, 6, .inl (pc_af (ln r) (F r) b))), (fo, .inl (G.2.1, 6, .inl (pc_sf Bf (pc_af (ln r) (F r) b)))), (me, .inr (7, [.ref fi, .ref ak, .ref bl, .ref ru, .ref iv, .ref ma, .ref so, .ref tr, .ref be, .ref af, .ref fo, .int (go_b (sl)), .int (go_b (y.2.2.2.2.2.1)), .int (go_b (y.2.2.2.2.2.2)), .int (nI ex)])), (so, .inr (4, [.ref va, .ref pa, .ref ne, .ref ol, .int (nI (y.1))])), (va, .inl (G.2.1, 2400, .inl y.2.1)), (pa, .inl (G.2.1, 400, .inl y.2.2.1)), (ne, .inl (G.2.1, 512, .inl y.2.2.2.1)), (ol, .inl (G.2.1, 400, .inl y.2.2.2.2.1)), (be, .inl (G.2.1, 6, .inl b))] [(me, .inr (7, [.ref fi, .ref ak, .ref bl, .ref ru, .ref iv, .ref ma, .ref so, .ref tr, .ref be, .ref af, .ref fo, .int (go_b (sl)), .int (go_b (y.2.2.2.2.2.1)), .int (go_b (y.2.2.2.2.2.2)), .int (nI ex)])), (so, .inr (4, [.ref va, .ref pa, .ref ne, .ref ol, .int (nI (y.1))])), (va, .inl (G.2.1, 2400, .inl y.2.1)), (pa, .inl (G.2.1, 400, .inl y.2.2.1)), (ne, .inl (G.2.1, 512, .inl y.2.2.2.1)), (ol, .inl (G.2.1, 400, .inl y.2.2.2.2.1)), (ma, .inr (2, [.ref sk, .int (nI h2_1)])), (sk, .inl (G.2.1, 8, .inl st2_1)), (be, .inl (G.2.1, 6, .inl b)), (af, .inl (G.2.1, 6, .inl (pc_af (ln r) (F r) b))), (fo, .inl (G.2.1, 6, .inl (pc_sf Bf (pc_af (ln r) (F r) b))))] rs [4, 5, 6, 7, 8, 9, 0, 1, 10, 2, 3] rfl rfl rfl ?_
              exact go_vretE C E dX8_expandNext_80 (st2_1, h2_1, b, pc_af (ln r) (F r) b, pc_sf Bf (pc_af (ln r) (F r) b)) trivial rfl (by rw [← hZ]; first | (simp [pc_xl, pc_xr, c_25, c_40, c_55, c_70, c_77]; done) | (simp [pc_xl, pc_xr, c_25, c_40, c_55, c_70]; done) | (simp [pc_xl, pc_xr, c_25, c_40, c_70, c_77]; done) | (simp [pc_xl, pc_xr, c_25, c_40, c_70]; done) | (simp [pc_xl, c_25]; done))
        · refine go_aload_n C dX8_expandNext_58 0 rfl rfl ?_
          refine go_aload_n C dX8_expandNext_59 0 rfl rfl ?_
          refine go_get C (v := .int (nI ex)) fl_X8_99 dX8_expandNext_60 4 rfl rfl ?_
          refine go_perm [(ma, .inr (2, [.ref sk, .int (nI h2_1)])), (sk, .inl (G.2.1, 8, .inl st2_1)), (af, .inl (G.2.1, 6, .inl (pc_af (ln r) (F r) b))), (fo, .inl (G.2.1, 6, .inl (pc_sf Bf (pc_af (ln r) (F r) b)))), (me, .inr (7, [.ref fi, .ref ak, .ref bl, .ref ru, .ref iv, .ref ma, .ref so, .ref tr, .ref be, .ref af, .ref fo, .int (go_b (sl)), .int (go_b (y.2.2.2.2.2.1)), .int (go_b (y.2.2.2.2.2.2)), .int (nI ex)])), (so, .inr (4, [.ref va, .ref pa, .ref ne, .ref ol, .int (nI (y.1))])), (va, .inl (G.2.1, 2400, .inl y.2.1)), (pa, .inl (G.2.1, 400, .inl y.2.2.1)), (ne, .inl (G.2.1, 512, .inl y.2.2.2.1)), (ol, .inl (G.2.1, 400, .inl y.2.2.2.2.1)), (be, .inl (G.2.1, 6, .inl b))] [(me, .inr (7, [.ref fi, .ref ak, .ref bl, .ref ru, .ref iv, .ref ma, .ref so, .ref tr, .ref be, .ref af, .ref fo, .int (go_b (sl)), .int (go_b (y.2.2.2.2.2.1)), .int (go_b (y.2.2.2.2.2.2)), .int (nI ex)])), (so, .inr (4, [.ref va, .ref pa, .ref ne, .ref ol, .int (nI (y.1))])), (va, .inl (G.2.1, 2400, .inl y.2.1)), (pa, .inl (G.2.1, 400, .inl y.2.2.1)), (ne, .inl (G.2.1, 512, .inl y.2.2.2.1)), (ol, .inl (G.2.1, 400, .inl y.2.2.2.2.1)), (ma, .inr (2, [.ref sk, .int (nI h2_1)])), (sk, .inl (G.2.1, 8, .inl st2_1)), (af, .inl (G.2.1, 6, .inl (pc_af (ln r) (F r) b))), (fo, .inl (G.2.1, 6, .inl (pc_sf Bf (pc_af (ln r) (F r) b)))), (be, .inl (G.2.1, 6, .inl b))] rs [4, 5, 6, 7, 8, 9, 0, 1, 2, 3, 10] rfl rfl rfl ?_
          refine go_cVe C (c_X8_storeForm G ((af, .inl (G.2.1, 6, .inl (pc_af (ln r) (F r) b))) :: (fo, .inl (G.2.1, 6, .inl (pc_sf Bf (pc_af (ln r) (F r) b)))) :: (be, .inl (G.2.1, 6, .inl b)) :: rs) (p4 + 3) (p5 + 3) (p6 + 3) 1 me fi ak bl ru iv ma so tr be af fo sl ex va pa ne ol y sk h2_1 st2_1 ia iw il If (pc_sf Bf (pc_af (ln r) (F r) b)) (nI ex) hp4 hp5 hp6 rfl hc2 (by omega) (by omega)) ml_X8_147 mc_X8_storeForm dX8_expandNext_63 [] rfl (fun _ => rfl) 0 rfl rfl rfl ⟨Nat.le_of_ble_eq_true rfl, Nat.le_of_ble_eq_true rfl, Nat.zero_le _, Nat.zero_le _, Nat.le_of_ble_eq_true rfl⟩ (fun u hu_2 => ?_)
          obtain ⟨st2_2, h2_2⟩ := u
          show go_Go X (0, 0) ((me, .inr (7, [.ref fi, .ref ak, .ref bl, .ref ru, .ref iv, .ref ma, .ref so, .ref tr, .ref be, .ref af, .ref fo, .int (go_b (sl)), .int (go_b ((pc_sto il If y (pc_sf Bf (pc_af (ln r) (F r) b)) (nI ex)).2.2.2.2.2.1)), .int (go_b ((pc_sto il If y (pc_sf Bf (pc_af (ln r) (F r) b)) (nI ex)).2.2.2.2.2.2)), .int (nI ex)])) :: (so, .inr (4, [.ref va, .ref pa, .ref ne, .ref ol, .int (nI ((pc_sto il If y (pc_sf Bf (pc_af (ln r) (F r) b)) (nI ex)).1))])) :: (va, .inl (G.2.1, 2400, .inl ((pc_sto il If y (pc_sf Bf (pc_af (ln r) (F r) b)) (nI ex)).2.1))) :: (pa, .inl (G.2.1, 400, .inl ((pc_sto il If y (pc_sf Bf (pc_af (ln r) (F r) b)) (nI ex)).2.2.1))) :: (ne, .inl (G.2.1, 512, .inl ((pc_sto il If y (pc_sf Bf (pc_af (ln r) (F r) b)) (nI ex)).2.2.2.1))) :: (ol, .inl (G.2.1, 400, .inl ((pc_sto il If y (pc_sf Bf (pc_af (ln r) (F r) b)) (nI ex)).2.2.2.2.1))) :: (ma, .inr (2, [.ref sk, .int (nI h2_2)])) :: (sk, .inl (G.2.1, 8, .inl st2_2)) :: (af, .inl (G.2.1, 6, .inl (pc_af (ln r) (F r) b))) :: (fo, .inl (G.2.1, 6, .inl (pc_sf Bf (pc_af (ln r) (F r) b)))) :: (be, .inl (G.2.1, 6, .inl b)) :: rs) [(0, .ref me), (1, .int (nI r))] [] 66
          refine go_aload_n C dX8_expandNext_66 0 rfl rfl ?_
          refine go_get C (v := .int (go_b ((pc_sto il If y (pc_sf Bf (pc_af (ln r) (F r) b)) (nI ex)).2.2.2.2.2.1))) fl_X8_93 dX8_expandNext_67 0 rfl rfl ?_
          refine go_if_neB C 80 dX8_expandNext_70 (by decide) (fun c_70 => ?_) (fun c_70 => ?_)
          · refine go_perm [(me, .inr (7, [.ref fi, .ref ak, .ref bl, .ref ru, .ref iv, .ref ma, .ref so, .ref tr, .ref be, .ref af, .ref fo, .int (go_b (sl)), .int (go_b ((pc_sto il If y (pc_sf Bf (pc_af (ln r) (F r) b)) (nI ex)).2.2.2.2.2.1)), .int (go_b ((pc_sto il If y (pc_sf Bf (pc_af (ln r) (F r) b)) (nI ex)).2.2.2.2.2.2)), .int (nI ex)])), (so, .inr (4, [.ref va, .ref pa, .ref ne, .ref ol, .int (nI ((pc_sto il If y (pc_sf Bf (pc_af (ln r) (F r) b)) (nI ex)).1))])), (va, .inl (G.2.1, 2400, .inl ((pc_sto il If y (pc_sf Bf (pc_af (ln r) (F r) b)) (nI ex)).2.1))), (pa, .inl (G.2.1, 400, .inl ((pc_sto il If y (pc_sf Bf (pc_af (ln r) (F r) b)) (nI ex)).2.2.1))), (ne, .inl (G.2.1, 512, .inl ((pc_sto il If y (pc_sf Bf (pc_af (ln r) (F r) b)) (nI ex)).2.2.2.1))), (ol, .inl (G.2.1, 400, .inl ((pc_sto il If y (pc_sf Bf (pc_af (ln r) (F r) b)) (nI ex)).2.2.2.2.1))), (ma, .inr (2, [.ref sk, .int (nI h2_2)])), (sk, .inl (G.2.1, 8, .inl st2_2)), (af, .inl (G.2.1, 6, .inl (pc_af (ln r) (F r) b))), (fo, .inl (G.2.1, 6, .inl (pc_sf Bf (pc_af (ln r) (F r) b)))), (be, .inl (G.2.1, 6, .inl b))] [(me, .inr (7, [.ref fi, .ref ak, .ref bl, .ref ru, .ref iv, .ref ma, .ref so, .ref tr, .ref be, .ref af, .ref fo, .int (go_b (sl)), .int (go_b ((pc_sto il If y (pc_sf Bf (pc_af (ln r) (F r) b)) (nI ex)).2.2.2.2.2.1)), .int (go_b ((pc_sto il If y (pc_sf Bf (pc_af (ln r) (F r) b)) (nI ex)).2.2.2.2.2.2)), .int (nI ex)])), (so, .inr (4, [.ref va, .ref pa, .ref ne, .ref ol, .int (nI ((pc_sto il If y (pc_sf Bf (pc_af (ln r) (F r) b)) (nI ex)).1))])), (va, .inl (G.2.1, 2400, .inl ((pc_sto il If y (pc_sf Bf (pc_af (ln r) (F r) b)) (nI ex)).2.1))), (pa, .inl (G.2.1, 400, .inl ((pc_sto il If y (pc_sf Bf (pc_af (ln r) (F r) b)) (nI ex)).2.2.1))), (ne, .inl (G.2.1, 512, .inl ((pc_sto il If y (pc_sf Bf (pc_af (ln r) (F r) b)) (nI ex)).2.2.2.1))), (ol, .inl (G.2.1, 400, .inl ((pc_sto il If y (pc_sf Bf (pc_af (ln r) (F r) b)) (nI ex)).2.2.2.2.1))), (ma, .inr (2, [.ref sk, .int (nI h2_2)])), (sk, .inl (G.2.1, 8, .inl st2_2)), (be, .inl (G.2.1, 6, .inl b)), (af, .inl (G.2.1, 6, .inl (pc_af (ln r) (F r) b))), (fo, .inl (G.2.1, 6, .inl (pc_sf Bf (pc_af (ln r) (F r) b))))] rs [0, 1, 2, 3, 4, 5, 6, 7, 10, 8, 9] rfl rfl rfl ?_
            exact go_vretE C E dX8_expandNext_80 (st2_2, h2_2, b, pc_af (ln r) (F r) b, pc_sf Bf (pc_af (ln r) (F r) b)) trivial rfl (by rw [← hZ]; first | (simp [pc_xl, pc_xr, c_25, c_40, c_55, c_70, c_77]; done) | (simp [pc_xl, pc_xr, c_25, c_40, c_55, c_70]; done) | (simp [pc_xl, pc_xr, c_25, c_40, c_70, c_77]; done) | (simp [pc_xl, pc_xr, c_25, c_40, c_70]; done) | (simp [pc_xl, c_25]; done))
          · refine go_aload_n C dX8_expandNext_73 0 rfl rfl ?_
            refine go_get C (v := .int (go_b ((pc_sto il If y (pc_sf Bf (pc_af (ln r) (F r) b)) (nI ex)).2.2.2.2.2.2))) fl_X8_96 dX8_expandNext_74 0 rfl rfl ?_
            refine go_if_eqB C 81 dX8_expandNext_77 (by decide) (fun c_77 => ?_) (fun c_77 => ?_)
            · refine go_iinc C (nI (r + 1)) [(0, .ref me), (1, .int (nI (r + 1)))] dX8_expandNext_81 1 [1, 0] rfl (nI_add r 1) (by decide) rfl ?_
              refine go_goto C 17 dX8_expandNext_84 (by decide) ?_
              refine go_perm [(me, .inr (7, [.ref fi, .ref ak, .ref bl, .ref ru, .ref iv, .ref ma, .ref so, .ref tr, .ref be, .ref af, .ref fo, .int (go_b (sl)), .int (go_b ((pc_sto il If y (pc_sf Bf (pc_af (ln r) (F r) b)) (nI ex)).2.2.2.2.2.1)), .int (go_b ((pc_sto il If y (pc_sf Bf (pc_af (ln r) (F r) b)) (nI ex)).2.2.2.2.2.2)), .int (nI ex)])), (so, .inr (4, [.ref va, .ref pa, .ref ne, .ref ol, .int (nI ((pc_sto il If y (pc_sf Bf (pc_af (ln r) (F r) b)) (nI ex)).1))])), (va, .inl (G.2.1, 2400, .inl ((pc_sto il If y (pc_sf Bf (pc_af (ln r) (F r) b)) (nI ex)).2.1))), (pa, .inl (G.2.1, 400, .inl ((pc_sto il If y (pc_sf Bf (pc_af (ln r) (F r) b)) (nI ex)).2.2.1))), (ne, .inl (G.2.1, 512, .inl ((pc_sto il If y (pc_sf Bf (pc_af (ln r) (F r) b)) (nI ex)).2.2.2.1))), (ol, .inl (G.2.1, 400, .inl ((pc_sto il If y (pc_sf Bf (pc_af (ln r) (F r) b)) (nI ex)).2.2.2.2.1))), (ma, .inr (2, [.ref sk, .int (nI h2_2)])), (sk, .inl (G.2.1, 8, .inl st2_2)), (af, .inl (G.2.1, 6, .inl (pc_af (ln r) (F r) b))), (fo, .inl (G.2.1, 6, .inl (pc_sf Bf (pc_af (ln r) (F r) b)))), (be, .inl (G.2.1, 6, .inl b))] [(me, .inr (7, [.ref fi, .ref ak, .ref bl, .ref ru, .ref iv, .ref ma, .ref so, .ref tr, .ref be, .ref af, .ref fo, .int (go_b (sl)), .int (go_b ((pc_sto il If y (pc_sf Bf (pc_af (ln r) (F r) b)) (nI ex)).2.2.2.2.2.1)), .int (go_b ((pc_sto il If y (pc_sf Bf (pc_af (ln r) (F r) b)) (nI ex)).2.2.2.2.2.2)), .int (nI ex)])), (so, .inr (4, [.ref va, .ref pa, .ref ne, .ref ol, .int (nI ((pc_sto il If y (pc_sf Bf (pc_af (ln r) (F r) b)) (nI ex)).1))])), (va, .inl (G.2.1, 2400, .inl ((pc_sto il If y (pc_sf Bf (pc_af (ln r) (F r) b)) (nI ex)).2.1))), (pa, .inl (G.2.1, 400, .inl ((pc_sto il If y (pc_sf Bf (pc_af (ln r) (F r) b)) (nI ex)).2.2.1))), (ne, .inl (G.2.1, 512, .inl ((pc_sto il If y (pc_sf Bf (pc_af (ln r) (F r) b)) (nI ex)).2.2.2.1))), (ol, .inl (G.2.1, 400, .inl ((pc_sto il If y (pc_sf Bf (pc_af (ln r) (F r) b)) (nI ex)).2.2.2.2.1))), (ma, .inr (2, [.ref sk, .int (nI h2_2)])), (sk, .inl (G.2.1, 8, .inl st2_2)), (be, .inl (G.2.1, 6, .inl b)), (af, .inl (G.2.1, 6, .inl (pc_af (ln r) (F r) b))), (fo, .inl (G.2.1, 6, .inl (pc_sf Bf (pc_af (ln r) (F r) b))))] rs [0, 1, 2, 3, 4, 5, 6, 7, 10, 8, 9] rfl rfl rfl ?_
              exact ih (r + 1) (pc_sto il If y (pc_sf Bf (pc_af (ln r) (F r) b)) (nI ex)) h2_2 st2_2 (pc_af (ln r) (F r) b) (pc_sf Bf (pc_af (ln r) (F r) b)) (by omega) (by omega) (pc_sto_le hc2) (by rw [← hZ]; first | (simp [pc_xl, pc_xr, c_25, c_40, c_55, c_70, c_77]; done) | (simp [pc_xl, pc_xr, c_25, c_40, c_70, c_77]; done))
            · refine go_perm [(me, .inr (7, [.ref fi, .ref ak, .ref bl, .ref ru, .ref iv, .ref ma, .ref so, .ref tr, .ref be, .ref af, .ref fo, .int (go_b (sl)), .int (go_b ((pc_sto il If y (pc_sf Bf (pc_af (ln r) (F r) b)) (nI ex)).2.2.2.2.2.1)), .int (go_b ((pc_sto il If y (pc_sf Bf (pc_af (ln r) (F r) b)) (nI ex)).2.2.2.2.2.2)), .int (nI ex)])), (so, .inr (4, [.ref va, .ref pa, .ref ne, .ref ol, .int (nI ((pc_sto il If y (pc_sf Bf (pc_af (ln r) (F r) b)) (nI ex)).1))])), (va, .inl (G.2.1, 2400, .inl ((pc_sto il If y (pc_sf Bf (pc_af (ln r) (F r) b)) (nI ex)).2.1))), (pa, .inl (G.2.1, 400, .inl ((pc_sto il If y (pc_sf Bf (pc_af (ln r) (F r) b)) (nI ex)).2.2.1))), (ne, .inl (G.2.1, 512, .inl ((pc_sto il If y (pc_sf Bf (pc_af (ln r) (F r) b)) (nI ex)).2.2.2.1))), (ol, .inl (G.2.1, 400, .inl ((pc_sto il If y (pc_sf Bf (pc_af (ln r) (F r) b)) (nI ex)).2.2.2.2.1))), (ma, .inr (2, [.ref sk, .int (nI h2_2)])), (sk, .inl (G.2.1, 8, .inl st2_2)), (af, .inl (G.2.1, 6, .inl (pc_af (ln r) (F r) b))), (fo, .inl (G.2.1, 6, .inl (pc_sf Bf (pc_af (ln r) (F r) b)))), (be, .inl (G.2.1, 6, .inl b))] [(me, .inr (7, [.ref fi, .ref ak, .ref bl, .ref ru, .ref iv, .ref ma, .ref so, .ref tr, .ref be, .ref af, .ref fo, .int (go_b (sl)), .int (go_b ((pc_sto il If y (pc_sf Bf (pc_af (ln r) (F r) b)) (nI ex)).2.2.2.2.2.1)), .int (go_b ((pc_sto il If y (pc_sf Bf (pc_af (ln r) (F r) b)) (nI ex)).2.2.2.2.2.2)), .int (nI ex)])), (so, .inr (4, [.ref va, .ref pa, .ref ne, .ref ol, .int (nI ((pc_sto il If y (pc_sf Bf (pc_af (ln r) (F r) b)) (nI ex)).1))])), (va, .inl (G.2.1, 2400, .inl ((pc_sto il If y (pc_sf Bf (pc_af (ln r) (F r) b)) (nI ex)).2.1))), (pa, .inl (G.2.1, 400, .inl ((pc_sto il If y (pc_sf Bf (pc_af (ln r) (F r) b)) (nI ex)).2.2.1))), (ne, .inl (G.2.1, 512, .inl ((pc_sto il If y (pc_sf Bf (pc_af (ln r) (F r) b)) (nI ex)).2.2.2.1))), (ol, .inl (G.2.1, 400, .inl ((pc_sto il If y (pc_sf Bf (pc_af (ln r) (F r) b)) (nI ex)).2.2.2.2.1))), (ma, .inr (2, [.ref sk, .int (nI h2_2)])), (sk, .inl (G.2.1, 8, .inl st2_2)), (be, .inl (G.2.1, 6, .inl b)), (af, .inl (G.2.1, 6, .inl (pc_af (ln r) (F r) b))), (fo, .inl (G.2.1, 6, .inl (pc_sf Bf (pc_af (ln r) (F r) b))))] rs [0, 1, 2, 3, 4, 5, 6, 7, 10, 8, 9] rfl rfl rfl ?_
              exact go_vretE C E dX8_expandNext_80 (st2_2, h2_2, b, pc_af (ln r) (F r) b, pc_sf Bf (pc_af (ln r) (F r) b)) trivial rfl (by rw [← hZ]; first | (simp [pc_xl, pc_xr, c_25, c_40, c_55, c_70, c_77]; done) | (simp [pc_xl, pc_xr, c_25, c_40, c_55, c_70]; done) | (simp [pc_xl, pc_xr, c_25, c_40, c_70, c_77]; done) | (simp [pc_xl, pc_xr, c_25, c_40, c_70]; done) | (simp [pc_xl, c_25]; done))
set_option maxHeartbeats 4000000 in
set_option maxRecDepth 100000 in
theorem c_X8_expandNext (G : go_G) (rs : va_W) (p0 : Nat) (p1 : Nat) (p2 : Nat) (p3 : Nat) (p4 : Nat) (p5 : Nat) (p6 : Nat) (me : Nat) (fi : Nat) (ak : Nat) (bl : Nat) (ru : Nat) (iv : Nat) (ma : Nat) (so : Nat) (tr : Nat) (be : Nat) (af : Nat) (fo : Nat) (sl : Bool) (ex : Nat) (va : Nat) (pa : Nat) (ne : Nat) (ol : Nat) (z : pc_Z) (sk : Nat) (h : Nat) (st : Nat → Int32) (nb : Nat) (Bf : Nat → Int32) (rows : Nat) (nth : Nat) (nr : Nat) (ra : Nat → Nat) (wa : Nat → Nat) (ln : Nat → Nat) (F : Nat → Nat → Int32) (pr : Nat → Nat) (pw : Nat → Nat) (ia : Nat) (iw : Nat) (il : Nat) (If : Nat → Int32) (g0 : Nat → Int32) (d : Nat → Int32) (e : Nat → Int32) (hp0 : rs[p0]? = some (bl, .inr (0, [.ref nb]))) (hp1 : rs[p1]? = some (nb, .inl (G.2.1, 6, .inl Bf))) (hp2 : rs[p2]? = some (ru, .inr (3, [.ref rows, .ref nth, .int (nI nr)]))) (hp3 : rs[p3]? = some (rows, .inl (G.2.2, 12, .inr (.inr (.inr (.inr (fun r => some (ra r)))))))) (hp4 : rs[p4]? = some (iv, .inr (1, [.ref ia]))) (hp5 : rs[p5]? = some (ia, .inr (6, [.ref iw, .int (nI il)]))) (hp6 : rs[p6]? = some (iw, .inl (G.2.1, 32, .inl If))) (hrow : ∀ r, r < 12 → rs[pr r]? = some (ra r, .inr (6, [.ref (wa r), .int (nI (ln r))]))) (hwd : ∀ r, r < 12 → rs[pw r]? = some (wa r, .inl (G.2.1, 32, .inl (F r)))) (hln : ∀ r, r < 12 → ln r ≤ 32) (hnr : nr ≤ 12) (hRK : ∀ r, r < nr → pc_RK (ln r) (F r)) (hIK : pc_IK il If) (hil : il ≤ 32) (hc : z.1 ≤ 400) (hex : ex < z.1) : go_Fe yX8_expandNext cX8_expandNext 2 none 5 120 G [.ref me] ((me, .inr (7, [.ref fi, .ref ak, .ref bl, .ref ru, .ref iv, .ref ma, .ref so, .ref tr, .ref be, .ref af, .ref fo, .int (go_b (sl)), .int (go_b (z.2.2.2.2.2.1)), .int (go_b (z.2.2.2.2.2.2)), .int (nI ex)])) :: (so, .inr (4, [.ref va, .ref pa, .ref ne, .ref ol, .int (nI (z.1))])) :: (va, .inl (G.2.1, 2400, .inl z.2.1)) :: (pa, .inl (G.2.1, 400, .inl z.2.2.1)) :: (ne, .inl (G.2.1, 512, .inl z.2.2.2.1)) :: (ol, .inl (G.2.1, 400, .inl z.2.2.2.2.1)) :: (ma, .inr (2, [.ref sk, .int (nI h)])) :: (sk, .inl (G.2.1, 8, .inl st)) :: (be, .inl (G.2.1, 6, .inl g0)) :: (af, .inl (G.2.1, 6, .inl d)) :: (fo, .inl (G.2.1, 6, .inl e)) :: rs) (S := (Nat → Int32) × Nat × (Nat → Int32) × (Nat → Int32) × (Nat → Int32)) (fun u => True) (fun u => none) (fun u => (me, .inr (7, [.ref fi, .ref ak, .ref bl, .ref ru, .ref iv, .ref ma, .ref so, .ref tr, .ref be, .ref af, .ref fo, .int (go_b (sl)), .int (go_b (((pc_xp nr ln F Bf il If ex z).1).2.2.2.2.2.1)), .int (go_b (((pc_xp nr ln F Bf il If ex z).1).2.2.2.2.2.2)), .int (nI ((pc_xp nr ln F Bf il If ex z).2))])) :: (so, .inr (4, [.ref va, .ref pa, .ref ne, .ref ol, .int (nI (((pc_xp nr ln F Bf il If ex z).1).1))])) :: (va, .inl (G.2.1, 2400, .inl (((pc_xp nr ln F Bf il If ex z).1).2.1))) :: (pa, .inl (G.2.1, 400, .inl (((pc_xp nr ln F Bf il If ex z).1).2.2.1))) :: (ne, .inl (G.2.1, 512, .inl (((pc_xp nr ln F Bf il If ex z).1).2.2.2.1))) :: (ol, .inl (G.2.1, 400, .inl (((pc_xp nr ln F Bf il If ex z).1).2.2.2.2.1))) :: (ma, .inr (2, [.ref sk, .int (nI (u.2.1))])) :: (sk, .inl (G.2.1, 8, .inl u.1)) :: (be, .inl (G.2.1, 6, .inl u.2.2.1)) :: (af, .inl (G.2.1, 6, .inl u.2.2.2.1)) :: (fo, .inl (G.2.1, 6, .inl u.2.2.2.2)) :: rs) := by
  refine go_Fe_of (by decide) (Nat.le_of_ble_eq_true rfl) (fun X C E => ?_)
  show go_Go X (0, 0) ((me, .inr (7, [.ref fi, .ref ak, .ref bl, .ref ru, .ref iv, .ref ma, .ref so, .ref tr, .ref be, .ref af, .ref fo, .int (go_b (sl)), .int (go_b (z.2.2.2.2.2.1)), .int (go_b (z.2.2.2.2.2.2)), .int (nI ex)])) :: (so, .inr (4, [.ref va, .ref pa, .ref ne, .ref ol, .int (nI (z.1))])) :: (va, .inl (G.2.1, 2400, .inl z.2.1)) :: (pa, .inl (G.2.1, 400, .inl z.2.2.1)) :: (ne, .inl (G.2.1, 512, .inl z.2.2.2.1)) :: (ol, .inl (G.2.1, 400, .inl z.2.2.2.2.1)) :: (ma, .inr (2, [.ref sk, .int (nI h)])) :: (sk, .inl (G.2.1, 8, .inl st)) :: (be, .inl (G.2.1, 6, .inl g0)) :: (af, .inl (G.2.1, 6, .inl d)) :: (fo, .inl (G.2.1, 6, .inl e)) :: rs) [(0, .ref me)] [] 0
  refine go_aload_n C dX8_expandNext_0 0 rfl rfl ?_
  refine go_get C (v := .ref so) fl_X8_47 dX8_expandNext_1 0 rfl rfl ?_
  refine go_aload_n C dX8_expandNext_4 0 rfl rfl ?_
  refine go_get C (v := .int (nI ex)) fl_X8_99 dX8_expandNext_5 0 rfl rfl ?_
  refine go_aload_n C dX8_expandNext_8 0 rfl rfl ?_
  refine go_get C (v := .ref be) fl_X8_58 dX8_expandNext_9 0 rfl rfl ?_
  refine go_perm [(me, .inr (7, [.ref fi, .ref ak, .ref bl, .ref ru, .ref iv, .ref ma, .ref so, .ref tr, .ref be, .ref af, .ref fo, .int (go_b (sl)), .int (go_b (z.2.2.2.2.2.1)), .int (go_b (z.2.2.2.2.2.2)), .int (nI ex)])), (so, .inr (4, [.ref va, .ref pa, .ref ne, .ref ol, .int (nI (z.1))])), (va, .inl (G.2.1, 2400, .inl z.2.1)), (pa, .inl (G.2.1, 400, .inl z.2.2.1)), (ne, .inl (G.2.1, 512, .inl z.2.2.2.1)), (ol, .inl (G.2.1, 400, .inl z.2.2.2.2.1)), (ma, .inr (2, [.ref sk, .int (nI h)])), (sk, .inl (G.2.1, 8, .inl st)), (be, .inl (G.2.1, 6, .inl g0)), (af, .inl (G.2.1, 6, .inl d)), (fo, .inl (G.2.1, 6, .inl e))] [(be, .inl (G.2.1, 6, .inl g0)), (me, .inr (7, [.ref fi, .ref ak, .ref bl, .ref ru, .ref iv, .ref ma, .ref so, .ref tr, .ref be, .ref af, .ref fo, .int (go_b (sl)), .int (go_b (z.2.2.2.2.2.1)), .int (go_b (z.2.2.2.2.2.2)), .int (nI ex)])), (so, .inr (4, [.ref va, .ref pa, .ref ne, .ref ol, .int (nI (z.1))])), (va, .inl (G.2.1, 2400, .inl z.2.1)), (pa, .inl (G.2.1, 400, .inl z.2.2.1)), (ne, .inl (G.2.1, 512, .inl z.2.2.2.1)), (ol, .inl (G.2.1, 400, .inl z.2.2.2.2.1)), (ma, .inr (2, [.ref sk, .int (nI h)])), (sk, .inl (G.2.1, 8, .inl st)), (af, .inl (G.2.1, 6, .inl d)), (fo, .inl (G.2.1, 6, .inl e))] rs [8, 0, 1, 2, 3, 4, 5, 6, 7, 9, 10] rfl rfl rfl ?_
  refine go_cV C (c_X4_copyOut G ((me, .inr (7, [.ref fi, .ref ak, .ref bl, .ref ru, .ref iv, .ref ma, .ref so, .ref tr, .ref be, .ref af, .ref fo, .int (go_b (sl)), .int (go_b (z.2.2.2.2.2.1)), .int (go_b (z.2.2.2.2.2.2)), .int (nI ex)])) :: (so, .inr (4, [.ref va, .ref pa, .ref ne, .ref ol, .int (nI (z.1))])) :: (va, .inl (G.2.1, 2400, .inl z.2.1)) :: (pa, .inl (G.2.1, 400, .inl z.2.2.1)) :: (ne, .inl (G.2.1, 512, .inl z.2.2.2.1)) :: (ol, .inl (G.2.1, 400, .inl z.2.2.2.2.1)) :: (ma, .inr (2, [.ref sk, .int (nI h)])) :: (sk, .inl (G.2.1, 8, .inl st)) :: (af, .inl (G.2.1, 6, .inl d)) :: (fo, .inl (G.2.1, 6, .inl e)) :: rs) 1 2 so va pa ne ol z.1 z.2.1 ex be g0 rfl rfl (by omega) (by omega)) ml_X8_217 mc_X4_copyOut dX8_expandNext_12 [] rfl rfl 2 rfl rfl rfl ⟨Nat.le_of_ble_eq_true rfl, Nat.le_of_ble_eq_true rfl, Nat.zero_le _, Nat.zero_le _, Nat.le_of_ble_eq_true rfl⟩ [] rfl ?_
  refine go_iconst C (0) dX8_expandNext_15 (by decide) ?_
  refine go_istore_n C [(0, .ref me), (1, .int 0)] dX8_expandNext_16 [1, 0] rfl (by decide) rfl ?_
  refine go_perm [(be, .inl (G.2.1, 6, .inl (pc_stt z.2.1 ex))), (me, .inr (7, [.ref fi, .ref ak, .ref bl, .ref ru, .ref iv, .ref ma, .ref so, .ref tr, .ref be, .ref af, .ref fo, .int (go_b (sl)), .int (go_b (z.2.2.2.2.2.1)), .int (go_b (z.2.2.2.2.2.2)), .int (nI ex)])), (so, .inr (4, [.ref va, .ref pa, .ref ne, .ref ol, .int (nI (z.1))])), (va, .inl (G.2.1, 2400, .inl z.2.1)), (pa, .inl (G.2.1, 400, .inl z.2.2.1)), (ne, .inl (G.2.1, 512, .inl z.2.2.2.1)), (ol, .inl (G.2.1, 400, .inl z.2.2.2.2.1)), (ma, .inr (2, [.ref sk, .int (nI h)])), (sk, .inl (G.2.1, 8, .inl st)), (af, .inl (G.2.1, 6, .inl d)), (fo, .inl (G.2.1, 6, .inl e))] [(me, .inr (7, [.ref fi, .ref ak, .ref bl, .ref ru, .ref iv, .ref ma, .ref so, .ref tr, .ref be, .ref af, .ref fo, .int (go_b (sl)), .int (go_b (z.2.2.2.2.2.1)), .int (go_b (z.2.2.2.2.2.2)), .int (nI ex)])), (so, .inr (4, [.ref va, .ref pa, .ref ne, .ref ol, .int (nI (z.1))])), (va, .inl (G.2.1, 2400, .inl z.2.1)), (pa, .inl (G.2.1, 400, .inl z.2.2.1)), (ne, .inl (G.2.1, 512, .inl z.2.2.2.1)), (ol, .inl (G.2.1, 400, .inl z.2.2.2.2.1)), (ma, .inr (2, [.ref sk, .int (nI h)])), (sk, .inl (G.2.1, 8, .inl st)), (be, .inl (G.2.1, 6, .inl (pc_stt z.2.1 ex))), (af, .inl (G.2.1, 6, .inl d)), (fo, .inl (G.2.1, 6, .inl e))] rs [1, 2, 3, 4, 5, 6, 7, 8, 0, 9, 10] rfl rfl rfl ?_
  exact l_X8_expandNext_17 G rs p0 p1 p2 p3 p4 p5 p6 me fi ak bl ru iv ma so tr be af fo sl ex va pa ne ol z sk h st nb Bf rows nth nr ra wa ln F pr pw ia iw il If g0 d e hp0 hp1 hp2 hp3 hp4 hp5 hp6 hrow hwd hln hnr hRK hIK hil hc hex (pc_stt z.2.1 ex) C E (nr + 1) 0 z h st d e (by omega) (by omega) hc rfl
set_option maxHeartbeats 4000000 in
set_option maxRecDepth 100000 in
theorem l_X8_layTrace_44 {X : go_X} (G : go_G) (rs : va_W) (p0 : Nat) (p1 : Nat) (p2 : Nat) (p3 : Nat) (p4 : Nat) (p5 : Nat) (p6 : Nat) (p7 : Nat) (p8 : Nat) (p9 : Nat) (p10 : Nat) (me : Nat) (fi : Nat) (ak : Nat) (bl : Nat) (ru : Nat) (iv : Nat) (ma : Nat) (so : Nat) (tr : Nat) (be : Nat) (af : Nat) (fo : Nat) (sl : Bool) (ex : Nat) (va : Nat) (pa : Nat) (ne : Nat) (ol : Nat) (z : pc_Z) (wy : Nat) (fd : Nat) (tv : Nat) (sp : Nat) (Wf : Nat → Int32) (Df : Nat → Int32) (Tf : Nat → Int32) (sk : Nat) (h : Nat) (st : Nat → Int32) (nb : Nat) (Bf : Nat → Int32) (rows : Nat) (nth : Nat) (nr : Nat) (ra : Nat → Nat) (wa : Nat → Nat) (ln : Nat → Nat) (F : Nat → Nat → Int32) (pr : Nat → Nat) (pw : Nat → Nat) (f0 : Nat → Int32) (g0 : Nat → Int32) (d : Nat → Int32) (e : Nat → Int32) (hp0 : rs[p0]? = some (me, .inr (7, [.ref fi, .ref ak, .ref bl, .ref ru, .ref iv, .ref ma, .ref so, .ref tr, .ref be, .ref af, .ref fo, .int (go_b (sl)), .int (go_b (z.2.2.2.2.2.1)), .int (go_b (z.2.2.2.2.2.2)), .int (nI ex)]))) (hp1 : rs[p1]? = some (fi, .inl (G.2.1, 6, .inl f0))) (hp2 : rs[p2]? = some (so, .inr (4, [.ref va, .ref pa, .ref ne, .ref ol, .int (nI (z.1))]))) (hp3 : rs[p3]? = some (va, .inl (G.2.1, 2400, .inl z.2.1))) (hp4 : rs[p4]? = some (pa, .inl (G.2.1, 400, .inl z.2.2.1))) (hp5 : rs[p5]? = some (ne, .inl (G.2.1, 512, .inl z.2.2.2.1))) (hp6 : rs[p6]? = some (ol, .inl (G.2.1, 400, .inl z.2.2.2.2.1))) (hp7 : rs[p7]? = some (bl, .inr (0, [.ref nb]))) (hp8 : rs[p8]? = some (nb, .inl (G.2.1, 6, .inl Bf))) (hp9 : rs[p9]? = some (ru, .inr (3, [.ref rows, .ref nth, .int (nI nr)]))) (hp10 : rs[p10]? = some (rows, .inl (G.2.2, 12, .inr (.inr (.inr (.inr (fun r => some (ra r)))))))) (hrow : ∀ r, r < 12 → rs[pr r]? = some (ra r, .inr (6, [.ref (wa r), .int (nI (ln r))]))) (hwd : ∀ r, r < 12 → rs[pw r]? = some (wa r, .inl (G.2.1, 32, .inl (F r)))) (hln : ∀ r, r < 12 → ln r ≤ 32) (hnr : nr ≤ 12) (hRK : ∀ r, r < nr → pc_RK (ln r) (F r)) (hc : z.1 ≤ 400) (hc1 : 1 ≤ z.1)  (i : Nat) (sq : Nat) (W : Nat → Int32) (b : Nat → Int32) (fin : (Nat → Int32) × (Nat → Int32)) (hsq : sq < 400) (hi : i < sq) (C : go_Cx X cX8_layTrace RX8 none 4 5 119 0 0 G) (E : go_Ee X (S := (Nat → Int32) × Nat × (Nat → Int32) × (Nat → Int32) × (Nat → Int32)) (fun u => True) (fun u => none) (fun u => (tr, .inr (5, [.ref wy, .ref fd, .ref tv, .int (nI ((pc_ly nr ln F Bf z f0 Wf Df Tf).1))])) :: (wy, .inl (G.2.1, 400, .inl ((pc_ly nr ln F Bf z f0 Wf Df Tf).2.1))) :: (fd, .inl (G.2.1, 400, .inl ((pc_ly nr ln F Bf z f0 Wf Df Tf).2.2.1))) :: (tv, .inl (G.2.1, 2400, .inl ((pc_ly nr ln F Bf z f0 Wf Df Tf).2.2.2))) :: (ma, .inr (2, [.ref sk, .int (nI (u.2.1))])) :: (sk, .inl (G.2.1, 8, .inl u.1)) :: (be, .inl (G.2.1, 6, .inl u.2.2.1)) :: (af, .inl (G.2.1, 6, .inl u.2.2.2.1)) :: (fo, .inl (G.2.1, 6, .inl u.2.2.2.2)) :: rs)) (K : ∀ (g2 : Nat) (t2 : Nat → Int32) (d2 : Nat → Int32) (e2 : Nat → Int32), go_Go X (0, 0) ((tr, .inr (5, [.ref wy, .ref fd, .ref tv, .int (nI sq)])) :: (wy, .inl (G.2.1, 400, .inl W)) :: (fd, .inl (G.2.1, 400, .inl fin.1)) :: (tv, .inl (G.2.1, 2400, .inl fin.2)) :: (ma, .inr (2, [.ref sk, .int (nI g2)])) :: (sk, .inl (G.2.1, 8, .inl t2)) :: (be, .inl (G.2.1, 6, .inl b)) :: (af, .inl (G.2.1, 6, .inl d2)) :: (fo, .inl (G.2.1, 6, .inl e2)) :: rs) [(0, .ref me), (1, .int (nI i))] [] 127) : ∀ (n : Nat) (r : Nat) (fb : Bool) (D : Nat → Int32) (T : Nat → Int32) (g : Nat) (t : Nat → Int32) (d1 : Nat → Int32) (e1 : Nat → Int32) (hin : nr < r + n) (hr : r ≤ nr) (hW : (if fb = true then (D, T) else pc_lo ln F b i D T (pc_fn nr ln F Bf z b (W (i + 1)) n r)) = fin), go_Go X (0, 0) ((tr, .inr (5, [.ref wy, .ref fd, .ref tv, .int (nI sq)])) :: (wy, .inl (G.2.1, 400, .inl W)) :: (fd, .inl (G.2.1, 400, .inl D)) :: (tv, .inl (G.2.1, 2400, .inl T)) :: (ma, .inr (2, [.ref sk, .int (nI g)])) :: (sk, .inl (G.2.1, 8, .inl t)) :: (be, .inl (G.2.1, 6, .inl b)) :: (af, .inl (G.2.1, 6, .inl d1)) :: (fo, .inl (G.2.1, 6, .inl e1)) :: rs) [(0, .ref me), (1, .int (nI i)), (2, .int (go_b (fb))), (3, .int (nI r))] [] 44 := by
  intro n
  induction n with
  | zero => intro r fb D T g t d1 e1 hin hr hW; omega
  | succ n ih =>
    intro r fb D T g t d1 e1 hin hr hW
    refine go_iload_n C dX8_layTrace_44 3 rfl rfl ?_
    refine go_aload_n C dX8_layTrace_45 0 rfl rfl ?_
    refine go_get C (v := .ref ru) fl_X8_26 dX8_layTrace_46 (p0 + 9) hp0 rfl ?_
    refine go_cV C (c_X3_count G ((tr, .inr (5, [.ref wy, .ref fd, .ref tv, .int (nI sq)])) :: (wy, .inl (G.2.1, 400, .inl W)) :: (fd, .inl (G.2.1, 400, .inl D)) :: (tv, .inl (G.2.1, 2400, .inl T)) :: (ma, .inr (2, [.ref sk, .int (nI g)])) :: (sk, .inl (G.2.1, 8, .inl t)) :: (be, .inl (G.2.1, 6, .inl b)) :: (af, .inl (G.2.1, 6, .inl d1)) :: (fo, .inl (G.2.1, 6, .inl e1)) :: rs) (p9 + 9) ru rows nth nr hp9 ) ml_X8_119 mc_X3_count dX8_layTrace_49 [.int (nI r)] rfl rfl (p9 + 9) hp9 rfl rfl ⟨Nat.le_of_ble_eq_true rfl, Nat.le_of_ble_eq_true rfl, Nat.zero_le _, Nat.zero_le _, Nat.le_of_ble_eq_true rfl⟩ [.int (nI nr), .int (nI r)] rfl ?_
    refine go_icmp_geN (a := r) (b := nr) C 127 dX8_layTrace_52 (by decide) (by omega) (by omega) (fun c_52 => ?_) (fun c_52 => ?_)
    · refine go_lv [(0, .ref me), (1, .int (nI i))] [0, 1] rfl ?_
      refine go_we ((tr, .inr (5, [.ref wy, .ref fd, .ref tv, .int (nI sq)])) :: (wy, .inl (G.2.1, 400, .inl W)) :: (fd, .inl (G.2.1, 400, .inl fin.1)) :: (tv, .inl (G.2.1, 2400, .inl fin.2)) :: (ma, .inr (2, [.ref sk, .int (nI g)])) :: (sk, .inl (G.2.1, 8, .inl t)) :: (be, .inl (G.2.1, 6, .inl b)) :: (af, .inl (G.2.1, 6, .inl d1)) :: (fo, .inl (G.2.1, 6, .inl e1)) :: rs) (by rw [← hW]; first | (simp [c_56]; done) | (cases fb <;> simp [pc_fn, pc_lo, c_52]; done)) ?_
      exact K g t d1 e1
    · refine go_iload_n C dX8_layTrace_55 2 rfl rfl ?_
      refine go_if_neB C 127 dX8_layTrace_56 (by decide) (fun c_56 => ?_) (fun c_56 => ?_)
      · refine go_lv [(0, .ref me), (1, .int (nI i))] [0, 1] rfl ?_
        refine go_we ((tr, .inr (5, [.ref wy, .ref fd, .ref tv, .int (nI sq)])) :: (wy, .inl (G.2.1, 400, .inl W)) :: (fd, .inl (G.2.1, 400, .inl fin.1)) :: (tv, .inl (G.2.1, 2400, .inl fin.2)) :: (ma, .inr (2, [.ref sk, .int (nI g)])) :: (sk, .inl (G.2.1, 8, .inl t)) :: (be, .inl (G.2.1, 6, .inl b)) :: (af, .inl (G.2.1, 6, .inl d1)) :: (fo, .inl (G.2.1, 6, .inl e1)) :: rs) (by rw [← hW]; first | (simp [c_56]; done) | (cases fb <;> simp [pc_fn, pc_lo, c_52]; done)) ?_
        exact K g t d1 e1
      · refine go_aload_n C dX8_layTrace_59 0 rfl rfl ?_
        refine go_aload_n C dX8_layTrace_60 0 rfl rfl ?_
        refine go_get C (v := .ref ru) fl_X8_26 dX8_layTrace_61 (p0 + 9) hp0 rfl ?_
        refine go_iload_n C dX8_layTrace_64 3 rfl rfl ?_
        refine go_cV C (c_X3_at G ((tr, .inr (5, [.ref wy, .ref fd, .ref tv, .int (nI sq)])) :: (wy, .inl (G.2.1, 400, .inl W)) :: (fd, .inl (G.2.1, 400, .inl D)) :: (tv, .inl (G.2.1, 2400, .inl T)) :: (ma, .inr (2, [.ref sk, .int (nI g)])) :: (sk, .inl (G.2.1, 8, .inl t)) :: (be, .inl (G.2.1, 6, .inl b)) :: (af, .inl (G.2.1, 6, .inl d1)) :: (fo, .inl (G.2.1, 6, .inl e1)) :: rs) (p9 + 9) (p10 + 9) ru rows nth nr ra r hp9 hp10 (by omega) (by omega)) ml_X8_122 mc_X3_at dX8_layTrace_65 [.ref me] rfl rfl (p9 + 9) hp9 rfl rfl ⟨Nat.le_of_ble_eq_true rfl, Nat.le_of_ble_eq_true rfl, Nat.zero_le _, Nat.zero_le _, Nat.le_of_ble_eq_true rfl⟩ [.ref (ra r), .ref me] rfl ?_
        refine go_perm [(tr, .inr (5, [.ref wy, .ref fd, .ref tv, .int (nI sq)])), (wy, .inl (G.2.1, 400, .inl W)), (fd, .inl (G.2.1, 400, .inl D)), (tv, .inl (G.2.1, 2400, .inl T)), (ma, .inr (2, [.ref sk, .int (nI g)])), (sk, .inl (G.2.1, 8, .inl t)), (be, .inl (G.2.1, 6, .inl b)), (af, .inl (G.2.1, 6, .inl d1)), (fo, .inl (G.2.1, 6, .inl e1))] [(ma, .inr (2, [.ref sk, .int (nI g)])), (sk, .inl (G.2.1, 8, .inl t)), (af, .inl (G.2.1, 6, .inl d1)), (fo, .inl (G.2.1, 6, .inl e1)), (tr, .inr (5, [.ref wy, .ref fd, .ref tv, .int (nI sq)])), (wy, .inl (G.2.1, 400, .inl W)), (fd, .inl (G.2.1, 400, .inl D)), (tv, .inl (G.2.1, 2400, .inl T)), (be, .inl (G.2.1, 6, .inl b))] rs [4, 5, 7, 8, 0, 1, 2, 3, 6] rfl rfl rfl ?_
        refine go_cVe C (c_X8_fires G ((tr, .inr (5, [.ref wy, .ref fd, .ref tv, .int (nI sq)])) :: (wy, .inl (G.2.1, 400, .inl W)) :: (fd, .inl (G.2.1, 400, .inl D)) :: (tv, .inl (G.2.1, 2400, .inl T)) :: (be, .inl (G.2.1, 6, .inl b)) :: rs) (p0 + 5) (pr r + 5) (pw r + 5) (p7 + 5) (p8 + 5) 4 me fi ak bl ru iv ma so tr be af fo sl z.2.2.2.2.2.1 z.2.2.2.2.2.2 ex sk g t (ra r) (wa r) (ln r) (F r) nb Bf b d1 e1 hp0 (hrow r (by omega)) (hwd r (by omega)) hp7 hp8 rfl (hln r (by omega)) (hRK r (by omega))) ml_X8_218 mc_X8_fires dX8_layTrace_68 [] rfl (fun _ => rfl) (p0 + 9) hp0 rfl rfl ⟨Nat.le_of_ble_eq_true rfl, Nat.le_of_ble_eq_true rfl, Nat.zero_le _, Nat.zero_le _, Nat.le_of_ble_eq_true rfl⟩ (fun u hu_1 => ?_)
        obtain ⟨st2_1, h2_1⟩ := u
        show go_Go X (0, 0) ((ma, .inr (2, [.ref sk, .int (nI h2_1)])) :: (sk, .inl (G.2.1, 8, .inl st2_1)) :: (af, .inl (G.2.1, 6, .inl (pc_fA (ln r) (F r) b d1))) :: (fo, .inl (G.2.1, 6, .inl (pc_fF Bf (ln r) (F r) b e1))) :: (tr, .inr (5, [.ref wy, .ref fd, .ref tv, .int (nI sq)])) :: (wy, .inl (G.2.1, 400, .inl W)) :: (fd, .inl (G.2.1, 400, .inl D)) :: (tv, .inl (G.2.1, 2400, .inl T)) :: (be, .inl (G.2.1, 6, .inl b)) :: rs) [(0, .ref me), (1, .int (nI i)), (2, .int (go_b (fb))), (3, .int (nI r))] [.int (go_b (pc_mf (ln r) (F r) b))] 71
        refine go_if_eqB C 102 dX8_layTrace_71 (by decide) (fun c_71 => ?_) (fun c_71 => ?_)
        · refine go_iconst C (0) dX8_layTrace_102 (by decide) ?_
          refine go_istore_n C [(0, .ref me), (1, .int (nI i)), (2, .int 0), (3, .int (nI r))] dX8_layTrace_103 [1, 2, 0, 3] rfl (by decide) rfl ?_
          refine go_iload_n C dX8_layTrace_104 2 rfl rfl ?_
          refine go_if_eq C 121 dX8_layTrace_105 (by decide) (fun c_105 => ?_) (fun c_105 => ?_)
          · refine go_iinc C (nI (r + 1)) [(0, .ref me), (1, .int (nI i)), (2, .int 0), (3, .int (nI (r + 1)))] dX8_layTrace_121 3 [1, 2, 3, 0] rfl (nI_add r 1) (by decide) rfl ?_
            refine go_goto C 44 dX8_layTrace_124 (by decide) ?_
            refine go_perm [(ma, .inr (2, [.ref sk, .int (nI h2_1)])), (sk, .inl (G.2.1, 8, .inl st2_1)), (af, .inl (G.2.1, 6, .inl (pc_fA (ln r) (F r) b d1))), (fo, .inl (G.2.1, 6, .inl (pc_fF Bf (ln r) (F r) b e1))), (tr, .inr (5, [.ref wy, .ref fd, .ref tv, .int (nI sq)])), (wy, .inl (G.2.1, 400, .inl W)), (fd, .inl (G.2.1, 400, .inl D)), (tv, .inl (G.2.1, 2400, .inl T)), (be, .inl (G.2.1, 6, .inl b))] [(tr, .inr (5, [.ref wy, .ref fd, .ref tv, .int (nI sq)])), (wy, .inl (G.2.1, 400, .inl W)), (fd, .inl (G.2.1, 400, .inl D)), (tv, .inl (G.2.1, 2400, .inl T)), (ma, .inr (2, [.ref sk, .int (nI h2_1)])), (sk, .inl (G.2.1, 8, .inl st2_1)), (be, .inl (G.2.1, 6, .inl b)), (af, .inl (G.2.1, 6, .inl (pc_fA (ln r) (F r) b d1))), (fo, .inl (G.2.1, 6, .inl (pc_fF Bf (ln r) (F r) b e1)))] rs [4, 5, 6, 7, 0, 1, 8, 2, 3] rfl rfl rfl ?_
            exact ih (r + 1) false D T h2_1 st2_1 (pc_fA (ln r) (F r) b d1) (pc_fF Bf (ln r) (F r) b e1) (by omega) (by omega) (by first | (rw [← hW]; simp [c_52, c_56, pc_fn, pc_lo, c_71, c_95]; done) | (rw [← hW]; simp [c_52, c_56, pc_fn, pc_lo, c_71]; done))
          · exact absurd rfl c_105
        · refine go_we ((ma, .inr (2, [.ref sk, .int (nI h2_1)])) :: (sk, .inl (G.2.1, 8, .inl st2_1)) :: (af, .inl (G.2.1, 6, .inl (pc_af (ln r) (F r) b))) :: (fo, .inl (G.2.1, 6, .inl (pc_sf Bf (pc_af (ln r) (F r) b)))) :: (tr, .inr (5, [.ref wy, .ref fd, .ref tv, .int (nI sq)])) :: (wy, .inl (G.2.1, 400, .inl W)) :: (fd, .inl (G.2.1, 400, .inl D)) :: (tv, .inl (G.2.1, 2400, .inl T)) :: (be, .inl (G.2.1, 6, .inl b)) :: rs) (by simp only [pc_fA, pc_fF, if_pos c_71]) ?_
          refine go_aload_n C dX8_layTrace_74 0 rfl rfl ?_
          refine go_get C (v := .ref so) fl_X8_47 dX8_layTrace_75 (p0 + 9) hp0 rfl ?_
          refine go_aload_n C dX8_layTrace_78 0 rfl rfl ?_
          refine go_get C (v := .ref fo) fl_X8_64 dX8_layTrace_79 (p0 + 9) hp0 rfl ?_
          refine go_cV C (c_X4_find G ((ma, .inr (2, [.ref sk, .int (nI h2_1)])) :: (sk, .inl (G.2.1, 8, .inl st2_1)) :: (af, .inl (G.2.1, 6, .inl (pc_af (ln r) (F r) b))) :: (fo, .inl (G.2.1, 6, .inl (pc_sf Bf (pc_af (ln r) (F r) b)))) :: (tr, .inr (5, [.ref wy, .ref fd, .ref tv, .int (nI sq)])) :: (wy, .inl (G.2.1, 400, .inl W)) :: (fd, .inl (G.2.1, 400, .inl D)) :: (tv, .inl (G.2.1, 2400, .inl T)) :: (be, .inl (G.2.1, 6, .inl b)) :: rs) (p2 + 9) (p3 + 9) (p5 + 9) (p6 + 9) 3 so va pa ne ol z.1 z.2.1 z.2.2.2.1 z.2.2.2.2.1 fo (pc_sf Bf (pc_af (ln r) (F r) b)) hp2 hp3 hp5 hp6 rfl (by omega)) ml_X8_188 mc_X4_find dX8_layTrace_82 [] rfl rfl (p2 + 9) hp2 rfl rfl ⟨Nat.le_of_ble_eq_true rfl, Nat.le_of_ble_eq_true rfl, Nat.zero_le _, Nat.zero_le _, Nat.le_of_ble_eq_true rfl⟩ [.int (pc_fdz z (pc_sf Bf (pc_af (ln r) (F r) b)))] rfl ?_
          refine go_aload_n C dX8_layTrace_85 0 rfl rfl ?_
          refine go_get C (v := .ref tr) fl_X8_54 dX8_layTrace_86 (p0 + 9) hp0 rfl ?_
          refine go_iload_n C dX8_layTrace_89 1 rfl rfl ?_
          refine go_iconst C (1) dX8_layTrace_90 (by decide) ?_
          refine go_iadd C (z := nI (i + 1)) dX8_layTrace_91 (nI_add i 1) ?_
          refine go_cV C (c_X5_wayAt G ((ma, .inr (2, [.ref sk, .int (nI h2_1)])) :: (sk, .inl (G.2.1, 8, .inl st2_1)) :: (af, .inl (G.2.1, 6, .inl (pc_af (ln r) (F r) b))) :: (fo, .inl (G.2.1, 6, .inl (pc_sf Bf (pc_af (ln r) (F r) b)))) :: (tr, .inr (5, [.ref wy, .ref fd, .ref tv, .int (nI sq)])) :: (wy, .inl (G.2.1, 400, .inl W)) :: (fd, .inl (G.2.1, 400, .inl D)) :: (tv, .inl (G.2.1, 2400, .inl T)) :: (be, .inl (G.2.1, 6, .inl b)) :: rs) 4 5 tr wy fd tv sq W (i + 1) rfl rfl (by omega) (by omega) (by omega)) ml_X8_236 mc_X5_wayAt dX8_layTrace_92 [.int (pc_fdz z (pc_sf Bf (pc_af (ln r) (F r) b)))] rfl rfl 4 rfl rfl rfl ⟨Nat.le_of_ble_eq_true rfl, Nat.le_of_ble_eq_true rfl, Nat.zero_le _, Nat.zero_le _, Nat.le_of_ble_eq_true rfl⟩ [.int (W (i + 1)), .int (pc_fdz z (pc_sf Bf (pc_af (ln r) (F r) b)))] rfl ?_
          refine go_icmp_ne C 102 dX8_layTrace_95 (by decide) (fun c_95 => ?_) (fun c_95 => ?_)
          · refine go_iconst C (0) dX8_layTrace_102 (by decide) ?_
            refine go_istore_n C [(0, .ref me), (1, .int (nI i)), (2, .int 0), (3, .int (nI r))] dX8_layTrace_103 [1, 2, 0, 3] rfl (by decide) rfl ?_
            refine go_iload_n C dX8_layTrace_104 2 rfl rfl ?_
            refine go_if_eq C 121 dX8_layTrace_105 (by decide) (fun c_105 => ?_) (fun c_105 => ?_)
            · refine go_iinc C (nI (r + 1)) [(0, .ref me), (1, .int (nI i)), (2, .int 0), (3, .int (nI (r + 1)))] dX8_layTrace_121 3 [1, 2, 3, 0] rfl (nI_add r 1) (by decide) rfl ?_
              refine go_goto C 44 dX8_layTrace_124 (by decide) ?_
              refine go_perm [(ma, .inr (2, [.ref sk, .int (nI h2_1)])), (sk, .inl (G.2.1, 8, .inl st2_1)), (af, .inl (G.2.1, 6, .inl (pc_af (ln r) (F r) b))), (fo, .inl (G.2.1, 6, .inl (pc_sf Bf (pc_af (ln r) (F r) b)))), (tr, .inr (5, [.ref wy, .ref fd, .ref tv, .int (nI sq)])), (wy, .inl (G.2.1, 400, .inl W)), (fd, .inl (G.2.1, 400, .inl D)), (tv, .inl (G.2.1, 2400, .inl T)), (be, .inl (G.2.1, 6, .inl b))] [(tr, .inr (5, [.ref wy, .ref fd, .ref tv, .int (nI sq)])), (wy, .inl (G.2.1, 400, .inl W)), (fd, .inl (G.2.1, 400, .inl D)), (tv, .inl (G.2.1, 2400, .inl T)), (ma, .inr (2, [.ref sk, .int (nI h2_1)])), (sk, .inl (G.2.1, 8, .inl st2_1)), (be, .inl (G.2.1, 6, .inl b)), (af, .inl (G.2.1, 6, .inl (pc_af (ln r) (F r) b))), (fo, .inl (G.2.1, 6, .inl (pc_sf Bf (pc_af (ln r) (F r) b))))] rs [4, 5, 6, 7, 0, 1, 8, 2, 3] rfl rfl rfl ?_
              exact ih (r + 1) false D T h2_1 st2_1 (pc_af (ln r) (F r) b) (pc_sf Bf (pc_af (ln r) (F r) b)) (by omega) (by omega) (by first | (rw [← hW]; simp [c_52, c_56, pc_fn, pc_lo, c_71, c_95]; done) | (rw [← hW]; simp [c_52, c_56, pc_fn, pc_lo, c_71]; done))
            · exact absurd rfl c_105
          · refine go_iconst C (1) dX8_layTrace_98 (by decide) ?_
            refine go_goto C 103 dX8_layTrace_99 (by decide) ?_
            refine go_istore_n C [(0, .ref me), (1, .int (nI i)), (2, .int 1), (3, .int (nI r))] dX8_layTrace_103 [1, 2, 0, 3] rfl (by decide) rfl ?_
            refine go_iload_n C dX8_layTrace_104 2 rfl rfl ?_
            refine go_if_eq C 121 dX8_layTrace_105 (by decide) (fun c_105 => ?_) (fun c_105 => ?_)
            · exact absurd c_105 (by decide)
            · refine go_aload_n C dX8_layTrace_108 0 rfl rfl ?_
              refine go_get C (v := .ref tr) fl_X8_54 dX8_layTrace_109 (p0 + 9) hp0 rfl ?_
              refine go_iload_n C dX8_layTrace_112 1 rfl rfl ?_
              refine go_iload_n C dX8_layTrace_113 3 rfl rfl ?_
              refine go_aload_n C dX8_layTrace_114 0 rfl rfl ?_
              refine go_get C (v := .ref af) fl_X8_61 dX8_layTrace_115 (p0 + 9) hp0 rfl ?_
              refine go_perm [(ma, .inr (2, [.ref sk, .int (nI h2_1)])), (sk, .inl (G.2.1, 8, .inl st2_1)), (af, .inl (G.2.1, 6, .inl (pc_af (ln r) (F r) b))), (fo, .inl (G.2.1, 6, .inl (pc_sf Bf (pc_af (ln r) (F r) b)))), (tr, .inr (5, [.ref wy, .ref fd, .ref tv, .int (nI sq)])), (wy, .inl (G.2.1, 400, .inl W)), (fd, .inl (G.2.1, 400, .inl D)), (tv, .inl (G.2.1, 2400, .inl T)), (be, .inl (G.2.1, 6, .inl b))] [(fd, .inl (G.2.1, 400, .inl D)), (tv, .inl (G.2.1, 2400, .inl T)), (ma, .inr (2, [.ref sk, .int (nI h2_1)])), (sk, .inl (G.2.1, 8, .inl st2_1)), (af, .inl (G.2.1, 6, .inl (pc_af (ln r) (F r) b))), (fo, .inl (G.2.1, 6, .inl (pc_sf Bf (pc_af (ln r) (F r) b)))), (tr, .inr (5, [.ref wy, .ref fd, .ref tv, .int (nI sq)])), (wy, .inl (G.2.1, 400, .inl W)), (be, .inl (G.2.1, 6, .inl b))] rs [6, 7, 0, 1, 2, 3, 4, 5, 8] rfl rfl rfl ?_
              refine go_cV C (c_X5_putStep G ((ma, .inr (2, [.ref sk, .int (nI h2_1)])) :: (sk, .inl (G.2.1, 8, .inl st2_1)) :: (af, .inl (G.2.1, 6, .inl (pc_af (ln r) (F r) b))) :: (fo, .inl (G.2.1, 6, .inl (pc_sf Bf (pc_af (ln r) (F r) b)))) :: (tr, .inr (5, [.ref wy, .ref fd, .ref tv, .int (nI sq)])) :: (wy, .inl (G.2.1, 400, .inl W)) :: (be, .inl (G.2.1, 6, .inl b)) :: rs) 4 2 tr wy fd tv sq D T i (nI r) af (pc_af (ln r) (F r) b) rfl rfl (by omega) (by omega)) ml_X8_239 mc_X5_putStep dX8_layTrace_118 [] rfl rfl 6 rfl rfl rfl ⟨Nat.le_of_ble_eq_true rfl, Nat.le_of_ble_eq_true rfl, Nat.zero_le _, Nat.zero_le _, Nat.le_of_ble_eq_true rfl⟩ [] rfl ?_
              refine go_iinc C (nI (r + 1)) [(0, .ref me), (1, .int (nI i)), (2, .int 1), (3, .int (nI (r + 1)))] dX8_layTrace_121 3 [1, 2, 3, 0] rfl (nI_add r 1) (by decide) rfl ?_
              refine go_goto C 44 dX8_layTrace_124 (by decide) ?_
              refine go_perm [(fd, .inl (G.2.1, 400, .inl (upd D i (nI r)))), (tv, .inl (G.2.1, 2400, .inl (pc_wr T (i + 1) (pc_af (ln r) (F r) b)))), (ma, .inr (2, [.ref sk, .int (nI h2_1)])), (sk, .inl (G.2.1, 8, .inl st2_1)), (af, .inl (G.2.1, 6, .inl (pc_af (ln r) (F r) b))), (fo, .inl (G.2.1, 6, .inl (pc_sf Bf (pc_af (ln r) (F r) b)))), (tr, .inr (5, [.ref wy, .ref fd, .ref tv, .int (nI sq)])), (wy, .inl (G.2.1, 400, .inl W)), (be, .inl (G.2.1, 6, .inl b))] [(tr, .inr (5, [.ref wy, .ref fd, .ref tv, .int (nI sq)])), (wy, .inl (G.2.1, 400, .inl W)), (fd, .inl (G.2.1, 400, .inl (upd D i (nI r)))), (tv, .inl (G.2.1, 2400, .inl (pc_wr T (i + 1) (pc_af (ln r) (F r) b)))), (ma, .inr (2, [.ref sk, .int (nI h2_1)])), (sk, .inl (G.2.1, 8, .inl st2_1)), (be, .inl (G.2.1, 6, .inl b)), (af, .inl (G.2.1, 6, .inl (pc_af (ln r) (F r) b))), (fo, .inl (G.2.1, 6, .inl (pc_sf Bf (pc_af (ln r) (F r) b))))] rs [6, 7, 0, 1, 2, 3, 8, 4, 5] rfl rfl rfl ?_
              exact ih (r + 1) true (upd D i (nI r)) (pc_wr T (i + 1) (pc_af (ln r) (F r) b)) h2_1 st2_1 (pc_af (ln r) (F r) b) (pc_sf Bf (pc_af (ln r) (F r) b)) (by omega) (by omega) (by first | (rw [← hW]; simp [c_52, c_56, pc_fn, pc_lo, c_71, c_95]; done) | (rw [← hW]; simp [c_52, c_56, pc_fn, pc_lo, c_71]; done))
set_option maxHeartbeats 4000000 in
set_option maxRecDepth 100000 in
theorem l_X8_layTrace_17 {X : go_X} (G : go_G) (rs : va_W) (p0 : Nat) (p1 : Nat) (p2 : Nat) (p3 : Nat) (p4 : Nat) (p5 : Nat) (p6 : Nat) (p7 : Nat) (p8 : Nat) (p9 : Nat) (p10 : Nat) (me : Nat) (fi : Nat) (ak : Nat) (bl : Nat) (ru : Nat) (iv : Nat) (ma : Nat) (so : Nat) (tr : Nat) (be : Nat) (af : Nat) (fo : Nat) (sl : Bool) (ex : Nat) (va : Nat) (pa : Nat) (ne : Nat) (ol : Nat) (z : pc_Z) (wy : Nat) (fd : Nat) (tv : Nat) (sp : Nat) (Wf : Nat → Int32) (Df : Nat → Int32) (Tf : Nat → Int32) (sk : Nat) (h : Nat) (st : Nat → Int32) (nb : Nat) (Bf : Nat → Int32) (rows : Nat) (nth : Nat) (nr : Nat) (ra : Nat → Nat) (wa : Nat → Nat) (ln : Nat → Nat) (F : Nat → Nat → Int32) (pr : Nat → Nat) (pw : Nat → Nat) (f0 : Nat → Int32) (g0 : Nat → Int32) (d : Nat → Int32) (e : Nat → Int32) (hp0 : rs[p0]? = some (me, .inr (7, [.ref fi, .ref ak, .ref bl, .ref ru, .ref iv, .ref ma, .ref so, .ref tr, .ref be, .ref af, .ref fo, .int (go_b (sl)), .int (go_b (z.2.2.2.2.2.1)), .int (go_b (z.2.2.2.2.2.2)), .int (nI ex)]))) (hp1 : rs[p1]? = some (fi, .inl (G.2.1, 6, .inl f0))) (hp2 : rs[p2]? = some (so, .inr (4, [.ref va, .ref pa, .ref ne, .ref ol, .int (nI (z.1))]))) (hp3 : rs[p3]? = some (va, .inl (G.2.1, 2400, .inl z.2.1))) (hp4 : rs[p4]? = some (pa, .inl (G.2.1, 400, .inl z.2.2.1))) (hp5 : rs[p5]? = some (ne, .inl (G.2.1, 512, .inl z.2.2.2.1))) (hp6 : rs[p6]? = some (ol, .inl (G.2.1, 400, .inl z.2.2.2.2.1))) (hp7 : rs[p7]? = some (bl, .inr (0, [.ref nb]))) (hp8 : rs[p8]? = some (nb, .inl (G.2.1, 6, .inl Bf))) (hp9 : rs[p9]? = some (ru, .inr (3, [.ref rows, .ref nth, .int (nI nr)]))) (hp10 : rs[p10]? = some (rows, .inl (G.2.2, 12, .inr (.inr (.inr (.inr (fun r => some (ra r)))))))) (hrow : ∀ r, r < 12 → rs[pr r]? = some (ra r, .inr (6, [.ref (wa r), .int (nI (ln r))]))) (hwd : ∀ r, r < 12 → rs[pw r]? = some (wa r, .inl (G.2.1, 32, .inl (F r)))) (hln : ∀ r, r < 12 → ln r ≤ 32) (hnr : nr ≤ 12) (hRK : ∀ r, r < nr → pc_RK (ln r) (F r)) (hc : z.1 ≤ 400) (hc1 : 1 ≤ z.1)  (sq : Nat) (W : Nat → Int32) (hsq : sq < 400) (hL1 : (pc_ly nr ln F Bf z f0 Wf Df Tf).1 = sq) (hL2 : (pc_ly nr ln F Bf z f0 Wf Df Tf).2.1 = W) (C : go_Cx X cX8_layTrace RX8 none 4 5 119 0 0 G) (E : go_Ee X (S := (Nat → Int32) × Nat × (Nat → Int32) × (Nat → Int32) × (Nat → Int32)) (fun u => True) (fun u => none) (fun u => (tr, .inr (5, [.ref wy, .ref fd, .ref tv, .int (nI ((pc_ly nr ln F Bf z f0 Wf Df Tf).1))])) :: (wy, .inl (G.2.1, 400, .inl ((pc_ly nr ln F Bf z f0 Wf Df Tf).2.1))) :: (fd, .inl (G.2.1, 400, .inl ((pc_ly nr ln F Bf z f0 Wf Df Tf).2.2.1))) :: (tv, .inl (G.2.1, 2400, .inl ((pc_ly nr ln F Bf z f0 Wf Df Tf).2.2.2))) :: (ma, .inr (2, [.ref sk, .int (nI (u.2.1))])) :: (sk, .inl (G.2.1, 8, .inl u.1)) :: (be, .inl (G.2.1, 6, .inl u.2.2.1)) :: (af, .inl (G.2.1, 6, .inl u.2.2.2.1)) :: (fo, .inl (G.2.1, 6, .inl u.2.2.2.2)) :: rs))  : ∀ (n : Nat) (i : Nat) (D : Nat → Int32) (T : Nat → Int32) (g : Nat) (t : Nat → Int32) (g1 : Nat → Int32) (d1 : Nat → Int32) (e1 : Nat → Int32) (hin : 399 < i + n) (hi : i ≤ sq) (hL : pc_lt nr ln F Bf z W sq n i D T = (pc_ly nr ln F Bf z f0 Wf Df Tf).2.2), go_Go X (0, 0) ((tr, .inr (5, [.ref wy, .ref fd, .ref tv, .int (nI sq)])) :: (wy, .inl (G.2.1, 400, .inl W)) :: (fd, .inl (G.2.1, 400, .inl D)) :: (tv, .inl (G.2.1, 2400, .inl T)) :: (ma, .inr (2, [.ref sk, .int (nI g)])) :: (sk, .inl (G.2.1, 8, .inl t)) :: (be, .inl (G.2.1, 6, .inl g1)) :: (af, .inl (G.2.1, 6, .inl d1)) :: (fo, .inl (G.2.1, 6, .inl e1)) :: rs) [(0, .ref me), (1, .int (nI i))] [] 17 := by
  intro n
  induction n with
  | zero => intro i D T g t g1 d1 e1 hin hi hL; omega
  | succ n ih =>
    intro i D T g t g1 d1 e1 hin hi hL
    refine go_iload_n C dX8_layTrace_17 1 rfl rfl ?_
    refine go_aload_n C dX8_layTrace_18 0 rfl rfl ?_
    refine go_get C (v := .ref tr) fl_X8_54 dX8_layTrace_19 (p0 + 9) hp0 rfl ?_
    refine go_cV C (c_X5_steps G ((tr, .inr (5, [.ref wy, .ref fd, .ref tv, .int (nI sq)])) :: (wy, .inl (G.2.1, 400, .inl W)) :: (fd, .inl (G.2.1, 400, .inl D)) :: (tv, .inl (G.2.1, 2400, .inl T)) :: (ma, .inr (2, [.ref sk, .int (nI g)])) :: (sk, .inl (G.2.1, 8, .inl t)) :: (be, .inl (G.2.1, 6, .inl g1)) :: (af, .inl (G.2.1, 6, .inl d1)) :: (fo, .inl (G.2.1, 6, .inl e1)) :: rs) 0 tr wy fd tv sq rfl ) ml_X8_167 mc_X5_steps dX8_layTrace_22 [.int (nI i)] rfl rfl 0 rfl rfl rfl ⟨Nat.le_of_ble_eq_true rfl, Nat.le_of_ble_eq_true rfl, Nat.zero_le _, Nat.zero_le _, Nat.le_of_ble_eq_true rfl⟩ [.int (nI sq), .int (nI i)] rfl ?_
    refine go_icmp_geN (a := i) (b := sq) C 133 dX8_layTrace_25 (by decide) (by omega) (by omega) (fun c_25 => ?_) (fun c_25 => ?_)
    · exact go_vretE C E dX8_layTrace_133 (t, g, g1, d1, e1) trivial rfl (by rw [hL1, hL2, ← hL]; simp [pc_lt, c_25])
    · refine go_aload_n C dX8_layTrace_28 0 rfl rfl ?_
      refine go_get C (v := .ref tr) fl_X8_54 dX8_layTrace_29 (p0 + 9) hp0 rfl ?_
      refine go_iload_n C dX8_layTrace_32 1 rfl rfl ?_
      refine go_aload_n C dX8_layTrace_33 0 rfl rfl ?_
      refine go_get C (v := .ref be) fl_X8_58 dX8_layTrace_34 (p0 + 9) hp0 rfl ?_
      refine go_perm [(tr, .inr (5, [.ref wy, .ref fd, .ref tv, .int (nI sq)])), (wy, .inl (G.2.1, 400, .inl W)), (fd, .inl (G.2.1, 400, .inl D)), (tv, .inl (G.2.1, 2400, .inl T)), (ma, .inr (2, [.ref sk, .int (nI g)])), (sk, .inl (G.2.1, 8, .inl t)), (be, .inl (G.2.1, 6, .inl g1)), (af, .inl (G.2.1, 6, .inl d1)), (fo, .inl (G.2.1, 6, .inl e1))] [(be, .inl (G.2.1, 6, .inl g1)), (tr, .inr (5, [.ref wy, .ref fd, .ref tv, .int (nI sq)])), (wy, .inl (G.2.1, 400, .inl W)), (fd, .inl (G.2.1, 400, .inl D)), (tv, .inl (G.2.1, 2400, .inl T)), (ma, .inr (2, [.ref sk, .int (nI g)])), (sk, .inl (G.2.1, 8, .inl t)), (af, .inl (G.2.1, 6, .inl d1)), (fo, .inl (G.2.1, 6, .inl e1))] rs [6, 0, 1, 2, 3, 4, 5, 7, 8] rfl rfl rfl ?_
      refine go_cV C (c_X5_copyOut G ((tr, .inr (5, [.ref wy, .ref fd, .ref tv, .int (nI sq)])) :: (wy, .inl (G.2.1, 400, .inl W)) :: (fd, .inl (G.2.1, 400, .inl D)) :: (tv, .inl (G.2.1, 2400, .inl T)) :: (ma, .inr (2, [.ref sk, .int (nI g)])) :: (sk, .inl (G.2.1, 8, .inl t)) :: (af, .inl (G.2.1, 6, .inl d1)) :: (fo, .inl (G.2.1, 6, .inl e1)) :: rs) 0 3 tr wy fd tv sq T i be g1 rfl rfl (by omega) (by omega) (by omega)) ml_X8_177 mc_X5_copyOut dX8_layTrace_37 [] rfl rfl 1 rfl rfl rfl ⟨Nat.le_of_ble_eq_true rfl, Nat.le_of_ble_eq_true rfl, Nat.zero_le _, Nat.zero_le _, Nat.le_of_ble_eq_true rfl⟩ [] rfl ?_
      refine go_iconst C (0) dX8_layTrace_40 (by decide) ?_
      refine go_istore_n C [(0, .ref me), (1, .int (nI i)), (2, .int 0)] dX8_layTrace_41 [1, 2, 0] rfl (by decide) rfl ?_
      refine go_iconst C (0) dX8_layTrace_42 (by decide) ?_
      refine go_istore_n C [(0, .ref me), (1, .int (nI i)), (2, .int 0), (3, .int 0)] dX8_layTrace_43 [1, 2, 3, 0] rfl (by decide) rfl ?_
      refine go_perm [(be, .inl (G.2.1, 6, .inl (pc_stt T i))), (tr, .inr (5, [.ref wy, .ref fd, .ref tv, .int (nI sq)])), (wy, .inl (G.2.1, 400, .inl W)), (fd, .inl (G.2.1, 400, .inl D)), (tv, .inl (G.2.1, 2400, .inl T)), (ma, .inr (2, [.ref sk, .int (nI g)])), (sk, .inl (G.2.1, 8, .inl t)), (af, .inl (G.2.1, 6, .inl d1)), (fo, .inl (G.2.1, 6, .inl e1))] [(tr, .inr (5, [.ref wy, .ref fd, .ref tv, .int (nI sq)])), (wy, .inl (G.2.1, 400, .inl W)), (fd, .inl (G.2.1, 400, .inl D)), (tv, .inl (G.2.1, 2400, .inl T)), (ma, .inr (2, [.ref sk, .int (nI g)])), (sk, .inl (G.2.1, 8, .inl t)), (be, .inl (G.2.1, 6, .inl (pc_stt T i))), (af, .inl (G.2.1, 6, .inl d1)), (fo, .inl (G.2.1, 6, .inl e1))] rs [1, 2, 3, 4, 5, 6, 0, 7, 8] rfl rfl rfl ?_
      refine l_X8_layTrace_44 G rs p0 p1 p2 p3 p4 p5 p6 p7 p8 p9 p10 me fi ak bl ru iv ma so tr be af fo sl ex va pa ne ol z wy fd tv sp Wf Df Tf sk h st nb Bf rows nth nr ra wa ln F pr pw f0 g0 d e hp0 hp1 hp2 hp3 hp4 hp5 hp6 hp7 hp8 hp9 hp10 hrow hwd hln hnr hRK hc hc1 i sq W (pc_stt T i) (pc_lo ln F (pc_stt T i) i D T (pc_fn nr ln F Bf z (pc_stt T i) (W (i + 1)) (nr + 1) 0)) hsq (by omega) C E (fun g2_2 t2_2 d2_2 e2_2 => ?_) (nr + 1) 0 false D T g t d1 e1 (by omega) (by omega) rfl
      show go_Go X (0, 0) ((tr, .inr (5, [.ref wy, .ref fd, .ref tv, .int (nI sq)])) :: (wy, .inl (G.2.1, 400, .inl W)) :: (fd, .inl (G.2.1, 400, .inl ((pc_lo ln F (pc_stt T i) i D T (pc_fn nr ln F Bf z (pc_stt T i) (W (i + 1)) (nr + 1) 0)).1))) :: (tv, .inl (G.2.1, 2400, .inl ((pc_lo ln F (pc_stt T i) i D T (pc_fn nr ln F Bf z (pc_stt T i) (W (i + 1)) (nr + 1) 0)).2))) :: (ma, .inr (2, [.ref sk, .int (nI g2_2)])) :: (sk, .inl (G.2.1, 8, .inl t2_2)) :: (be, .inl (G.2.1, 6, .inl (pc_stt T i))) :: (af, .inl (G.2.1, 6, .inl d2_2)) :: (fo, .inl (G.2.1, 6, .inl e2_2)) :: rs) [(0, .ref me), (1, .int (nI i))] [] 127
      refine go_iinc C (nI (i + 1)) [(0, .ref me), (1, .int (nI (i + 1)))] dX8_layTrace_127 1 [1, 0] rfl (nI_add i 1) (by decide) rfl ?_
      refine go_goto C 17 dX8_layTrace_130 (by decide) ?_
      exact ih (i + 1) ((pc_lo ln F (pc_stt T i) i D T (pc_fn nr ln F Bf z (pc_stt T i) (W (i + 1)) (nr + 1) 0)).1) ((pc_lo ln F (pc_stt T i) i D T (pc_fn nr ln F Bf z (pc_stt T i) (W (i + 1)) (nr + 1) 0)).2) g2_2 t2_2 (pc_stt T i) d2_2 e2_2 (by omega) (by omega) (by rw [← hL]; simp [pc_lt, c_25])
set_option maxHeartbeats 4000000 in
set_option maxRecDepth 100000 in
theorem c_X8_layTrace (G : go_G) (rs : va_W) (p0 : Nat) (p1 : Nat) (p2 : Nat) (p3 : Nat) (p4 : Nat) (p5 : Nat) (p6 : Nat) (p7 : Nat) (p8 : Nat) (p9 : Nat) (p10 : Nat) (me : Nat) (fi : Nat) (ak : Nat) (bl : Nat) (ru : Nat) (iv : Nat) (ma : Nat) (so : Nat) (tr : Nat) (be : Nat) (af : Nat) (fo : Nat) (sl : Bool) (ex : Nat) (va : Nat) (pa : Nat) (ne : Nat) (ol : Nat) (z : pc_Z) (wy : Nat) (fd : Nat) (tv : Nat) (sp : Nat) (Wf : Nat → Int32) (Df : Nat → Int32) (Tf : Nat → Int32) (sk : Nat) (h : Nat) (st : Nat → Int32) (nb : Nat) (Bf : Nat → Int32) (rows : Nat) (nth : Nat) (nr : Nat) (ra : Nat → Nat) (wa : Nat → Nat) (ln : Nat → Nat) (F : Nat → Nat → Int32) (pr : Nat → Nat) (pw : Nat → Nat) (f0 : Nat → Int32) (g0 : Nat → Int32) (d : Nat → Int32) (e : Nat → Int32) (hp0 : rs[p0]? = some (me, .inr (7, [.ref fi, .ref ak, .ref bl, .ref ru, .ref iv, .ref ma, .ref so, .ref tr, .ref be, .ref af, .ref fo, .int (go_b (sl)), .int (go_b (z.2.2.2.2.2.1)), .int (go_b (z.2.2.2.2.2.2)), .int (nI ex)]))) (hp1 : rs[p1]? = some (fi, .inl (G.2.1, 6, .inl f0))) (hp2 : rs[p2]? = some (so, .inr (4, [.ref va, .ref pa, .ref ne, .ref ol, .int (nI (z.1))]))) (hp3 : rs[p3]? = some (va, .inl (G.2.1, 2400, .inl z.2.1))) (hp4 : rs[p4]? = some (pa, .inl (G.2.1, 400, .inl z.2.2.1))) (hp5 : rs[p5]? = some (ne, .inl (G.2.1, 512, .inl z.2.2.2.1))) (hp6 : rs[p6]? = some (ol, .inl (G.2.1, 400, .inl z.2.2.2.2.1))) (hp7 : rs[p7]? = some (bl, .inr (0, [.ref nb]))) (hp8 : rs[p8]? = some (nb, .inl (G.2.1, 6, .inl Bf))) (hp9 : rs[p9]? = some (ru, .inr (3, [.ref rows, .ref nth, .int (nI nr)]))) (hp10 : rs[p10]? = some (rows, .inl (G.2.2, 12, .inr (.inr (.inr (.inr (fun r => some (ra r)))))))) (hrow : ∀ r, r < 12 → rs[pr r]? = some (ra r, .inr (6, [.ref (wa r), .int (nI (ln r))]))) (hwd : ∀ r, r < 12 → rs[pw r]? = some (wa r, .inl (G.2.1, 32, .inl (F r)))) (hln : ∀ r, r < 12 → ln r ≤ 32) (hnr : nr ≤ 12) (hRK : ∀ r, r < nr → pc_RK (ln r) (F r)) (hc : z.1 ≤ 400) (hc1 : 1 ≤ z.1) : go_Fe yX8_layTrace cX8_layTrace 4 none 5 119 G [.ref me] ((tr, .inr (5, [.ref wy, .ref fd, .ref tv, .int (nI sp)])) :: (wy, .inl (G.2.1, 400, .inl Wf)) :: (fd, .inl (G.2.1, 400, .inl Df)) :: (tv, .inl (G.2.1, 2400, .inl Tf)) :: (ma, .inr (2, [.ref sk, .int (nI h)])) :: (sk, .inl (G.2.1, 8, .inl st)) :: (be, .inl (G.2.1, 6, .inl g0)) :: (af, .inl (G.2.1, 6, .inl d)) :: (fo, .inl (G.2.1, 6, .inl e)) :: rs) (S := (Nat → Int32) × Nat × (Nat → Int32) × (Nat → Int32) × (Nat → Int32)) (fun u => True) (fun u => none) (fun u => (tr, .inr (5, [.ref wy, .ref fd, .ref tv, .int (nI ((pc_ly nr ln F Bf z f0 Wf Df Tf).1))])) :: (wy, .inl (G.2.1, 400, .inl ((pc_ly nr ln F Bf z f0 Wf Df Tf).2.1))) :: (fd, .inl (G.2.1, 400, .inl ((pc_ly nr ln F Bf z f0 Wf Df Tf).2.2.1))) :: (tv, .inl (G.2.1, 2400, .inl ((pc_ly nr ln F Bf z f0 Wf Df Tf).2.2.2))) :: (ma, .inr (2, [.ref sk, .int (nI (u.2.1))])) :: (sk, .inl (G.2.1, 8, .inl u.1)) :: (be, .inl (G.2.1, 6, .inl u.2.2.1)) :: (af, .inl (G.2.1, 6, .inl u.2.2.2.1)) :: (fo, .inl (G.2.1, 6, .inl u.2.2.2.2)) :: rs) := by
  refine go_Fe_of (by decide) (Nat.le_of_ble_eq_true rfl) (fun X C E => ?_)
  show go_Go X (0, 0) ((tr, .inr (5, [.ref wy, .ref fd, .ref tv, .int (nI sp)])) :: (wy, .inl (G.2.1, 400, .inl Wf)) :: (fd, .inl (G.2.1, 400, .inl Df)) :: (tv, .inl (G.2.1, 2400, .inl Tf)) :: (ma, .inr (2, [.ref sk, .int (nI h)])) :: (sk, .inl (G.2.1, 8, .inl st)) :: (be, .inl (G.2.1, 6, .inl g0)) :: (af, .inl (G.2.1, 6, .inl d)) :: (fo, .inl (G.2.1, 6, .inl e)) :: rs) [(0, .ref me)] [] 0
  have hsp := pc_sp_le (ct := z.1) (P := z.2.2.1) 400 0 (nI (z.1 - 1)) (by omega)
  refine go_aload_n C dX8_layTrace_0 0 rfl rfl ?_
  refine go_get C (v := .ref tr) fl_X8_54 dX8_layTrace_1 (p0 + 9) hp0 rfl ?_
  refine go_aload_n C dX8_layTrace_4 0 rfl rfl ?_
  refine go_get C (v := .ref fi) fl_X8_9 dX8_layTrace_5 (p0 + 9) hp0 rfl ?_
  refine go_aload_n C dX8_layTrace_8 0 rfl rfl ?_
  refine go_get C (v := .ref so) fl_X8_47 dX8_layTrace_9 (p0 + 9) hp0 rfl ?_
  refine go_perm [(tr, .inr (5, [.ref wy, .ref fd, .ref tv, .int (nI sp)])), (wy, .inl (G.2.1, 400, .inl Wf)), (fd, .inl (G.2.1, 400, .inl Df)), (tv, .inl (G.2.1, 2400, .inl Tf)), (ma, .inr (2, [.ref sk, .int (nI h)])), (sk, .inl (G.2.1, 8, .inl st)), (be, .inl (G.2.1, 6, .inl g0)), (af, .inl (G.2.1, 6, .inl d)), (fo, .inl (G.2.1, 6, .inl e))] [(tr, .inr (5, [.ref wy, .ref fd, .ref tv, .int (nI sp)])), (wy, .inl (G.2.1, 400, .inl Wf)), (tv, .inl (G.2.1, 2400, .inl Tf)), (fd, .inl (G.2.1, 400, .inl Df)), (ma, .inr (2, [.ref sk, .int (nI h)])), (sk, .inl (G.2.1, 8, .inl st)), (be, .inl (G.2.1, 6, .inl g0)), (af, .inl (G.2.1, 6, .inl d)), (fo, .inl (G.2.1, 6, .inl e))] rs [0, 1, 3, 2, 4, 5, 6, 7, 8] rfl rfl rfl ?_
  refine go_cV C (c_X5_begin G ((fd, .inl (G.2.1, 400, .inl Df)) :: (ma, .inr (2, [.ref sk, .int (nI h)])) :: (sk, .inl (G.2.1, 8, .inl st)) :: (be, .inl (G.2.1, 6, .inl g0)) :: (af, .inl (G.2.1, 6, .inl d)) :: (fo, .inl (G.2.1, 6, .inl e)) :: rs) (p2 + 6) (p4 + 6) (p1 + 6) tr wy fd tv sp Wf Tf so va pa ne ol z.1 z.2.2.1 fi f0 hp2 hp4 hp1 (by omega) (by omega)) ml_X8_233 mc_X5_begin dX8_layTrace_12 [] rfl rfl 0 rfl rfl rfl ⟨Nat.le_of_ble_eq_true rfl, Nat.le_of_ble_eq_true rfl, Nat.zero_le _, Nat.zero_le _, Nat.le_of_ble_eq_true rfl⟩ [] rfl ?_
  refine go_iconst C (0) dX8_layTrace_15 (by decide) ?_
  refine go_istore_n C [(0, .ref me), (1, .int 0)] dX8_layTrace_16 [1, 0] rfl (by decide) rfl ?_
  refine go_perm [(tr, .inr (5, [.ref wy, .ref fd, .ref tv, .int (nI (pc_sp z.1 z.2.2.1 400 0 (nI (z.1 - 1))))])), (wy, .inl (G.2.1, 400, .inl (pc_wl z.1 z.2.2.1 (pc_sp z.1 z.2.2.1 400 0 (nI (z.1 - 1)) + 1) (nI (z.1 - 1)) Wf))), (tv, .inl (G.2.1, 2400, .inl (pc_wr Tf 0 f0))), (fd, .inl (G.2.1, 400, .inl Df)), (ma, .inr (2, [.ref sk, .int (nI h)])), (sk, .inl (G.2.1, 8, .inl st)), (be, .inl (G.2.1, 6, .inl g0)), (af, .inl (G.2.1, 6, .inl d)), (fo, .inl (G.2.1, 6, .inl e))] [(tr, .inr (5, [.ref wy, .ref fd, .ref tv, .int (nI (pc_sp z.1 z.2.2.1 400 0 (nI (z.1 - 1))))])), (wy, .inl (G.2.1, 400, .inl (pc_wl z.1 z.2.2.1 (pc_sp z.1 z.2.2.1 400 0 (nI (z.1 - 1)) + 1) (nI (z.1 - 1)) Wf))), (fd, .inl (G.2.1, 400, .inl Df)), (tv, .inl (G.2.1, 2400, .inl (pc_wr Tf 0 f0))), (ma, .inr (2, [.ref sk, .int (nI h)])), (sk, .inl (G.2.1, 8, .inl st)), (be, .inl (G.2.1, 6, .inl g0)), (af, .inl (G.2.1, 6, .inl d)), (fo, .inl (G.2.1, 6, .inl e))] rs [0, 1, 3, 2, 4, 5, 6, 7, 8] rfl rfl rfl ?_
  exact l_X8_layTrace_17 G rs p0 p1 p2 p3 p4 p5 p6 p7 p8 p9 p10 me fi ak bl ru iv ma so tr be af fo sl ex va pa ne ol z wy fd tv sp Wf Df Tf sk h st nb Bf rows nth nr ra wa ln F pr pw f0 g0 d e hp0 hp1 hp2 hp3 hp4 hp5 hp6 hp7 hp8 hp9 hp10 hrow hwd hln hnr hRK hc hc1 (pc_sp z.1 z.2.2.1 400 0 (nI (z.1 - 1))) (pc_wl z.1 z.2.2.1 (pc_sp z.1 z.2.2.1 400 0 (nI (z.1 - 1)) + 1) (nI (z.1 - 1)) Wf) (by omega) rfl rfl C E 400 0 Df (pc_wr Tf 0 f0) h st g0 d e (by omega) (by omega) rfl
end
