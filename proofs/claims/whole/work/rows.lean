section
-- ===== PART A: goes FIRST, ahead of the names: the tables' words, and 'selects' of the private methods out of them =====
/-- a private method of a class that the tables say can be made, by its rows of tables_1 -/
def lw_okq (q : MethodName × Nat) : Prop := (q.1.cls ≠ "java/lang/invoke/MethodHandle" ∧ q.1.cls ≠ "java/lang/invoke/VarHandle") ∧ Cond.instantiable q.1.cls q.2 ∈ tables_1 ∧ Cond.privateMethod q.1 ∈ tables_1 ∧ Cond.instanceMethod q.1 ∈ tables_1
theorem lw_p0 : lw_okq (⟨"TraceTier", "forgetProgram", "()V"⟩, 13) := ⟨⟨by decide +kernel, by decide +kernel⟩, List.mem_of_getElem? (i := 23) (by decide +kernel), List.mem_of_getElem? (i := 348) (by decide +kernel), List.mem_of_getElem? (i := 349) (by decide +kernel)⟩
theorem lw_p1 : lw_okq (⟨"java/lang/Throwable", "fillInStackTrace", "(I)Ljava/lang/Throwable;"⟩, 6) := ⟨⟨by decide +kernel, by decide +kernel⟩, List.mem_of_getElem? (i := 430) (by decide +kernel), List.mem_of_getElem? (i := 428) (by decide +kernel), List.mem_of_getElem? (i := 429) (by decide +kernel)⟩
theorem lw_p2 : lw_okq (⟨"TraceTier$Code", "reach", "(II)Z"⟩, 6) := ⟨⟨by decide +kernel, by decide +kernel⟩, List.mem_of_getElem? (i := 31) (by decide +kernel), List.mem_of_getElem? (i := 492) (by decide +kernel), List.mem_of_getElem? (i := 493) (by decide +kernel)⟩
theorem lw_p3 : lw_okq (⟨"TraceTier$Code", "leadsOnWell", "(I)Z"⟩, 6) := ⟨⟨by decide +kernel, by decide +kernel⟩, List.mem_of_getElem? (i := 31) (by decide +kernel), List.mem_of_getElem? (i := 496) (by decide +kernel), List.mem_of_getElem? (i := 497) (by decide +kernel)⟩
theorem lw_p4 : lw_okq (⟨"TraceTier", "step", "()V"⟩, 13) := ⟨⟨by decide +kernel, by decide +kernel⟩, List.mem_of_getElem? (i := 23) (by decide +kernel), List.mem_of_getElem? (i := 514) (by decide +kernel), List.mem_of_getElem? (i := 515) (by decide +kernel)⟩
theorem lw_p5 : lw_okq (⟨"TraceTier", "interpret", "()V"⟩, 13) := ⟨⟨by decide +kernel, by decide +kernel⟩, List.mem_of_getElem? (i := 23) (by decide +kernel), List.mem_of_getElem? (i := 522) (by decide +kernel), List.mem_of_getElem? (i := 523) (by decide +kernel)⟩
theorem lw_p6 : lw_okq (⟨"TraceTier", "giveUpRecording", "()V"⟩, 13) := ⟨⟨by decide +kernel, by decide +kernel⟩, List.mem_of_getElem? (i := 23) (by decide +kernel), List.mem_of_getElem? (i := 531) (by decide +kernel), List.mem_of_getElem? (i := 532) (by decide +kernel)⟩
theorem lw_p7 : lw_okq (⟨"TraceTier", "execute", "(II)Z"⟩, 13) := ⟨⟨by decide +kernel, by decide +kernel⟩, List.mem_of_getElem? (i := 23) (by decide +kernel), List.mem_of_getElem? (i := 535) (by decide +kernel), List.mem_of_getElem? (i := 536) (by decide +kernel)⟩
theorem lw_p8 : lw_okq (⟨"TraceTier", "halt", "()V"⟩, 13) := ⟨⟨by decide +kernel, by decide +kernel⟩, List.mem_of_getElem? (i := 23) (by decide +kernel), List.mem_of_getElem? (i := 554) (by decide +kernel), List.mem_of_getElem? (i := 555) (by decide +kernel)⟩
theorem lw_p9 : lw_okq (⟨"TraceTier", "countJumpTo", "(I)V"⟩, 13) := ⟨⟨by decide +kernel, by decide +kernel⟩, List.mem_of_getElem? (i := 23) (by decide +kernel), List.mem_of_getElem? (i := 568) (by decide +kernel), List.mem_of_getElem? (i := 569) (by decide +kernel)⟩
theorem lw_p10 : lw_okq (⟨"TraceTier", "takeTurn", "(I)V"⟩, 13) := ⟨⟨by decide +kernel, by decide +kernel⟩, List.mem_of_getElem? (i := 23) (by decide +kernel), List.mem_of_getElem? (i := 576) (by decide +kernel), List.mem_of_getElem? (i := 577) (by decide +kernel)⟩
theorem lw_p11 : lw_okq (⟨"TraceTier", "keepTrace", "()V"⟩, 13) := ⟨⟨by decide +kernel, by decide +kernel⟩, List.mem_of_getElem? (i := 23) (by decide +kernel), List.mem_of_getElem? (i := 613) (by decide +kernel), List.mem_of_getElem? (i := 614) (by decide +kernel)⟩
theorem lw_p12 : lw_okq (⟨"TraceTier$TraceMaker", "forgetLast", "()V"⟩, 6) := ⟨⟨by decide +kernel, by decide +kernel⟩, List.mem_of_getElem? (i := 178) (by decide +kernel), List.mem_of_getElem? (i := 633) (by decide +kernel), List.mem_of_getElem? (i := 634) (by decide +kernel)⟩
theorem lw_p13 : lw_okq (⟨"TraceTier$TraceMaker", "follow", "(LTraceTier$Trace;IZLTraceTier$Code;)V"⟩, 6) := ⟨⟨by decide +kernel, by decide +kernel⟩, List.mem_of_getElem? (i := 178) (by decide +kernel), List.mem_of_getElem? (i := 638) (by decide +kernel), List.mem_of_getElem? (i := 639) (by decide +kernel)⟩
theorem lw_p14 : lw_okq (⟨"TraceTier$TraceMaker", "combine", "(LTraceTier$Values;III)I"⟩, 6) := ⟨⟨by decide +kernel, by decide +kernel⟩, List.mem_of_getElem? (i := 178) (by decide +kernel), List.mem_of_getElem? (i := 645) (by decide +kernel), List.mem_of_getElem? (i := 646) (by decide +kernel)⟩
theorem lw_p15 : lw_okq (⟨"TraceTier$TraceMaker", "came", "(II)V"⟩, 6) := ⟨⟨by decide +kernel, by decide +kernel⟩, List.mem_of_getElem? (i := 178) (by decide +kernel), List.mem_of_getElem? (i := 654) (by decide +kernel), List.mem_of_getElem? (i := 655) (by decide +kernel)⟩
def lw_privs_1 : List (MethodName × Nat) := [(⟨"TraceTier", "forgetProgram", "()V"⟩, 13), (⟨"java/lang/Throwable", "fillInStackTrace", "(I)Ljava/lang/Throwable;"⟩, 6), (⟨"TraceTier$Code", "reach", "(II)Z"⟩, 6), (⟨"TraceTier$Code", "leadsOnWell", "(I)Z"⟩, 6), (⟨"TraceTier", "step", "()V"⟩, 13), (⟨"TraceTier", "interpret", "()V"⟩, 13), (⟨"TraceTier", "giveUpRecording", "()V"⟩, 13), (⟨"TraceTier", "execute", "(II)Z"⟩, 13), (⟨"TraceTier", "halt", "()V"⟩, 13), (⟨"TraceTier", "countJumpTo", "(I)V"⟩, 13), (⟨"TraceTier", "takeTurn", "(I)V"⟩, 13), (⟨"TraceTier", "keepTrace", "()V"⟩, 13), (⟨"TraceTier$TraceMaker", "forgetLast", "()V"⟩, 6), (⟨"TraceTier$TraceMaker", "follow", "(LTraceTier$Trace;IZLTraceTier$Code;)V"⟩, 6), (⟨"TraceTier$TraceMaker", "combine", "(LTraceTier$Values;III)I"⟩, 6), (⟨"TraceTier$TraceMaker", "came", "(II)V"⟩, 6)]
theorem lw_r1 : ∀ q ∈ lw_privs_1, lw_okq q := List.forall_mem_cons.mpr ⟨lw_p0, List.forall_mem_cons.mpr ⟨lw_p1, List.forall_mem_cons.mpr ⟨lw_p2, List.forall_mem_cons.mpr ⟨lw_p3, List.forall_mem_cons.mpr ⟨lw_p4, List.forall_mem_cons.mpr ⟨lw_p5, List.forall_mem_cons.mpr ⟨lw_p6, List.forall_mem_cons.mpr ⟨lw_p7, List.forall_mem_cons.mpr ⟨lw_p8, List.forall_mem_cons.mpr ⟨lw_p9, List.forall_mem_cons.mpr ⟨lw_p10, List.forall_mem_cons.mpr ⟨lw_p11, List.forall_mem_cons.mpr ⟨lw_p12, List.forall_mem_cons.mpr ⟨lw_p13, List.forall_mem_cons.mpr ⟨lw_p14, List.forall_mem_cons.mpr ⟨lw_p15, fun _ h => absurd h List.not_mem_nil⟩⟩⟩⟩⟩⟩⟩⟩⟩⟩⟩⟩⟩⟩⟩⟩
theorem lw_p16 : lw_okq (⟨"TraceTier$TraceMaker", "guard", "(LTraceTier$Trace;IZI)V"⟩, 6) := ⟨⟨by decide +kernel, by decide +kernel⟩, List.mem_of_getElem? (i := 178) (by decide +kernel), List.mem_of_getElem? (i := 658) (by decide +kernel), List.mem_of_getElem? (i := 659) (by decide +kernel)⟩
theorem lw_p17 : lw_okq (⟨"TraceTier$TraceMaker", "markParts", "(LTraceTier$Values;)V"⟩, 6) := ⟨⟨by decide +kernel, by decide +kernel⟩, List.mem_of_getElem? (i := 178) (by decide +kernel), List.mem_of_getElem? (i := 672) (by decide +kernel), List.mem_of_getElem? (i := 673) (by decide +kernel)⟩
theorem lw_p18 : lw_okq (⟨"TraceTier$TraceMaker", "markConstant", "(LTraceTier$Trace;)V"⟩, 6) := ⟨⟨by decide +kernel, by decide +kernel⟩, List.mem_of_getElem? (i := 178) (by decide +kernel), List.mem_of_getElem? (i := 680) (by decide +kernel), List.mem_of_getElem? (i := 681) (by decide +kernel)⟩
theorem lw_p19 : lw_okq (⟨"TraceTier$TraceMaker", "sortOut", "(LTraceTier$Trace;)V"⟩, 6) := ⟨⟨by decide +kernel, by decide +kernel⟩, List.mem_of_getElem? (i := 178) (by decide +kernel), List.mem_of_getElem? (i := 688) (by decide +kernel), List.mem_of_getElem? (i := 689) (by decide +kernel)⟩
theorem lw_p20 : lw_okq (⟨"TraceTierModel", "fail", "(I)I"⟩, 47) := ⟨⟨by decide +kernel, by decide +kernel⟩, List.mem_of_getElem? (i := 785) (by decide +kernel), List.mem_of_getElem? (i := 944) (by decide +kernel), List.mem_of_getElem? (i := 945) (by decide +kernel)⟩
theorem lw_p21 : lw_okq (⟨"TraceTierModel", "sound", "()Z"⟩, 47) := ⟨⟨by decide +kernel, by decide +kernel⟩, List.mem_of_getElem? (i := 785) (by decide +kernel), List.mem_of_getElem? (i := 952) (by decide +kernel), List.mem_of_getElem? (i := 953) (by decide +kernel)⟩
theorem lw_p22 : lw_okq (⟨"TraceTierModel", "leads", "(II)Z"⟩, 47) := ⟨⟨by decide +kernel, by decide +kernel⟩, List.mem_of_getElem? (i := 785) (by decide +kernel), List.mem_of_getElem? (i := 956) (by decide +kernel), List.mem_of_getElem? (i := 957) (by decide +kernel)⟩
theorem lw_p23 : lw_okq (⟨"TraceTierModel", "fresh", "()V"⟩, 47) := ⟨⟨by decide +kernel, by decide +kernel⟩, List.mem_of_getElem? (i := 785) (by decide +kernel), List.mem_of_getElem? (i := 966) (by decide +kernel), List.mem_of_getElem? (i := 967) (by decide +kernel)⟩
theorem lw_p24 : lw_okq (⟨"TraceTierModel", "giveUp", "(I)V"⟩, 47) := ⟨⟨by decide +kernel, by decide +kernel⟩, List.mem_of_getElem? (i := 785) (by decide +kernel), List.mem_of_getElem? (i := 978) (by decide +kernel), List.mem_of_getElem? (i := 979) (by decide +kernel)⟩
theorem lw_p25 : lw_okq (⟨"TraceTierModel", "traceOf", "(I)I"⟩, 47) := ⟨⟨by decide +kernel, by decide +kernel⟩, List.mem_of_getElem? (i := 785) (by decide +kernel), List.mem_of_getElem? (i := 982) (by decide +kernel), List.mem_of_getElem? (i := 983) (by decide +kernel)⟩
theorem lw_p26 : lw_okq (⟨"TraceTierModel", "turn", "(I)V"⟩, 47) := ⟨⟨by decide +kernel, by decide +kernel⟩, List.mem_of_getElem? (i := 785) (by decide +kernel), List.mem_of_getElem? (i := 986) (by decide +kernel), List.mem_of_getElem? (i := 987) (by decide +kernel)⟩
theorem lw_p27 : lw_okq (⟨"TraceTierModel", "does", "(I)I"⟩, 47) := ⟨⟨by decide +kernel, by decide +kernel⟩, List.mem_of_getElem? (i := 785) (by decide +kernel), List.mem_of_getElem? (i := 990) (by decide +kernel), List.mem_of_getElem? (i := 991) (by decide +kernel)⟩
theorem lw_p28 : lw_okq (⟨"TraceTierModel", "push", "(I)V"⟩, 47) := ⟨⟨by decide +kernel, by decide +kernel⟩, List.mem_of_getElem? (i := 785) (by decide +kernel), List.mem_of_getElem? (i := 994) (by decide +kernel), List.mem_of_getElem? (i := 995) (by decide +kernel)⟩
theorem lw_p29 : lw_okq (⟨"TraceTierModel", "pop", "()I"⟩, 47) := ⟨⟨by decide +kernel, by decide +kernel⟩, List.mem_of_getElem? (i := 785) (by decide +kernel), List.mem_of_getElem? (i := 998) (by decide +kernel), List.mem_of_getElem? (i := 999) (by decide +kernel)⟩
theorem lw_p30 : lw_okq (⟨"TraceTierModel", "give", "(I)V"⟩, 47) := ⟨⟨by decide +kernel, by decide +kernel⟩, List.mem_of_getElem? (i := 785) (by decide +kernel), List.mem_of_getElem? (i := 1005) (by decide +kernel), List.mem_of_getElem? (i := 1006) (by decide +kernel)⟩
theorem lw_p31 : lw_okq (⟨"TraceTierModel", "interpret", "()V"⟩, 47) := ⟨⟨by decide +kernel, by decide +kernel⟩, List.mem_of_getElem? (i := 785) (by decide +kernel), List.mem_of_getElem? (i := 1009) (by decide +kernel), List.mem_of_getElem? (i := 1010) (by decide +kernel)⟩
def lw_privs_2 : List (MethodName × Nat) := [(⟨"TraceTier$TraceMaker", "guard", "(LTraceTier$Trace;IZI)V"⟩, 6), (⟨"TraceTier$TraceMaker", "markParts", "(LTraceTier$Values;)V"⟩, 6), (⟨"TraceTier$TraceMaker", "markConstant", "(LTraceTier$Trace;)V"⟩, 6), (⟨"TraceTier$TraceMaker", "sortOut", "(LTraceTier$Trace;)V"⟩, 6), (⟨"TraceTierModel", "fail", "(I)I"⟩, 47), (⟨"TraceTierModel", "sound", "()Z"⟩, 47), (⟨"TraceTierModel", "leads", "(II)Z"⟩, 47), (⟨"TraceTierModel", "fresh", "()V"⟩, 47), (⟨"TraceTierModel", "giveUp", "(I)V"⟩, 47), (⟨"TraceTierModel", "traceOf", "(I)I"⟩, 47), (⟨"TraceTierModel", "turn", "(I)V"⟩, 47), (⟨"TraceTierModel", "does", "(I)I"⟩, 47), (⟨"TraceTierModel", "push", "(I)V"⟩, 47), (⟨"TraceTierModel", "pop", "()I"⟩, 47), (⟨"TraceTierModel", "give", "(I)V"⟩, 47), (⟨"TraceTierModel", "interpret", "()V"⟩, 47)]
theorem lw_r2 : ∀ q ∈ lw_privs_2, lw_okq q := List.forall_mem_cons.mpr ⟨lw_p16, List.forall_mem_cons.mpr ⟨lw_p17, List.forall_mem_cons.mpr ⟨lw_p18, List.forall_mem_cons.mpr ⟨lw_p19, List.forall_mem_cons.mpr ⟨lw_p20, List.forall_mem_cons.mpr ⟨lw_p21, List.forall_mem_cons.mpr ⟨lw_p22, List.forall_mem_cons.mpr ⟨lw_p23, List.forall_mem_cons.mpr ⟨lw_p24, List.forall_mem_cons.mpr ⟨lw_p25, List.forall_mem_cons.mpr ⟨lw_p26, List.forall_mem_cons.mpr ⟨lw_p27, List.forall_mem_cons.mpr ⟨lw_p28, List.forall_mem_cons.mpr ⟨lw_p29, List.forall_mem_cons.mpr ⟨lw_p30, List.forall_mem_cons.mpr ⟨lw_p31, fun _ h => absurd h List.not_mem_nil⟩⟩⟩⟩⟩⟩⟩⟩⟩⟩⟩⟩⟩⟩⟩⟩
theorem lw_p32 : lw_okq (⟨"TraceTierModel", "hot", "(I)V"⟩, 47) := ⟨⟨by decide +kernel, by decide +kernel⟩, List.mem_of_getElem? (i := 785) (by decide +kernel), List.mem_of_getElem? (i := 1013) (by decide +kernel), List.mem_of_getElem? (i := 1014) (by decide +kernel)⟩
theorem lw_p33 : lw_okq (⟨"TraceTierModel", "makeTrace", "()V"⟩, 47) := ⟨⟨by decide +kernel, by decide +kernel⟩, List.mem_of_getElem? (i := 785) (by decide +kernel), List.mem_of_getElem? (i := 1017) (by decide +kernel), List.mem_of_getElem? (i := 1018) (by decide +kernel)⟩
theorem lw_p34 : lw_okq (⟨"TraceTierModel", "valueOf", "(IIII)I"⟩, 47) := ⟨⟨by decide +kernel, by decide +kernel⟩, List.mem_of_getElem? (i := 785) (by decide +kernel), List.mem_of_getElem? (i := 1021) (by decide +kernel), List.mem_of_getElem? (i := 1022) (by decide +kernel)⟩
theorem lw_p35 : lw_okq (⟨"TraceTierModel", "through", "(I)I"⟩, 47) := ⟨⟨by decide +kernel, by decide +kernel⟩, List.mem_of_getElem? (i := 785) (by decide +kernel), List.mem_of_getElem? (i := 1025) (by decide +kernel), List.mem_of_getElem? (i := 1026) (by decide +kernel)⟩
theorem lw_p36 : lw_okq (⟨"TraceTierModel", "calculated", "(III)I"⟩, 47) := ⟨⟨by decide +kernel, by decide +kernel⟩, List.mem_of_getElem? (i := 785) (by decide +kernel), List.mem_of_getElem? (i := 1029) (by decide +kernel), List.mem_of_getElem? (i := 1030) (by decide +kernel)⟩
theorem lw_p37 : lw_okq (⟨"TraceTierModel", "picture", "()V"⟩, 47) := ⟨⟨by decide +kernel, by decide +kernel⟩, List.mem_of_getElem? (i := 785) (by decide +kernel), List.mem_of_getElem? (i := 1033) (by decide +kernel), List.mem_of_getElem? (i := 1034) (by decide +kernel)⟩
theorem lw_p38 : lw_okq (⟨"TraceTierModel", "keep", "(I)V"⟩, 47) := ⟨⟨by decide +kernel, by decide +kernel⟩, List.mem_of_getElem? (i := 785) (by decide +kernel), List.mem_of_getElem? (i := 1037) (by decide +kernel), List.mem_of_getElem? (i := 1038) (by decide +kernel)⟩
def lw_privs_3 : List (MethodName × Nat) := [(⟨"TraceTierModel", "hot", "(I)V"⟩, 47), (⟨"TraceTierModel", "makeTrace", "()V"⟩, 47), (⟨"TraceTierModel", "valueOf", "(IIII)I"⟩, 47), (⟨"TraceTierModel", "through", "(I)I"⟩, 47), (⟨"TraceTierModel", "calculated", "(III)I"⟩, 47), (⟨"TraceTierModel", "picture", "()V"⟩, 47), (⟨"TraceTierModel", "keep", "(I)V"⟩, 47)]
theorem lw_r3 : ∀ q ∈ lw_privs_3, lw_okq q := List.forall_mem_cons.mpr ⟨lw_p32, List.forall_mem_cons.mpr ⟨lw_p33, List.forall_mem_cons.mpr ⟨lw_p34, List.forall_mem_cons.mpr ⟨lw_p35, List.forall_mem_cons.mpr ⟨lw_p36, List.forall_mem_cons.mpr ⟨lw_p37, List.forall_mem_cons.mpr ⟨lw_p38, fun _ h => absurd h List.not_mem_nil⟩⟩⟩⟩⟩⟩⟩
def lw_privs : List (MethodName × Nat) := lw_privs_1 ++ (lw_privs_2 ++ (lw_privs_3))
def lw_tbl : List Cond := k2_sels lw_privs ++ tables_1
theorem lw_privs_ok : ∀ q ∈ lw_privs, lw_okq q := by
  show ∀ q ∈ lw_privs_1 ++ (lw_privs_2 ++ (lw_privs_3)), lw_okq q
  exact List.forall_mem_append.mpr ⟨lw_r1, List.forall_mem_append.mpr ⟨lw_r2, lw_r3⟩⟩
end
section
/-! ===== BEGIN printed: names, fields, word lists, decode rows ===== -/
def RX0 : String := "TraceTier$Code"
def TX0 : u_T := fun k => match k with
  | 0 => ("TraceTier$Code", "operations", "[I", true)
  | 1 => ("TraceTier$Code", "operands", "[I", true)
  | 2 => ("TraceTier$Code", "size", "I", false)
  | 3 => ("TraceTier$Code", "depthBefore", "[I", true)
  | 4 => ("TraceTier$Code", "reached", "[I", true)
  | _ => ("TraceTier$Code", "reachedCount", "I", false)
def tyX0 : Nat → FieldType := fun k => match k with
  | 0 => .array .int
  | 1 => .array .int
  | 2 => .int
  | 3 => .array .int
  | 4 => .array .int
  | _ => .int
abbrev wsX00 : List Cond := u_ws RX0 TX0 6
theorem nmX0 : ∀ a, a < 6 → ∀ b, b < 6 → a ≠ b → (TX0 a).2.1 ≠ (TX0 b).2.1 := by decide +kernel
theorem tyX0_ok : ∀ k, k < 6 → parseFieldDescriptor (TX0 k).2.2.1 = some (tyX0 k) := by decide +kernel
abbrev cX0_init : ByteArray := prog_2_method_1_code
def yX0_init : MethodName := ⟨RX0, "<init>", "()V"⟩
abbrev cX0_isInstruction : ByteArray := prog_2_method_2_code
def yX0_isInstruction : MethodName := ⟨RX0, "isInstruction", "(II)Z"⟩
abbrev cX0_append : ByteArray := prog_2_method_3_code
def yX0_append : MethodName := ⟨RX0, "append", "(II)V"⟩
abbrev cX0_isSound : ByteArray := prog_2_method_4_code
def yX0_isSound : MethodName := ⟨RX0, "isSound", "()Z"⟩
abbrev cX0_reach : ByteArray := prog_2_method_5_code
def yX0_reach : MethodName := ⟨RX0, "reach", "(II)Z"⟩
abbrev cX0_leadsOnWell : ByteArray := prog_2_method_6_code
def yX0_leadsOnWell : MethodName := ⟨RX0, "leadsOnWell", "(I)Z"⟩
def RX1 : String := "TraceTier$Frame"
def TX1 : u_T := fun k => match k with
  | 0 => ("TraceTier$Frame", "locals", "[I", true)
  | 1 => ("TraceTier$Frame", "stack", "[I", true)
  | 2 => ("TraceTier$Frame", "depth", "I", false)
  | _ => ("TraceTier$Frame", "next", "I", false)
def tyX1 : Nat → FieldType := fun k => match k with
  | 0 => .array .int
  | 1 => .array .int
  | 2 => .int
  | _ => .int
abbrev wsX10 : List Cond := u_ws RX1 TX1 4
theorem nmX1 : ∀ a, a < 4 → ∀ b, b < 4 → a ≠ b → (TX1 a).2.1 ≠ (TX1 b).2.1 := by decide +kernel
theorem tyX1_ok : ∀ k, k < 4 → parseFieldDescriptor (TX1 k).2.2.1 = some (tyX1 k) := by decide +kernel
abbrev cX1_init : ByteArray := prog_3_method_1_code
def yX1_init : MethodName := ⟨RX1, "<init>", "()V"⟩
abbrev cX1_reset : ByteArray := prog_3_method_2_code
def yX1_reset : MethodName := ⟨RX1, "reset", "()V"⟩
abbrev cX1_push : ByteArray := prog_3_method_3_code
def yX1_push : MethodName := ⟨RX1, "push", "(I)V"⟩
abbrev cX1_pop : ByteArray := prog_3_method_4_code
def yX1_pop : MethodName := ⟨RX1, "pop", "()I"⟩
abbrev cX1_move : ByteArray := prog_3_method_5_code
def yX1_move : MethodName := ⟨RX1, "move", "(II)V"⟩
def RX2 : String := "TraceTier$Given"
def TX2 : u_T := fun k => match k with
  | 0 => ("TraceTier$Given", "latest", "[I", true)
  | 1 => ("TraceTier$Given", "newest", "I", false)
  | _ => ("TraceTier$Given", "total", "I", false)
def tyX2 : Nat → FieldType := fun k => match k with
  | 0 => .array .int
  | 1 => .int
  | _ => .int
abbrev wsX20 : List Cond := u_ws RX2 TX2 3
theorem nmX2 : ∀ a, a < 3 → ∀ b, b < 3 → a ≠ b → (TX2 a).2.1 ≠ (TX2 b).2.1 := by decide +kernel
theorem tyX2_ok : ∀ k, k < 3 → parseFieldDescriptor (TX2 k).2.2.1 = some (tyX2 k) := by decide +kernel
abbrev cX2_init : ByteArray := prog_4_method_1_code
def yX2_init : MethodName := ⟨RX2, "<init>", "()V"⟩
abbrev cX2_reset : ByteArray := prog_4_method_2_code
def yX2_reset : MethodName := ⟨RX2, "reset", "()V"⟩
abbrev cX2_give : ByteArray := prog_4_method_3_code
def yX2_give : MethodName := ⟨RX2, "give", "(I)V"⟩
abbrev cX2_keeps : ByteArray := prog_4_method_4_code
def yX2_keeps : MethodName := ⟨RX2, "keeps", "(I)Z"⟩
abbrev cX2_back : ByteArray := prog_4_method_5_code
def yX2_back : MethodName := ⟨RX2, "back", "(I)I"⟩
def RX3 : String := "TraceTier$Guards"
def TX3 : u_T := fun k => match k with
  | 0 => ("TraceTier$Guards", "asked", "[I", true)
  | 1 => ("TraceTier$Guards", "jumped", "[Z", true)
  | 2 => ("TraceTier$Guards", "otherWays", "[I", true)
  | 3 => ("TraceTier$Guards", "depths", "[I", true)
  | 4 => ("TraceTier$Guards", "pictures", "[I", true)
  | _ => ("TraceTier$Guards", "size", "I", false)
def tyX3 : Nat → FieldType := fun k => match k with
  | 0 => .array .int
  | 1 => .array .boolean
  | 2 => .array .int
  | 3 => .array .int
  | 4 => .array .int
  | _ => .int
abbrev wsX30 : List Cond := u_ws RX3 TX3 6
theorem nmX3 : ∀ a, a < 6 → ∀ b, b < 6 → a ≠ b → (TX3 a).2.1 ≠ (TX3 b).2.1 := by decide +kernel
theorem tyX3_ok : ∀ k, k < 6 → parseFieldDescriptor (TX3 k).2.2.1 = some (tyX3 k) := by decide +kernel
abbrev cX3_init : ByteArray := prog_5_method_1_code
def yX3_init : MethodName := ⟨RX3, "<init>", "()V"⟩
abbrev cX3_has : ByteArray := prog_5_method_2_code
def yX3_has : MethodName := ⟨RX3, "has", "(IZ)Z"⟩
abbrev cX3_put : ByteArray := prog_5_method_3_code
def yX3_put : MethodName := ⟨RX3, "put", "(IZILTraceTier$Frame;)I"⟩
abbrev cX3_holds : ByteArray := prog_5_method_4_code
def yX3_holds : MethodName := ⟨RX3, "holds", "(I[I)Z"⟩
abbrev cX3_restore : ByteArray := prog_5_method_5_code
def yX3_restore : MethodName := ⟨RX3, "restore", "(I[ILTraceTier$Frame;)V"⟩
def RX4 : String := "TraceTier$Places"
def TX4 : u_T := fun k => match k with
  | 0 => ("TraceTier$Places", "counts", "[I", true)
  | 1 => ("TraceTier$Places", "marks", "[I", true)
  | _ => ("TraceTier$Places", "traceAt", "[I", true)
def tyX4 : Nat → FieldType := fun k => match k with
  | 0 => .array .int
  | 1 => .array .int
  | _ => .array .int
abbrev wsX40 : List Cond := u_ws RX4 TX4 3
theorem nmX4 : ∀ a, a < 3 → ∀ b, b < 3 → a ≠ b → (TX4 a).2.1 ≠ (TX4 b).2.1 := by decide +kernel
theorem tyX4_ok : ∀ k, k < 3 → parseFieldDescriptor (TX4 k).2.2.1 = some (tyX4 k) := by decide +kernel
abbrev cX4_init : ByteArray := prog_6_method_1_code
def yX4_init : MethodName := ⟨RX4, "<init>", "()V"⟩
abbrev cX4_reset : ByteArray := prog_6_method_2_code
def yX4_reset : MethodName := ⟨RX4, "reset", "()V"⟩
def RX5 : String := "TraceTier$Recording"
def TX5 : u_T := fun k => match k with
  | 0 => ("TraceTier$Recording", "done", "[I", true)
  | 1 => ("TraceTier$Recording", "jumped", "[Z", true)
  | 2 => ("TraceTier$Recording", "start", "I", false)
  | _ => ("TraceTier$Recording", "length", "I", false)
def tyX5 : Nat → FieldType := fun k => match k with
  | 0 => .array .int
  | 1 => .array .boolean
  | 2 => .int
  | _ => .int
abbrev wsX50 : List Cond := u_ws RX5 TX5 4
theorem nmX5 : ∀ a, a < 4 → ∀ b, b < 4 → a ≠ b → (TX5 a).2.1 ≠ (TX5 b).2.1 := by decide +kernel
theorem tyX5_ok : ∀ k, k < 4 → parseFieldDescriptor (TX5 k).2.2.1 = some (tyX5 k) := by decide +kernel
abbrev cX5_init : ByteArray := prog_7_method_1_code
def yX5_init : MethodName := ⟨RX5, "<init>", "()V"⟩
abbrev cX5_isOn : ByteArray := prog_7_method_2_code
def yX5_isOn : MethodName := ⟨RX5, "isOn", "()Z"⟩
abbrev cX5_isFull : ByteArray := prog_7_method_3_code
def yX5_isFull : MethodName := ⟨RX5, "isFull", "()Z"⟩
abbrev cX5_closesAt : ByteArray := prog_7_method_4_code
def yX5_closesAt : MethodName := ⟨RX5, "closesAt", "(I)Z"⟩
abbrev cX5_startAt : ByteArray := prog_7_method_5_code
def yX5_startAt : MethodName := ⟨RX5, "startAt", "(I)V"⟩
abbrev cX5_stop : ByteArray := prog_7_method_6_code
def yX5_stop : MethodName := ⟨RX5, "stop", "()V"⟩
abbrev cX5_note : ByteArray := prog_7_method_7_code
def yX5_note : MethodName := ⟨RX5, "note", "(IZ)V"⟩
def RX6 : String := "TraceTier$Tally"
def TX6 : u_T := fun k => match k with
  | 0 => ("TraceTier$Tally", "instructions", "I", false)
  | 1 => ("TraceTier$Tally", "wholeTurns", "I", false)
  | 2 => ("TraceTier$Tally", "leaves", "I", false)
  | _ => ("TraceTier$Tally", "traceWork", "I", false)
def tyX6 : Nat → FieldType := fun k => match k with
  | 0 => .int
  | 1 => .int
  | 2 => .int
  | _ => .int
abbrev wsX60 : List Cond := u_ws RX6 TX6 4
theorem nmX6 : ∀ a, a < 4 → ∀ b, b < 4 → a ≠ b → (TX6 a).2.1 ≠ (TX6 b).2.1 := by decide +kernel
theorem tyX6_ok : ∀ k, k < 4 → parseFieldDescriptor (TX6 k).2.2.1 = some (tyX6 k) := by decide +kernel
abbrev cX6_init : ByteArray := prog_8_method_1_code
def yX6_init : MethodName := ⟨RX6, "<init>", "()V"⟩
abbrev cX6_reset : ByteArray := prog_8_method_2_code
def yX6_reset : MethodName := ⟨RX6, "reset", "()V"⟩
def RX7 : String := "TraceTier$Trace"
def TX7 : u_T := fun k => match k with
  | 0 => ("TraceTier$Trace", "values", "LTraceTier$Values;", true)
  | 1 => ("TraceTier$Trace", "guards", "LTraceTier$Guards;", true)
  | 2 => ("TraceTier$Trace", "nextValues", "[I", true)
  | 3 => ("TraceTier$Trace", "start", "I", false)
  | 4 => ("TraceTier$Trace", "headSize", "I", false)
  | 5 => ("TraceTier$Trace", "outCount", "I", false)
  | 6 => ("TraceTier$Trace", "head", "[I", true)
  | 7 => ("TraceTier$Trace", "bodyKinds", "[I", true)
  | 8 => ("TraceTier$Trace", "bodyParts", "[I", true)
  | _ => ("TraceTier$Trace", "bodySize", "I", false)
def tyX7 : Nat → FieldType := fun k => match k with
  | 0 => .object "TraceTier$Values"
  | 1 => .object "TraceTier$Guards"
  | 2 => .array .int
  | 3 => .int
  | 4 => .int
  | 5 => .int
  | 6 => .array .int
  | 7 => .array .int
  | 8 => .array .int
  | _ => .int
abbrev wsX70 : List Cond := u_ws RX7 TX7 10
theorem nmX7 : ∀ a, a < 10 → ∀ b, b < 10 → a ≠ b → (TX7 a).2.1 ≠ (TX7 b).2.1 := by decide +kernel
theorem tyX7_ok : ∀ k, k < 10 → parseFieldDescriptor (TX7 k).2.2.1 = some (tyX7 k) := by decide +kernel
abbrev cX7_init : ByteArray := prog_9_method_1_code
def yX7_init : MethodName := ⟨RX7, "<init>", "()V"⟩
abbrev cX7_resetAt : ByteArray := prog_9_method_2_code
def yX7_resetAt : MethodName := ⟨RX7, "resetAt", "(I)V"⟩
abbrev cX7_putInHead : ByteArray := prog_9_method_3_code
def yX7_putInHead : MethodName := ⟨RX7, "putInHead", "(I)V"⟩
abbrev cX7_putInBody : ByteArray := prog_9_method_4_code
def yX7_putInBody : MethodName := ⟨RX7, "putInBody", "(II)V"⟩
abbrev cX7_bodyOperations : ByteArray := prog_9_method_5_code
def yX7_bodyOperations : MethodName := ⟨RX7, "bodyOperations", "()I"⟩
abbrev cX7_stays : ByteArray := prog_9_method_6_code
def yX7_stays : MethodName := ⟨RX7, "stays", "(I)Z"⟩
abbrev cX7_countStaying : ByteArray := prog_9_method_7_code
def yX7_countStaying : MethodName := ⟨RX7, "countStaying", "()I"⟩
abbrev cX7_doHead : ByteArray := prog_9_method_8_code
def yX7_doHead : MethodName := ⟨RX7, "doHead", "(LTraceTier$Tally;)V"⟩
abbrev cX7_doBody : ByteArray := prog_9_method_9_code
def yX7_doBody : MethodName := ⟨RX7, "doBody", "(LTraceTier$Frame;LTraceTier$Given;LTraceTier$Tally;)Z"⟩
def RX8 : String := "TraceTier$TraceMaker"
def TX8 : u_T := fun k => match k with
  | 0 => ("TraceTier$TraceMaker", "frame", "LTraceTier$Frame;", true)
  | 1 => ("TraceTier$TraceMaker", "cameKinds", "[I", true)
  | 2 => ("TraceTier$TraceMaker", "cameParts", "[I", true)
  | 3 => ("TraceTier$TraceMaker", "cameCount", "I", false)
  | 4 => ("TraceTier$TraceMaker", "needed", "[Z", true)
  | _ => ("TraceTier$TraceMaker", "constant", "[Z", true)
def tyX8 : Nat → FieldType := fun k => match k with
  | 0 => .object "TraceTier$Frame"
  | 1 => .array .int
  | 2 => .array .int
  | 3 => .int
  | 4 => .array .boolean
  | _ => .array .boolean
abbrev wsX80 : List Cond := u_ws RX8 TX8 6
theorem nmX8 : ∀ a, a < 6 → ∀ b, b < 6 → a ≠ b → (TX8 a).2.1 ≠ (TX8 b).2.1 := by decide +kernel
theorem tyX8_ok : ∀ k, k < 6 → parseFieldDescriptor (TX8 k).2.2.1 = some (tyX8 k) := by decide +kernel
abbrev cX8_init : ByteArray := prog_10_method_1_code
def yX8_init : MethodName := ⟨RX8, "<init>", "()V"⟩
abbrev cX8_make : ByteArray := prog_10_method_2_code
def yX8_make : MethodName := ⟨RX8, "make", "(LTraceTier$Trace;LTraceTier$Code;LTraceTier$Recording;)V"⟩
abbrev cX8_forgetLast : ByteArray := prog_10_method_3_code
def yX8_forgetLast : MethodName := ⟨RX8, "forgetLast", "()V"⟩
abbrev cX8_follow : ByteArray := prog_10_method_4_code
def yX8_follow : MethodName := ⟨RX8, "follow", "(LTraceTier$Trace;IZLTraceTier$Code;)V"⟩
abbrev cX8_combine : ByteArray := prog_10_method_5_code
def yX8_combine : MethodName := ⟨RX8, "combine", "(LTraceTier$Values;III)I"⟩
abbrev cX8_guard : ByteArray := prog_10_method_6_code
def yX8_guard : MethodName := ⟨RX8, "guard", "(LTraceTier$Trace;IZI)V"⟩
abbrev cX8_came : ByteArray := prog_10_method_7_code
def yX8_came : MethodName := ⟨RX8, "came", "(II)V"⟩
abbrev cX8_markParts : ByteArray := prog_10_method_8_code
def yX8_markParts : MethodName := ⟨RX8, "markParts", "(LTraceTier$Values;)V"⟩
abbrev cX8_markConstant : ByteArray := prog_10_method_9_code
def yX8_markConstant : MethodName := ⟨RX8, "markConstant", "(LTraceTier$Trace;)V"⟩
abbrev cX8_sortOut : ByteArray := prog_10_method_10_code
def yX8_sortOut : MethodName := ⟨RX8, "sortOut", "(LTraceTier$Trace;)V"⟩
def RX9 : String := "TraceTier$Values"
def TX9 : u_T := fun k => match k with
  | 0 => ("TraceTier$Values", "kinds", "[I", true)
  | 1 => ("TraceTier$Values", "lefts", "[I", true)
  | 2 => ("TraceTier$Values", "rights", "[I", true)
  | 3 => ("TraceTier$Values", "results", "[I", true)
  | _ => ("TraceTier$Values", "size", "I", false)
def tyX9 : Nat → FieldType := fun k => match k with
  | 0 => .array .int
  | 1 => .array .int
  | 2 => .array .int
  | 3 => .array .int
  | _ => .int
abbrev wsX90 : List Cond := u_ws RX9 TX9 5
theorem nmX9 : ∀ a, a < 5 → ∀ b, b < 5 → a ≠ b → (TX9 a).2.1 ≠ (TX9 b).2.1 := by decide +kernel
theorem tyX9_ok : ∀ k, k < 5 → parseFieldDescriptor (TX9 k).2.2.1 = some (tyX9 k) := by decide +kernel
abbrev cX9_init : ByteArray := prog_11_method_1_code
def yX9_init : MethodName := ⟨RX9, "<init>", "()V"⟩
abbrev cX9_result : ByteArray := prog_11_method_2_code
def yX9_result : MethodName := ⟨RX9, "result", "(III)I"⟩
abbrev cX9_reset : ByteArray := prog_11_method_3_code
def yX9_reset : MethodName := ⟨RX9, "reset", "()V"⟩
abbrev cX9_share : ByteArray := prog_11_method_4_code
def yX9_share : MethodName := ⟨RX9, "share", "(III)I"⟩
abbrev cX9_isNumber : ByteArray := prog_11_method_5_code
def yX9_isNumber : MethodName := ⟨RX9, "isNumber", "(I)Z"⟩
abbrev cX9_isOperation : ByteArray := prog_11_method_6_code
def yX9_isOperation : MethodName := ⟨RX9, "isOperation", "(I)Z"⟩
abbrev cX9_takeLocals : ByteArray := prog_11_method_7_code
def yX9_takeLocals : MethodName := ⟨RX9, "takeLocals", "([I)V"⟩
abbrev cX9_work : ByteArray := prog_11_method_8_code
def yX9_work : MethodName := ⟨RX9, "work", "(I)V"⟩
def RX10 : String := "TraceTier"
def TX10 : u_T := fun k => match k with
  | 0 => ("TraceTier", "code", "LTraceTier$Code;", true)
  | 1 => ("TraceTier", "frame", "LTraceTier$Frame;", true)
  | 2 => ("TraceTier", "given", "LTraceTier$Given;", true)
  | 3 => ("TraceTier", "tally", "LTraceTier$Tally;", true)
  | 4 => ("TraceTier", "places", "LTraceTier$Places;", true)
  | 5 => ("TraceTier", "recording", "LTraceTier$Recording;", true)
  | 6 => ("TraceTier", "maker", "LTraceTier$TraceMaker;", true)
  | 7 => ("TraceTier", "traces", "[LTraceTier$Trace;", true)
  | 8 => ("TraceTier", "traceCount", "I", false)
  | 9 => ("TraceTier", "begun", "Z", false)
  | 10 => ("TraceTier", "halted", "Z", false)
  | 11 => ("TraceTier", "tier", "Z", false)
  | _ => ("TraceTier", "lastWhole", "I", false)
def tyX10 : Nat → FieldType := fun k => match k with
  | 0 => .object "TraceTier$Code"
  | 1 => .object "TraceTier$Frame"
  | 2 => .object "TraceTier$Given"
  | 3 => .object "TraceTier$Tally"
  | 4 => .object "TraceTier$Places"
  | 5 => .object "TraceTier$Recording"
  | 6 => .object "TraceTier$TraceMaker"
  | 7 => .array (.object "TraceTier$Trace")
  | 8 => .int
  | 9 => .boolean
  | 10 => .boolean
  | 11 => .boolean
  | _ => .int
abbrev wsX100 : List Cond := u_ws RX10 TX10 13
theorem nmX10 : ∀ a, a < 13 → ∀ b, b < 13 → a ≠ b → (TX10 a).2.1 ≠ (TX10 b).2.1 := by decide +kernel
theorem tyX10_ok : ∀ k, k < 13 → parseFieldDescriptor (TX10 k).2.2.1 = some (tyX10 k) := by decide +kernel
abbrev cX10_init : ByteArray := prog_1_method_1_code
def yX10_init : MethodName := ⟨RX10, "<init>", "()V"⟩
abbrev cX10_add : ByteArray := prog_1_method_2_code
def yX10_add : MethodName := ⟨RX10, "add", "(II)I"⟩
abbrev cX10_begin : ByteArray := prog_1_method_3_code
def yX10_begin : MethodName := ⟨RX10, "begin", "(IIZ)Z"⟩
abbrev cX10_run : ByteArray := prog_1_method_4_code
def yX10_run : MethodName := ⟨RX10, "run", "(I)I"⟩
abbrev cX10_clear : ByteArray := prog_1_method_5_code
def yX10_clear : MethodName := ⟨RX10, "clear", "()I"⟩
abbrev cX10_local : ByteArray := prog_1_method_6_code
def yX10_local : MethodName := ⟨RX10, "local", "(I)I"⟩
abbrev cX10_top : ByteArray := prog_1_method_7_code
def yX10_top : MethodName := ⟨RX10, "top", "(I)I"⟩
abbrev cX10_outs : ByteArray := prog_1_method_8_code
def yX10_outs : MethodName := ⟨RX10, "outs", "()I"⟩
abbrev cX10_out : ByteArray := prog_1_method_9_code
def yX10_out : MethodName := ⟨RX10, "out", "(I)I"⟩
abbrev cX10_count : ByteArray := prog_1_method_10_code
def yX10_count : MethodName := ⟨RX10, "count", "(I)I"⟩
abbrev cX10_place : ByteArray := prog_1_method_11_code
def yX10_place : MethodName := ⟨RX10, "place", "(II)I"⟩
abbrev cX10_trace : ByteArray := prog_1_method_12_code
def yX10_trace : MethodName := ⟨RX10, "trace", "(II)I"⟩
abbrev cX10_forgetProgram : ByteArray := prog_1_method_13_code
def yX10_forgetProgram : MethodName := ⟨RX10, "forgetProgram", "()V"⟩
abbrev cX10_step : ByteArray := prog_1_method_14_code
def yX10_step : MethodName := ⟨RX10, "step", "()V"⟩
abbrev cX10_takeTurn : ByteArray := prog_1_method_15_code
def yX10_takeTurn : MethodName := ⟨RX10, "takeTurn", "(I)V"⟩
abbrev cX10_interpret : ByteArray := prog_1_method_16_code
def yX10_interpret : MethodName := ⟨RX10, "interpret", "()V"⟩
abbrev cX10_execute : ByteArray := prog_1_method_17_code
def yX10_execute : MethodName := ⟨RX10, "execute", "(II)Z"⟩
abbrev cX10_halt : ByteArray := prog_1_method_18_code
def yX10_halt : MethodName := ⟨RX10, "halt", "()V"⟩
abbrev cX10_countJumpTo : ByteArray := prog_1_method_19_code
def yX10_countJumpTo : MethodName := ⟨RX10, "countJumpTo", "(I)V"⟩
abbrev cX10_giveUpRecording : ByteArray := prog_1_method_20_code
def yX10_giveUpRecording : MethodName := ⟨RX10, "giveUpRecording", "()V"⟩
abbrev cX10_keepTrace : ByteArray := prog_1_method_21_code
def yX10_keepTrace : MethodName := ⟨RX10, "keepTrace", "()V"⟩
def RX11 : String := "TraceTierModel"
def TX11 : u_T := fun k => match k with
  | 0 => ("TraceTierModel", "thrown", "I", false)
  | 1 => ("TraceTierModel", "size", "I", false)
  | 2 => ("TraceTierModel", "operation", "[I", true)
  | 3 => ("TraceTierModel", "operand", "[I", true)
  | 4 => ("TraceTierModel", "depthAt", "[I", true)
  | 5 => ("TraceTierModel", "begun", "Z", false)
  | 6 => ("TraceTierModel", "tier", "Z", false)
  | 7 => ("TraceTierModel", "at", "I", false)
  | 8 => ("TraceTierModel", "locals", "[I", true)
  | 9 => ("TraceTierModel", "depth", "I", false)
  | 10 => ("TraceTierModel", "stack", "[I", true)
  | 11 => ("TraceTierModel", "outs", "I", false)
  | 12 => ("TraceTierModel", "given", "[I", true)
  | 13 => ("TraceTierModel", "counts", "[I", true)
  | 14 => ("TraceTierModel", "marks", "[I", true)
  | 15 => ("TraceTierModel", "recording", "I", false)
  | 16 => ("TraceTierModel", "recorded", "I", false)
  | 17 => ("TraceTierModel", "recordedAt", "[I", true)
  | 18 => ("TraceTierModel", "ways", "[Z", true)
  | 19 => ("TraceTierModel", "traces", "I", false)
  | 20 => ("TraceTierModel", "latest", "I", false)
  | 21 => ("TraceTierModel", "starts", "[I", true)
  | 22 => ("TraceTierModel", "lengths", "[I", true)
  | 23 => ("TraceTierModel", "traced", "[I", true)
  | 24 => ("TraceTierModel", "tracedWays", "[Z", true)
  | 25 => ("TraceTierModel", "done", "[I", true)
  | 26 => ("TraceTierModel", "heads", "[I", true)
  | 27 => ("TraceTierModel", "bodies", "[I", true)
  | 28 => ("TraceTierModel", "guards", "[I", true)
  | 29 => ("TraceTierModel", "gives", "[I", true)
  | 30 => ("TraceTierModel", "stays", "[I", true)
  | 31 => ("TraceTierModel", "interpreted", "I", false)
  | 32 => ("TraceTierModel", "whole", "I", false)
  | 33 => ("TraceTierModel", "leftCount", "I", false)
  | 34 => ("TraceTierModel", "work", "I", false)
  | 35 => ("TraceTierModel", "values", "I", false)
  | 36 => ("TraceTierModel", "kind", "[I", true)
  | 37 => ("TraceTierModel", "what", "[I", true)
  | 38 => ("TraceTierModel", "first", "[I", true)
  | 39 => ("TraceTierModel", "second", "[I", true)
  | 40 => ("TraceTierModel", "needed", "[Z", true)
  | 41 => ("TraceTierModel", "constant", "[Z", true)
  | 42 => ("TraceTierModel", "asked", "[I", true)
  | 43 => ("TraceTierModel", "hold", "[I", true)
  | 44 => ("TraceTierModel", "high", "I", false)
  | 45 => ("TraceTierModel", "above", "[I", true)
  | _ => ("TraceTierModel", "makes", "[I", true)
def tyX11 : Nat → FieldType := fun k => match k with
  | 0 => .int
  | 1 => .int
  | 2 => .array .int
  | 3 => .array .int
  | 4 => .array .int
  | 5 => .boolean
  | 6 => .boolean
  | 7 => .int
  | 8 => .array .int
  | 9 => .int
  | 10 => .array .int
  | 11 => .int
  | 12 => .array .int
  | 13 => .array .int
  | 14 => .array .int
  | 15 => .int
  | 16 => .int
  | 17 => .array .int
  | 18 => .array .boolean
  | 19 => .int
  | 20 => .int
  | 21 => .array .int
  | 22 => .array .int
  | 23 => .array .int
  | 24 => .array .boolean
  | 25 => .array .int
  | 26 => .array .int
  | 27 => .array .int
  | 28 => .array .int
  | 29 => .array .int
  | 30 => .array .int
  | 31 => .int
  | 32 => .int
  | 33 => .int
  | 34 => .int
  | 35 => .int
  | 36 => .array .int
  | 37 => .array .int
  | 38 => .array .int
  | 39 => .array .int
  | 40 => .array .boolean
  | 41 => .array .boolean
  | 42 => .array .int
  | 43 => .array .int
  | 44 => .int
  | 45 => .array .int
  | _ => .array .int
abbrev wsX110 : List Cond := u_ws RX11 TX11 47
theorem nmX11 : ∀ a, a < 47 → ∀ b, b < 47 → a ≠ b → (TX11 a).2.1 ≠ (TX11 b).2.1 := by decide +kernel
theorem tyX11_ok : ∀ k, k < 47 → parseFieldDescriptor (TX11 k).2.2.1 = some (tyX11 k) := by decide +kernel
abbrev cX11_init : ByteArray := prog_13_method_1_code
def yX11_init : MethodName := ⟨RX11, "<init>", "()V"⟩
abbrev cX11_thrown : ByteArray := prog_13_method_2_code
def yX11_thrown : MethodName := ⟨RX11, "thrown", "()I"⟩
abbrev cX11_fail : ByteArray := prog_13_method_3_code
def yX11_fail : MethodName := ⟨RX11, "fail", "(I)I"⟩
abbrev cX11_within : ByteArray := prog_13_method_4_code
def yX11_within : MethodName := ⟨RX11, "within", "(III)Z"⟩
abbrev cX11_add : ByteArray := prog_13_method_5_code
def yX11_add : MethodName := ⟨RX11, "add", "(II)I"⟩
abbrev cX11_takes : ByteArray := prog_13_method_6_code
def yX11_takes : MethodName := ⟨RX11, "takes", "(I)I"⟩
abbrev cX11_leaves : ByteArray := prog_13_method_7_code
def yX11_leaves : MethodName := ⟨RX11, "leaves", "(I)I"⟩
abbrev cX11_leads : ByteArray := prog_13_method_8_code
def yX11_leads : MethodName := ⟨RX11, "leads", "(II)Z"⟩
abbrev cX11_sound : ByteArray := prog_13_method_9_code
def yX11_sound : MethodName := ⟨RX11, "sound", "()Z"⟩
abbrev cX11_fresh : ByteArray := prog_13_method_10_code
def yX11_fresh : MethodName := ⟨RX11, "fresh", "()V"⟩
abbrev cX11_begin : ByteArray := prog_13_method_11_code
def yX11_begin : MethodName := ⟨RX11, "begin", "(IIZ)Z"⟩
abbrev cX11_clear : ByteArray := prog_13_method_12_code
def yX11_clear : MethodName := ⟨RX11, "clear", "()I"⟩
abbrev cX11_push : ByteArray := prog_13_method_13_code
def yX11_push : MethodName := ⟨RX11, "push", "(I)V"⟩
abbrev cX11_pop : ByteArray := prog_13_method_14_code
def yX11_pop : MethodName := ⟨RX11, "pop", "()I"⟩
abbrev cX11_worked : ByteArray := prog_13_method_15_code
def yX11_worked : MethodName := ⟨RX11, "worked", "(III)I"⟩
abbrev cX11_give : ByteArray := prog_13_method_16_code
def yX11_give : MethodName := ⟨RX11, "give", "(I)V"⟩
abbrev cX11_does : ByteArray := prog_13_method_17_code
def yX11_does : MethodName := ⟨RX11, "does", "(I)I"⟩
abbrev cX11_giveUp : ByteArray := prog_13_method_18_code
def yX11_giveUp : MethodName := ⟨RX11, "giveUp", "(I)V"⟩
abbrev cX11_hot : ByteArray := prog_13_method_19_code
def yX11_hot : MethodName := ⟨RX11, "hot", "(I)V"⟩
abbrev cX11_interpret : ByteArray := prog_13_method_20_code
def yX11_interpret : MethodName := ⟨RX11, "interpret", "()V"⟩
abbrev cX11_run : ByteArray := prog_13_method_21_code
def yX11_run : MethodName := ⟨RX11, "run", "(I)I"⟩
abbrev cX11_traceOf : ByteArray := prog_13_method_22_code
def yX11_traceOf : MethodName := ⟨RX11, "traceOf", "(I)I"⟩
abbrev cX11_turn : ByteArray := prog_13_method_23_code
def yX11_turn : MethodName := ⟨RX11, "turn", "(I)V"⟩
abbrev cX11_valueOf : ByteArray := prog_13_method_24_code
def yX11_valueOf : MethodName := ⟨RX11, "valueOf", "(IIII)I"⟩
abbrev cX11_calculated : ByteArray := prog_13_method_25_code
def yX11_calculated : MethodName := ⟨RX11, "calculated", "(III)I"⟩
abbrev cX11_picture : ByteArray := prog_13_method_26_code
def yX11_picture : MethodName := ⟨RX11, "picture", "()V"⟩
abbrev cX11_through : ByteArray := prog_13_method_27_code
def yX11_through : MethodName := ⟨RX11, "through", "(I)I"⟩
abbrev cX11_makeTrace : ByteArray := prog_13_method_28_code
def yX11_makeTrace : MethodName := ⟨RX11, "makeTrace", "()V"⟩
abbrev cX11_keep : ByteArray := prog_13_method_29_code
def yX11_keep : MethodName := ⟨RX11, "keep", "(I)V"⟩
abbrev cX11_local : ByteArray := prog_13_method_30_code
def yX11_local : MethodName := ⟨RX11, "local", "(I)I"⟩
abbrev cX11_top : ByteArray := prog_13_method_31_code
def yX11_top : MethodName := ⟨RX11, "top", "(I)I"⟩
abbrev cX11_outs : ByteArray := prog_13_method_32_code
def yX11_outs : MethodName := ⟨RX11, "outs", "()I"⟩
abbrev cX11_out : ByteArray := prog_13_method_33_code
def yX11_out : MethodName := ⟨RX11, "out", "(I)I"⟩
abbrev cX11_count : ByteArray := prog_13_method_34_code
def yX11_count : MethodName := ⟨RX11, "count", "(I)I"⟩
abbrev cX11_place : ByteArray := prog_13_method_35_code
def yX11_place : MethodName := ⟨RX11, "place", "(II)I"⟩
abbrev cX11_trace : ByteArray := prog_13_method_36_code
def yX11_trace : MethodName := ⟨RX11, "trace", "(II)I"⟩
def RJ9 : String := "java/lang/Math"
def TJ9 : u_T := fun k => match k with
  | _ => ("", "", "", false)
def tyJ9 : Nat → FieldType := fun k => match k with
  | _ => .int
abbrev wsJ90 : List Cond := u_ws RJ9 TJ9 0
theorem nmJ9 : ∀ a, a < 0 → ∀ b, b < 0 → a ≠ b → (TJ9 a).2.1 ≠ (TJ9 b).2.1 := by decide +kernel
theorem tyJ9_ok : ∀ k, k < 0 → parseFieldDescriptor (TJ9 k).2.2.1 = some (tyJ9 k) := by decide +kernel
abbrev cJ9_floorMod_7cf53 : ByteArray := prog_18_method_50_code
def yJ9_floorMod_7cf53 : MethodName := ⟨RJ9, "floorMod", "(II)I"⟩
def RJ0 : String := "java/lang/String"
def TJ0 : u_T := fun k => match k with
  | _ => ("", "", "", false)
def tyJ0 : Nat → FieldType := fun k => match k with
  | _ => .int
abbrev wsJ00 : List Cond := u_ws RJ0 TJ0 0
theorem nmJ0 : ∀ a, a < 0 → ∀ b, b < 0 → a ≠ b → (TJ0 a).2.1 ≠ (TJ0 b).2.1 := by decide +kernel
theorem tyJ0_ok : ∀ k, k < 0 → parseFieldDescriptor (TJ0 k).2.2.1 = some (tyJ0 k) := by decide +kernel
def RJ10 : String := "java/lang/System"
def TJ10 : u_T := fun k => match k with
  | _ => ("", "", "", false)
def tyJ10 : Nat → FieldType := fun k => match k with
  | _ => .int
abbrev wsJ100 : List Cond := u_ws RJ10 TJ10 0
theorem nmJ10 : ∀ a, a < 0 → ∀ b, b < 0 → a ≠ b → (TJ10 a).2.1 ≠ (TJ10 b).2.1 := by decide +kernel
theorem tyJ10_ok : ∀ k, k < 0 → parseFieldDescriptor (TJ10 k).2.2.1 = some (tyJ10 k) := by decide +kernel
def RJ7 : String := "java/util/Arrays"
def TJ7 : u_T := fun k => match k with
  | _ => ("", "", "", false)
def tyJ7 : Nat → FieldType := fun k => match k with
  | _ => .int
abbrev wsJ70 : List Cond := u_ws RJ7 TJ7 0
theorem nmJ7 : ∀ a, a < 0 → ∀ b, b < 0 → a ≠ b → (TJ7 a).2.1 ≠ (TJ7 b).2.1 := by decide +kernel
theorem tyJ7_ok : ∀ k, k < 0 → parseFieldDescriptor (TJ7 k).2.2.1 = some (tyJ7 k) := by decide +kernel
abbrev cJ7_fill_53178 : ByteArray := prog_23_method_103_code
def yJ7_fill_53178 : MethodName := ⟨RJ7, "fill", "([II)V"⟩
def RL : String := "TraceTierLaw"
abbrev cL_add : ByteArray := method_3_code
def yL_add : MethodName := ⟨RL, "add", "(LTraceTier;II[J)I"⟩
abbrev cL_begin : ByteArray := method_4_code
def yL_begin : MethodName := ⟨RL, "begin", "(LTraceTier;IIZ[J)I"⟩
abbrev cL_run : ByteArray := method_5_code
def yL_run : MethodName := ⟨RL, "run", "(LTraceTier;I[J)I"⟩
abbrev cL_local : ByteArray := method_6_code
def yL_local : MethodName := ⟨RL, "local", "(LTraceTier;I[J)I"⟩
abbrev cL_top : ByteArray := method_7_code
def yL_top : MethodName := ⟨RL, "top", "(LTraceTier;I[J)I"⟩
abbrev cL_out : ByteArray := method_8_code
def yL_out : MethodName := ⟨RL, "out", "(LTraceTier;I[J)I"⟩
abbrev cL_count : ByteArray := method_9_code
def yL_count : MethodName := ⟨RL, "count", "(LTraceTier;I[J)I"⟩
abbrev cL_place : ByteArray := method_10_code
def yL_place : MethodName := ⟨RL, "place", "(LTraceTier;II[J)I"⟩
abbrev cL_trace : ByteArray := method_11_code
def yL_trace : MethodName := ⟨RL, "trace", "(LTraceTier;II[J)I"⟩
abbrev cL_law : ByteArray := code
def yL_law : MethodName := ⟨RL, "law", "([I)Z"⟩
abbrev vwCl : List vw_C := [(RX0, TX0, 6), (RX1, TX1, 4), (RX2, TX2, 3), (RX3, TX3, 6), (RX4, TX4, 3), (RX5, TX5, 4), (RX6, TX6, 4), (RX7, TX7, 10), (RX8, TX8, 6), (RX9, TX9, 5), (RX10, TX10, 13), (RX11, TX11, 47)]
end
section
theorem dX0_init_0 : decode cX0_init 0 = .ok (.aload_n 0, 1) := by decide +kernel
theorem dX0_init_1 : decode cX0_init 1 = .ok (.invokespecial 3, 3) := by decide +kernel
theorem dX0_init_4 : decode cX0_init 4 = .ok (.aload_n 0, 1) := by decide +kernel
theorem dX0_init_5 : decode cX0_init 5 = .ok (.bipush 40, 2) := by decide +kernel
theorem dX0_init_7 : decode cX0_init 7 = .ok (.newarray .int, 2) := by decide +kernel
theorem dX0_init_9 : decode cX0_init 9 = .ok (.putfield 9, 3) := by decide +kernel
theorem dX0_init_12 : decode cX0_init 12 = .ok (.aload_n 0, 1) := by decide +kernel
theorem dX0_init_13 : decode cX0_init 13 = .ok (.bipush 40, 2) := by decide +kernel
theorem dX0_init_15 : decode cX0_init 15 = .ok (.newarray .int, 2) := by decide +kernel
theorem dX0_init_17 : decode cX0_init 17 = .ok (.putfield 15, 3) := by decide +kernel
theorem dX0_init_20 : decode cX0_init 20 = .ok (.aload_n 0, 1) := by decide +kernel
theorem dX0_init_21 : decode cX0_init 21 = .ok (.bipush 40, 2) := by decide +kernel
theorem dX0_init_23 : decode cX0_init 23 = .ok (.newarray .int, 2) := by decide +kernel
theorem dX0_init_25 : decode cX0_init 25 = .ok (.putfield 18, 3) := by decide +kernel
theorem dX0_init_28 : decode cX0_init 28 = .ok (.aload_n 0, 1) := by decide +kernel
theorem dX0_init_29 : decode cX0_init 29 = .ok (.bipush 40, 2) := by decide +kernel
theorem dX0_init_31 : decode cX0_init 31 = .ok (.newarray .int, 2) := by decide +kernel
theorem dX0_init_33 : decode cX0_init 33 = .ok (.putfield 21, 3) := by decide +kernel
theorem dX0_init_36 : decode cX0_init 36 = .ok (.return_, 1) := by decide +kernel
theorem dX0_isInstruction_0 : decode cX0_isInstruction 0 = .ok (.iload_n 0, 1) := by decide +kernel
theorem dX0_isInstruction_1 : decode cX0_isInstruction 1 = .ok (.tableswitch 127 0 14 #[75, 95, 95, 127, 127, 127, 127, 127, 127, 127, 127, 127, 127, 111, 111], 75) := by decide +kernel
theorem dX0_isInstruction_76 : decode cX0_isInstruction 76 = .ok (.iload_n 1, 1) := by decide +kernel
theorem dX0_isInstruction_77 : decode cX0_isInstruction 77 = .ok (.sipush (-32768), 3) := by decide +kernel
theorem dX0_isInstruction_80 : decode cX0_isInstruction 80 = .ok (.if_icmp .lt 14, 3) := by decide +kernel
theorem dX0_isInstruction_83 : decode cX0_isInstruction 83 = .ok (.iload_n 1, 1) := by decide +kernel
theorem dX0_isInstruction_84 : decode cX0_isInstruction 84 = .ok (.sipush 32767, 3) := by decide +kernel
theorem dX0_isInstruction_87 : decode cX0_isInstruction 87 = .ok (.if_icmp .gt 7, 3) := by decide +kernel
theorem dX0_isInstruction_90 : decode cX0_isInstruction 90 = .ok (.iconst 1, 1) := by decide +kernel
theorem dX0_isInstruction_91 : decode cX0_isInstruction 91 = .ok (.goto 4, 3) := by decide +kernel
theorem dX0_isInstruction_94 : decode cX0_isInstruction 94 = .ok (.iconst 0, 1) := by decide +kernel
theorem dX0_isInstruction_95 : decode cX0_isInstruction 95 = .ok (.ireturn, 1) := by decide +kernel
theorem dX0_isInstruction_96 : decode cX0_isInstruction 96 = .ok (.iload_n 1, 1) := by decide +kernel
theorem dX0_isInstruction_97 : decode cX0_isInstruction 97 = .ok (.ifCond .lt 13, 3) := by decide +kernel
theorem dX0_isInstruction_100 : decode cX0_isInstruction 100 = .ok (.iload_n 1, 1) := by decide +kernel
theorem dX0_isInstruction_101 : decode cX0_isInstruction 101 = .ok (.bipush 6, 2) := by decide +kernel
theorem dX0_isInstruction_103 : decode cX0_isInstruction 103 = .ok (.if_icmp .ge 7, 3) := by decide +kernel
theorem dX0_isInstruction_106 : decode cX0_isInstruction 106 = .ok (.iconst 1, 1) := by decide +kernel
theorem dX0_isInstruction_107 : decode cX0_isInstruction 107 = .ok (.goto 4, 3) := by decide +kernel
theorem dX0_isInstruction_110 : decode cX0_isInstruction 110 = .ok (.iconst 0, 1) := by decide +kernel
theorem dX0_isInstruction_111 : decode cX0_isInstruction 111 = .ok (.ireturn, 1) := by decide +kernel
theorem dX0_isInstruction_112 : decode cX0_isInstruction 112 = .ok (.iload_n 1, 1) := by decide +kernel
theorem dX0_isInstruction_113 : decode cX0_isInstruction 113 = .ok (.ifCond .lt 13, 3) := by decide +kernel
theorem dX0_isInstruction_116 : decode cX0_isInstruction 116 = .ok (.iload_n 1, 1) := by decide +kernel
theorem dX0_isInstruction_117 : decode cX0_isInstruction 117 = .ok (.bipush 40, 2) := by decide +kernel
theorem dX0_isInstruction_119 : decode cX0_isInstruction 119 = .ok (.if_icmp .ge 7, 3) := by decide +kernel
theorem dX0_isInstruction_122 : decode cX0_isInstruction 122 = .ok (.iconst 1, 1) := by decide +kernel
theorem dX0_isInstruction_123 : decode cX0_isInstruction 123 = .ok (.goto 4, 3) := by decide +kernel
theorem dX0_isInstruction_126 : decode cX0_isInstruction 126 = .ok (.iconst 0, 1) := by decide +kernel
theorem dX0_isInstruction_127 : decode cX0_isInstruction 127 = .ok (.ireturn, 1) := by decide +kernel
theorem dX0_isInstruction_128 : decode cX0_isInstruction 128 = .ok (.iload_n 0, 1) := by decide +kernel
theorem dX0_isInstruction_129 : decode cX0_isInstruction 129 = .ok (.ifCond .lt 13, 3) := by decide +kernel
theorem dX0_isInstruction_132 : decode cX0_isInstruction 132 = .ok (.iload_n 0, 1) := by decide +kernel
theorem dX0_isInstruction_133 : decode cX0_isInstruction 133 = .ok (.bipush 15, 2) := by decide +kernel
theorem dX0_isInstruction_135 : decode cX0_isInstruction 135 = .ok (.if_icmp .gt 7, 3) := by decide +kernel
theorem dX0_isInstruction_138 : decode cX0_isInstruction 138 = .ok (.iconst 1, 1) := by decide +kernel
theorem dX0_isInstruction_139 : decode cX0_isInstruction 139 = .ok (.goto 4, 3) := by decide +kernel
theorem dX0_isInstruction_142 : decode cX0_isInstruction 142 = .ok (.iconst 0, 1) := by decide +kernel
theorem dX0_isInstruction_143 : decode cX0_isInstruction 143 = .ok (.ireturn, 1) := by decide +kernel
theorem dX0_append_0 : decode cX0_append 0 = .ok (.aload_n 0, 1) := by decide +kernel
theorem dX0_append_1 : decode cX0_append 1 = .ok (.getfield 9, 3) := by decide +kernel
theorem dX0_append_4 : decode cX0_append 4 = .ok (.aload_n 0, 1) := by decide +kernel
theorem dX0_append_5 : decode cX0_append 5 = .ok (.getfield 24, 3) := by decide +kernel
theorem dX0_append_8 : decode cX0_append 8 = .ok (.iload_n 1, 1) := by decide +kernel
theorem dX0_append_9 : decode cX0_append 9 = .ok (.iastore, 1) := by decide +kernel
theorem dX0_append_10 : decode cX0_append 10 = .ok (.aload_n 0, 1) := by decide +kernel
theorem dX0_append_11 : decode cX0_append 11 = .ok (.getfield 15, 3) := by decide +kernel
theorem dX0_append_14 : decode cX0_append 14 = .ok (.aload_n 0, 1) := by decide +kernel
theorem dX0_append_15 : decode cX0_append 15 = .ok (.getfield 24, 3) := by decide +kernel
theorem dX0_append_18 : decode cX0_append 18 = .ok (.iload_n 2, 1) := by decide +kernel
theorem dX0_append_19 : decode cX0_append 19 = .ok (.iastore, 1) := by decide +kernel
theorem dX0_append_20 : decode cX0_append 20 = .ok (.aload_n 0, 1) := by decide +kernel
theorem dX0_append_21 : decode cX0_append 21 = .ok (.dup, 1) := by decide +kernel
theorem dX0_append_22 : decode cX0_append 22 = .ok (.getfield 24, 3) := by decide +kernel
theorem dX0_append_25 : decode cX0_append 25 = .ok (.iconst 1, 1) := by decide +kernel
theorem dX0_append_26 : decode cX0_append 26 = .ok (.iadd, 1) := by decide +kernel
theorem dX0_append_27 : decode cX0_append 27 = .ok (.putfield 24, 3) := by decide +kernel
theorem dX0_append_30 : decode cX0_append 30 = .ok (.return_, 1) := by decide +kernel
theorem dX0_isSound_0 : decode cX0_isSound 0 = .ok (.aload_n 0, 1) := by decide +kernel
theorem dX0_isSound_1 : decode cX0_isSound 1 = .ok (.getfield 18, 3) := by decide +kernel
theorem dX0_isSound_4 : decode cX0_isSound 4 = .ok (.iconst (-1), 1) := by decide +kernel
theorem dX0_isSound_5 : decode cX0_isSound 5 = .ok (.invokestatic 28, 3) := by decide +kernel
theorem dX0_isSound_8 : decode cX0_isSound 8 = .ok (.aload_n 0, 1) := by decide +kernel
theorem dX0_isSound_9 : decode cX0_isSound 9 = .ok (.iconst 0, 1) := by decide +kernel
theorem dX0_isSound_10 : decode cX0_isSound 10 = .ok (.putfield 34, 3) := by decide +kernel
theorem dX0_isSound_13 : decode cX0_isSound 13 = .ok (.aload_n 0, 1) := by decide +kernel
theorem dX0_isSound_14 : decode cX0_isSound 14 = .ok (.iconst 0, 1) := by decide +kernel
theorem dX0_isSound_15 : decode cX0_isSound 15 = .ok (.iconst 0, 1) := by decide +kernel
theorem dX0_isSound_16 : decode cX0_isSound 16 = .ok (.invokevirtual 37, 3) := by decide +kernel
theorem dX0_isSound_19 : decode cX0_isSound 19 = .ok (.istore_n 1, 1) := by decide +kernel
theorem dX0_isSound_20 : decode cX0_isSound 20 = .ok (.iconst 0, 1) := by decide +kernel
theorem dX0_isSound_21 : decode cX0_isSound 21 = .ok (.istore_n 2, 1) := by decide +kernel
theorem dX0_isSound_22 : decode cX0_isSound 22 = .ok (.iload_n 1, 1) := by decide +kernel
theorem dX0_isSound_23 : decode cX0_isSound 23 = .ok (.ifCond .eq 36, 3) := by decide +kernel
theorem dX0_isSound_26 : decode cX0_isSound 26 = .ok (.iload_n 2, 1) := by decide +kernel
theorem dX0_isSound_27 : decode cX0_isSound 27 = .ok (.aload_n 0, 1) := by decide +kernel
theorem dX0_isSound_28 : decode cX0_isSound 28 = .ok (.getfield 34, 3) := by decide +kernel
theorem dX0_isSound_31 : decode cX0_isSound 31 = .ok (.if_icmp .ge 28, 3) := by decide +kernel
theorem dX0_isSound_34 : decode cX0_isSound 34 = .ok (.iload_n 2, 1) := by decide +kernel
theorem dX0_isSound_35 : decode cX0_isSound 35 = .ok (.aload_n 0, 1) := by decide +kernel
theorem dX0_isSound_36 : decode cX0_isSound 36 = .ok (.getfield 24, 3) := by decide +kernel
theorem dX0_isSound_39 : decode cX0_isSound 39 = .ok (.if_icmp .ge 20, 3) := by decide +kernel
theorem dX0_isSound_42 : decode cX0_isSound 42 = .ok (.aload_n 0, 1) := by decide +kernel
theorem dX0_isSound_43 : decode cX0_isSound 43 = .ok (.aload_n 0, 1) := by decide +kernel
theorem dX0_isSound_44 : decode cX0_isSound 44 = .ok (.getfield 21, 3) := by decide +kernel
theorem dX0_isSound_47 : decode cX0_isSound 47 = .ok (.iload_n 2, 1) := by decide +kernel
theorem dX0_isSound_48 : decode cX0_isSound 48 = .ok (.iaload, 1) := by decide +kernel
theorem dX0_isSound_49 : decode cX0_isSound 49 = .ok (.invokevirtual 41, 3) := by decide +kernel
theorem dX0_isSound_52 : decode cX0_isSound 52 = .ok (.istore_n 1, 1) := by decide +kernel
theorem dX0_isSound_53 : decode cX0_isSound 53 = .ok (.iinc 2 1, 3) := by decide +kernel
theorem dX0_isSound_56 : decode cX0_isSound 56 = .ok (.goto (-34), 3) := by decide +kernel
theorem dX0_isSound_59 : decode cX0_isSound 59 = .ok (.iload_n 1, 1) := by decide +kernel
theorem dX0_isSound_60 : decode cX0_isSound 60 = .ok (.ireturn, 1) := by decide +kernel
theorem dX0_reach_0 : decode cX0_reach 0 = .ok (.iload_n 1, 1) := by decide +kernel
theorem dX0_reach_1 : decode cX0_reach 1 = .ok (.aload_n 0, 1) := by decide +kernel
theorem dX0_reach_2 : decode cX0_reach 2 = .ok (.getfield 24, 3) := by decide +kernel
theorem dX0_reach_5 : decode cX0_reach 5 = .ok (.if_icmp .lt 5, 3) := by decide +kernel
theorem dX0_reach_8 : decode cX0_reach 8 = .ok (.iconst 0, 1) := by decide +kernel
theorem dX0_reach_9 : decode cX0_reach 9 = .ok (.ireturn, 1) := by decide +kernel
theorem dX0_reach_10 : decode cX0_reach 10 = .ok (.aload_n 0, 1) := by decide +kernel
theorem dX0_reach_11 : decode cX0_reach 11 = .ok (.getfield 18, 3) := by decide +kernel
theorem dX0_reach_14 : decode cX0_reach 14 = .ok (.iload_n 1, 1) := by decide +kernel
theorem dX0_reach_15 : decode cX0_reach 15 = .ok (.iaload, 1) := by decide +kernel
theorem dX0_reach_16 : decode cX0_reach 16 = .ok (.iconst (-1), 1) := by decide +kernel
theorem dX0_reach_17 : decode cX0_reach 17 = .ok (.if_icmp .ne 30, 3) := by decide +kernel
theorem dX0_reach_20 : decode cX0_reach 20 = .ok (.aload_n 0, 1) := by decide +kernel
theorem dX0_reach_21 : decode cX0_reach 21 = .ok (.getfield 18, 3) := by decide +kernel
theorem dX0_reach_24 : decode cX0_reach 24 = .ok (.iload_n 1, 1) := by decide +kernel
theorem dX0_reach_25 : decode cX0_reach 25 = .ok (.iload_n 2, 1) := by decide +kernel
theorem dX0_reach_26 : decode cX0_reach 26 = .ok (.iastore, 1) := by decide +kernel
theorem dX0_reach_27 : decode cX0_reach 27 = .ok (.aload_n 0, 1) := by decide +kernel
theorem dX0_reach_28 : decode cX0_reach 28 = .ok (.getfield 21, 3) := by decide +kernel
theorem dX0_reach_31 : decode cX0_reach 31 = .ok (.aload_n 0, 1) := by decide +kernel
theorem dX0_reach_32 : decode cX0_reach 32 = .ok (.getfield 34, 3) := by decide +kernel
theorem dX0_reach_35 : decode cX0_reach 35 = .ok (.iload_n 1, 1) := by decide +kernel
theorem dX0_reach_36 : decode cX0_reach 36 = .ok (.iastore, 1) := by decide +kernel
theorem dX0_reach_37 : decode cX0_reach 37 = .ok (.aload_n 0, 1) := by decide +kernel
theorem dX0_reach_38 : decode cX0_reach 38 = .ok (.dup, 1) := by decide +kernel
theorem dX0_reach_39 : decode cX0_reach 39 = .ok (.getfield 34, 3) := by decide +kernel
theorem dX0_reach_42 : decode cX0_reach 42 = .ok (.iconst 1, 1) := by decide +kernel
theorem dX0_reach_43 : decode cX0_reach 43 = .ok (.iadd, 1) := by decide +kernel
theorem dX0_reach_44 : decode cX0_reach 44 = .ok (.putfield 34, 3) := by decide +kernel
theorem dX0_reach_47 : decode cX0_reach 47 = .ok (.aload_n 0, 1) := by decide +kernel
theorem dX0_reach_48 : decode cX0_reach 48 = .ok (.getfield 18, 3) := by decide +kernel
theorem dX0_reach_51 : decode cX0_reach 51 = .ok (.iload_n 1, 1) := by decide +kernel
theorem dX0_reach_52 : decode cX0_reach 52 = .ok (.iaload, 1) := by decide +kernel
theorem dX0_reach_53 : decode cX0_reach 53 = .ok (.iload_n 2, 1) := by decide +kernel
theorem dX0_reach_54 : decode cX0_reach 54 = .ok (.if_icmp .ne 7, 3) := by decide +kernel
theorem dX0_reach_57 : decode cX0_reach 57 = .ok (.iconst 1, 1) := by decide +kernel
theorem dX0_reach_58 : decode cX0_reach 58 = .ok (.goto 4, 3) := by decide +kernel
theorem dX0_reach_61 : decode cX0_reach 61 = .ok (.iconst 0, 1) := by decide +kernel
theorem dX0_reach_62 : decode cX0_reach 62 = .ok (.ireturn, 1) := by decide +kernel
theorem dX0_leadsOnWell_0 : decode cX0_leadsOnWell 0 = .ok (.aload_n 0, 1) := by decide +kernel
theorem dX0_leadsOnWell_1 : decode cX0_leadsOnWell 1 = .ok (.getfield 9, 3) := by decide +kernel
theorem dX0_leadsOnWell_4 : decode cX0_leadsOnWell 4 = .ok (.iload_n 1, 1) := by decide +kernel
theorem dX0_leadsOnWell_5 : decode cX0_leadsOnWell 5 = .ok (.iaload, 1) := by decide +kernel
theorem dX0_leadsOnWell_6 : decode cX0_leadsOnWell 6 = .ok (.istore_n 2, 1) := by decide +kernel
theorem dX0_leadsOnWell_7 : decode cX0_leadsOnWell 7 = .ok (.aload_n 0, 1) := by decide +kernel
theorem dX0_leadsOnWell_8 : decode cX0_leadsOnWell 8 = .ok (.getfield 18, 3) := by decide +kernel
theorem dX0_leadsOnWell_11 : decode cX0_leadsOnWell 11 = .ok (.iload_n 1, 1) := by decide +kernel
theorem dX0_leadsOnWell_12 : decode cX0_leadsOnWell 12 = .ok (.iaload, 1) := by decide +kernel
theorem dX0_leadsOnWell_13 : decode cX0_leadsOnWell 13 = .ok (.getstatic 45, 3) := by decide +kernel
theorem dX0_leadsOnWell_16 : decode cX0_leadsOnWell 16 = .ok (.iload_n 2, 1) := by decide +kernel
theorem dX0_leadsOnWell_17 : decode cX0_leadsOnWell 17 = .ok (.iaload, 1) := by decide +kernel
theorem dX0_leadsOnWell_18 : decode cX0_leadsOnWell 18 = .ok (.isub, 1) := by decide +kernel
theorem dX0_leadsOnWell_19 : decode cX0_leadsOnWell 19 = .ok (.istore_n 3, 1) := by decide +kernel
theorem dX0_leadsOnWell_20 : decode cX0_leadsOnWell 20 = .ok (.iload_n 3, 1) := by decide +kernel
theorem dX0_leadsOnWell_21 : decode cX0_leadsOnWell 21 = .ok (.getstatic 48, 3) := by decide +kernel
theorem dX0_leadsOnWell_24 : decode cX0_leadsOnWell 24 = .ok (.iload_n 2, 1) := by decide +kernel
theorem dX0_leadsOnWell_25 : decode cX0_leadsOnWell 25 = .ok (.iaload, 1) := by decide +kernel
theorem dX0_leadsOnWell_26 : decode cX0_leadsOnWell 26 = .ok (.iadd, 1) := by decide +kernel
theorem dX0_leadsOnWell_27 : decode cX0_leadsOnWell 27 = .ok (.istore 4, 2) := by decide +kernel
theorem dX0_leadsOnWell_29 : decode cX0_leadsOnWell 29 = .ok (.iload_n 3, 1) := by decide +kernel
theorem dX0_leadsOnWell_30 : decode cX0_leadsOnWell 30 = .ok (.ifCond .lt 10, 3) := by decide +kernel
theorem dX0_leadsOnWell_33 : decode cX0_leadsOnWell 33 = .ok (.iload 4, 2) := by decide +kernel
theorem dX0_leadsOnWell_35 : decode cX0_leadsOnWell 35 = .ok (.bipush 6, 2) := by decide +kernel
theorem dX0_leadsOnWell_37 : decode cX0_leadsOnWell 37 = .ok (.if_icmp .le 5, 3) := by decide +kernel
theorem dX0_leadsOnWell_40 : decode cX0_leadsOnWell 40 = .ok (.iconst 0, 1) := by decide +kernel
theorem dX0_leadsOnWell_41 : decode cX0_leadsOnWell 41 = .ok (.ireturn, 1) := by decide +kernel
theorem dX0_leadsOnWell_42 : decode cX0_leadsOnWell 42 = .ok (.iload_n 2, 1) := by decide +kernel
theorem dX0_leadsOnWell_43 : decode cX0_leadsOnWell 43 = .ok (.bipush 13, 2) := by decide +kernel
theorem dX0_leadsOnWell_45 : decode cX0_leadsOnWell 45 = .ok (.if_icmp .eq 9, 3) := by decide +kernel
theorem dX0_leadsOnWell_48 : decode cX0_leadsOnWell 48 = .ok (.iload_n 2, 1) := by decide +kernel
theorem dX0_leadsOnWell_49 : decode cX0_leadsOnWell 49 = .ok (.bipush 14, 2) := by decide +kernel
theorem dX0_leadsOnWell_51 : decode cX0_leadsOnWell 51 = .ok (.if_icmp .ne 7, 3) := by decide +kernel
theorem dX0_leadsOnWell_54 : decode cX0_leadsOnWell 54 = .ok (.iconst 1, 1) := by decide +kernel
theorem dX0_leadsOnWell_55 : decode cX0_leadsOnWell 55 = .ok (.goto 4, 3) := by decide +kernel
theorem dX0_leadsOnWell_58 : decode cX0_leadsOnWell 58 = .ok (.iconst 0, 1) := by decide +kernel
theorem dX0_leadsOnWell_59 : decode cX0_leadsOnWell 59 = .ok (.istore 5, 2) := by decide +kernel
theorem dX0_leadsOnWell_61 : decode cX0_leadsOnWell 61 = .ok (.iload_n 2, 1) := by decide +kernel
theorem dX0_leadsOnWell_62 : decode cX0_leadsOnWell 62 = .ok (.bipush 13, 2) := by decide +kernel
theorem dX0_leadsOnWell_64 : decode cX0_leadsOnWell 64 = .ok (.if_icmp .eq 13, 3) := by decide +kernel
theorem dX0_leadsOnWell_67 : decode cX0_leadsOnWell 67 = .ok (.iload_n 2, 1) := by decide +kernel
theorem dX0_leadsOnWell_68 : decode cX0_leadsOnWell 68 = .ok (.bipush 15, 2) := by decide +kernel
theorem dX0_leadsOnWell_70 : decode cX0_leadsOnWell 70 = .ok (.if_icmp .eq 7, 3) := by decide +kernel
theorem dX0_leadsOnWell_73 : decode cX0_leadsOnWell 73 = .ok (.iconst 1, 1) := by decide +kernel
theorem dX0_leadsOnWell_74 : decode cX0_leadsOnWell 74 = .ok (.goto 4, 3) := by decide +kernel
theorem dX0_leadsOnWell_77 : decode cX0_leadsOnWell 77 = .ok (.iconst 0, 1) := by decide +kernel
theorem dX0_leadsOnWell_78 : decode cX0_leadsOnWell 78 = .ok (.istore 6, 2) := by decide +kernel
theorem dX0_leadsOnWell_80 : decode cX0_leadsOnWell 80 = .ok (.iload 5, 2) := by decide +kernel
theorem dX0_leadsOnWell_82 : decode cX0_leadsOnWell 82 = .ok (.ifCond .eq 18, 3) := by decide +kernel
theorem dX0_leadsOnWell_85 : decode cX0_leadsOnWell 85 = .ok (.aload_n 0, 1) := by decide +kernel
theorem dX0_leadsOnWell_86 : decode cX0_leadsOnWell 86 = .ok (.aload_n 0, 1) := by decide +kernel
theorem dX0_leadsOnWell_87 : decode cX0_leadsOnWell 87 = .ok (.getfield 15, 3) := by decide +kernel
theorem dX0_leadsOnWell_90 : decode cX0_leadsOnWell 90 = .ok (.iload_n 1, 1) := by decide +kernel
theorem dX0_leadsOnWell_91 : decode cX0_leadsOnWell 91 = .ok (.iaload, 1) := by decide +kernel
theorem dX0_leadsOnWell_92 : decode cX0_leadsOnWell 92 = .ok (.iload 4, 2) := by decide +kernel
theorem dX0_leadsOnWell_94 : decode cX0_leadsOnWell 94 = .ok (.invokevirtual 37, 3) := by decide +kernel
theorem dX0_leadsOnWell_97 : decode cX0_leadsOnWell 97 = .ok (.ifCond .eq 24, 3) := by decide +kernel
theorem dX0_leadsOnWell_100 : decode cX0_leadsOnWell 100 = .ok (.iload 6, 2) := by decide +kernel
theorem dX0_leadsOnWell_102 : decode cX0_leadsOnWell 102 = .ok (.ifCond .eq 15, 3) := by decide +kernel
theorem dX0_leadsOnWell_105 : decode cX0_leadsOnWell 105 = .ok (.aload_n 0, 1) := by decide +kernel
theorem dX0_leadsOnWell_106 : decode cX0_leadsOnWell 106 = .ok (.iload_n 1, 1) := by decide +kernel
theorem dX0_leadsOnWell_107 : decode cX0_leadsOnWell 107 = .ok (.iconst 1, 1) := by decide +kernel
theorem dX0_leadsOnWell_108 : decode cX0_leadsOnWell 108 = .ok (.iadd, 1) := by decide +kernel
theorem dX0_leadsOnWell_109 : decode cX0_leadsOnWell 109 = .ok (.iload 4, 2) := by decide +kernel
theorem dX0_leadsOnWell_111 : decode cX0_leadsOnWell 111 = .ok (.invokevirtual 37, 3) := by decide +kernel
theorem dX0_leadsOnWell_114 : decode cX0_leadsOnWell 114 = .ok (.ifCond .eq 7, 3) := by decide +kernel
theorem dX0_leadsOnWell_117 : decode cX0_leadsOnWell 117 = .ok (.iconst 1, 1) := by decide +kernel
theorem dX0_leadsOnWell_118 : decode cX0_leadsOnWell 118 = .ok (.goto 4, 3) := by decide +kernel
theorem dX0_leadsOnWell_121 : decode cX0_leadsOnWell 121 = .ok (.iconst 0, 1) := by decide +kernel
theorem dX0_leadsOnWell_122 : decode cX0_leadsOnWell 122 = .ok (.ireturn, 1) := by decide +kernel
theorem dX1_init_0 : decode cX1_init 0 = .ok (.aload_n 0, 1) := by decide +kernel
theorem dX1_init_1 : decode cX1_init 1 = .ok (.invokespecial 3, 3) := by decide +kernel
theorem dX1_init_4 : decode cX1_init 4 = .ok (.aload_n 0, 1) := by decide +kernel
theorem dX1_init_5 : decode cX1_init 5 = .ok (.bipush 6, 2) := by decide +kernel
theorem dX1_init_7 : decode cX1_init 7 = .ok (.newarray .int, 2) := by decide +kernel
theorem dX1_init_9 : decode cX1_init 9 = .ok (.putfield 9, 3) := by decide +kernel
theorem dX1_init_12 : decode cX1_init 12 = .ok (.aload_n 0, 1) := by decide +kernel
theorem dX1_init_13 : decode cX1_init 13 = .ok (.bipush 6, 2) := by decide +kernel
theorem dX1_init_15 : decode cX1_init 15 = .ok (.newarray .int, 2) := by decide +kernel
theorem dX1_init_17 : decode cX1_init 17 = .ok (.putfield 15, 3) := by decide +kernel
theorem dX1_init_20 : decode cX1_init 20 = .ok (.return_, 1) := by decide +kernel
theorem dX1_reset_0 : decode cX1_reset 0 = .ok (.aload_n 0, 1) := by decide +kernel
theorem dX1_reset_1 : decode cX1_reset 1 = .ok (.getfield 9, 3) := by decide +kernel
theorem dX1_reset_4 : decode cX1_reset 4 = .ok (.iconst 0, 1) := by decide +kernel
theorem dX1_reset_5 : decode cX1_reset 5 = .ok (.invokestatic 18, 3) := by decide +kernel
theorem dX1_reset_8 : decode cX1_reset 8 = .ok (.aload_n 0, 1) := by decide +kernel
theorem dX1_reset_9 : decode cX1_reset 9 = .ok (.iconst 0, 1) := by decide +kernel
theorem dX1_reset_10 : decode cX1_reset 10 = .ok (.putfield 24, 3) := by decide +kernel
theorem dX1_reset_13 : decode cX1_reset 13 = .ok (.aload_n 0, 1) := by decide +kernel
theorem dX1_reset_14 : decode cX1_reset 14 = .ok (.iconst 0, 1) := by decide +kernel
theorem dX1_reset_15 : decode cX1_reset 15 = .ok (.putfield 28, 3) := by decide +kernel
theorem dX1_reset_18 : decode cX1_reset 18 = .ok (.return_, 1) := by decide +kernel
theorem dX1_push_0 : decode cX1_push 0 = .ok (.aload_n 0, 1) := by decide +kernel
theorem dX1_push_1 : decode cX1_push 1 = .ok (.getfield 24, 3) := by decide +kernel
theorem dX1_push_4 : decode cX1_push 4 = .ok (.bipush 6, 2) := by decide +kernel
theorem dX1_push_6 : decode cX1_push 6 = .ok (.if_icmp .ge 23, 3) := by decide +kernel
theorem dX1_push_9 : decode cX1_push 9 = .ok (.aload_n 0, 1) := by decide +kernel
theorem dX1_push_10 : decode cX1_push 10 = .ok (.getfield 15, 3) := by decide +kernel
theorem dX1_push_13 : decode cX1_push 13 = .ok (.aload_n 0, 1) := by decide +kernel
theorem dX1_push_14 : decode cX1_push 14 = .ok (.getfield 24, 3) := by decide +kernel
theorem dX1_push_17 : decode cX1_push 17 = .ok (.iload_n 1, 1) := by decide +kernel
theorem dX1_push_18 : decode cX1_push 18 = .ok (.iastore, 1) := by decide +kernel
theorem dX1_push_19 : decode cX1_push 19 = .ok (.aload_n 0, 1) := by decide +kernel
theorem dX1_push_20 : decode cX1_push 20 = .ok (.dup, 1) := by decide +kernel
theorem dX1_push_21 : decode cX1_push 21 = .ok (.getfield 24, 3) := by decide +kernel
theorem dX1_push_24 : decode cX1_push 24 = .ok (.iconst 1, 1) := by decide +kernel
theorem dX1_push_25 : decode cX1_push 25 = .ok (.iadd, 1) := by decide +kernel
theorem dX1_push_26 : decode cX1_push 26 = .ok (.putfield 24, 3) := by decide +kernel
theorem dX1_push_29 : decode cX1_push 29 = .ok (.return_, 1) := by decide +kernel
theorem dX1_pop_0 : decode cX1_pop 0 = .ok (.aload_n 0, 1) := by decide +kernel
theorem dX1_pop_1 : decode cX1_pop 1 = .ok (.getfield 24, 3) := by decide +kernel
theorem dX1_pop_4 : decode cX1_pop 4 = .ok (.ifCond .ne 5, 3) := by decide +kernel
theorem dX1_pop_7 : decode cX1_pop 7 = .ok (.iconst 0, 1) := by decide +kernel
theorem dX1_pop_8 : decode cX1_pop 8 = .ok (.ireturn, 1) := by decide +kernel
theorem dX1_pop_9 : decode cX1_pop 9 = .ok (.aload_n 0, 1) := by decide +kernel
theorem dX1_pop_10 : decode cX1_pop 10 = .ok (.dup, 1) := by decide +kernel
theorem dX1_pop_11 : decode cX1_pop 11 = .ok (.getfield 24, 3) := by decide +kernel
theorem dX1_pop_14 : decode cX1_pop 14 = .ok (.iconst 1, 1) := by decide +kernel
theorem dX1_pop_15 : decode cX1_pop 15 = .ok (.isub, 1) := by decide +kernel
theorem dX1_pop_16 : decode cX1_pop 16 = .ok (.putfield 24, 3) := by decide +kernel
theorem dX1_pop_19 : decode cX1_pop 19 = .ok (.aload_n 0, 1) := by decide +kernel
theorem dX1_pop_20 : decode cX1_pop 20 = .ok (.getfield 15, 3) := by decide +kernel
theorem dX1_pop_23 : decode cX1_pop 23 = .ok (.aload_n 0, 1) := by decide +kernel
theorem dX1_pop_24 : decode cX1_pop 24 = .ok (.getfield 24, 3) := by decide +kernel
theorem dX1_pop_27 : decode cX1_pop 27 = .ok (.iaload, 1) := by decide +kernel
theorem dX1_pop_28 : decode cX1_pop 28 = .ok (.ireturn, 1) := by decide +kernel
theorem dX1_move_0 : decode cX1_move 0 = .ok (.iload_n 1, 1) := by decide +kernel
theorem dX1_move_1 : decode cX1_move 1 = .ok (.tableswitch 138 1 11 #[59, 72, 138, 138, 138, 138, 138, 138, 85, 103, 111], 59) := by decide +kernel
theorem dX1_move_60 : decode cX1_move 60 = .ok (.aload_n 0, 1) := by decide +kernel
theorem dX1_move_61 : decode cX1_move 61 = .ok (.aload_n 0, 1) := by decide +kernel
theorem dX1_move_62 : decode cX1_move 62 = .ok (.getfield 9, 3) := by decide +kernel
theorem dX1_move_65 : decode cX1_move 65 = .ok (.iload_n 2, 1) := by decide +kernel
theorem dX1_move_66 : decode cX1_move 66 = .ok (.iaload, 1) := by decide +kernel
theorem dX1_move_67 : decode cX1_move 67 = .ok (.invokevirtual 31, 3) := by decide +kernel
theorem dX1_move_70 : decode cX1_move 70 = .ok (.goto 69, 3) := by decide +kernel
theorem dX1_move_73 : decode cX1_move 73 = .ok (.aload_n 0, 1) := by decide +kernel
theorem dX1_move_74 : decode cX1_move 74 = .ok (.getfield 9, 3) := by decide +kernel
theorem dX1_move_77 : decode cX1_move 77 = .ok (.iload_n 2, 1) := by decide +kernel
theorem dX1_move_78 : decode cX1_move 78 = .ok (.aload_n 0, 1) := by decide +kernel
theorem dX1_move_79 : decode cX1_move 79 = .ok (.invokevirtual 35, 3) := by decide +kernel
theorem dX1_move_82 : decode cX1_move 82 = .ok (.iastore, 1) := by decide +kernel
theorem dX1_move_83 : decode cX1_move 83 = .ok (.goto 56, 3) := by decide +kernel
theorem dX1_move_86 : decode cX1_move 86 = .ok (.aload_n 0, 1) := by decide +kernel
theorem dX1_move_87 : decode cX1_move 87 = .ok (.invokevirtual 35, 3) := by decide +kernel
theorem dX1_move_90 : decode cX1_move 90 = .ok (.istore_n 3, 1) := by decide +kernel
theorem dX1_move_91 : decode cX1_move 91 = .ok (.aload_n 0, 1) := by decide +kernel
theorem dX1_move_92 : decode cX1_move 92 = .ok (.iload_n 3, 1) := by decide +kernel
theorem dX1_move_93 : decode cX1_move 93 = .ok (.invokevirtual 31, 3) := by decide +kernel
theorem dX1_move_96 : decode cX1_move 96 = .ok (.aload_n 0, 1) := by decide +kernel
theorem dX1_move_97 : decode cX1_move 97 = .ok (.iload_n 3, 1) := by decide +kernel
theorem dX1_move_98 : decode cX1_move 98 = .ok (.invokevirtual 31, 3) := by decide +kernel
theorem dX1_move_101 : decode cX1_move 101 = .ok (.goto 38, 3) := by decide +kernel
theorem dX1_move_104 : decode cX1_move 104 = .ok (.aload_n 0, 1) := by decide +kernel
theorem dX1_move_105 : decode cX1_move 105 = .ok (.invokevirtual 35, 3) := by decide +kernel
theorem dX1_move_108 : decode cX1_move 108 = .ok (.pop, 1) := by decide +kernel
theorem dX1_move_109 : decode cX1_move 109 = .ok (.goto 30, 3) := by decide +kernel
theorem dX1_move_112 : decode cX1_move 112 = .ok (.aload_n 0, 1) := by decide +kernel
theorem dX1_move_113 : decode cX1_move 113 = .ok (.invokevirtual 35, 3) := by decide +kernel
theorem dX1_move_116 : decode cX1_move 116 = .ok (.istore 4, 2) := by decide +kernel
theorem dX1_move_118 : decode cX1_move 118 = .ok (.aload_n 0, 1) := by decide +kernel
theorem dX1_move_119 : decode cX1_move 119 = .ok (.invokevirtual 35, 3) := by decide +kernel
theorem dX1_move_122 : decode cX1_move 122 = .ok (.istore 5, 2) := by decide +kernel
theorem dX1_move_124 : decode cX1_move 124 = .ok (.aload_n 0, 1) := by decide +kernel
theorem dX1_move_125 : decode cX1_move 125 = .ok (.iload 4, 2) := by decide +kernel
theorem dX1_move_127 : decode cX1_move 127 = .ok (.invokevirtual 31, 3) := by decide +kernel
theorem dX1_move_130 : decode cX1_move 130 = .ok (.aload_n 0, 1) := by decide +kernel
theorem dX1_move_131 : decode cX1_move 131 = .ok (.iload 5, 2) := by decide +kernel
theorem dX1_move_133 : decode cX1_move 133 = .ok (.invokevirtual 31, 3) := by decide +kernel
theorem dX1_move_136 : decode cX1_move 136 = .ok (.goto 3, 3) := by decide +kernel
theorem dX1_move_139 : decode cX1_move 139 = .ok (.return_, 1) := by decide +kernel
theorem dX2_init_0 : decode cX2_init 0 = .ok (.aload_n 0, 1) := by decide +kernel
theorem dX2_init_1 : decode cX2_init 1 = .ok (.invokespecial 3, 3) := by decide +kernel
theorem dX2_init_4 : decode cX2_init 4 = .ok (.aload_n 0, 1) := by decide +kernel
theorem dX2_init_5 : decode cX2_init 5 = .ok (.bipush 30, 2) := by decide +kernel
theorem dX2_init_7 : decode cX2_init 7 = .ok (.newarray .int, 2) := by decide +kernel
theorem dX2_init_9 : decode cX2_init 9 = .ok (.putfield 9, 3) := by decide +kernel
theorem dX2_init_12 : decode cX2_init 12 = .ok (.return_, 1) := by decide +kernel
theorem dX2_reset_0 : decode cX2_reset 0 = .ok (.aload_n 0, 1) := by decide +kernel
theorem dX2_reset_1 : decode cX2_reset 1 = .ok (.iconst 0, 1) := by decide +kernel
theorem dX2_reset_2 : decode cX2_reset 2 = .ok (.putfield 15, 3) := by decide +kernel
theorem dX2_reset_5 : decode cX2_reset 5 = .ok (.aload_n 0, 1) := by decide +kernel
theorem dX2_reset_6 : decode cX2_reset 6 = .ok (.iconst 0, 1) := by decide +kernel
theorem dX2_reset_7 : decode cX2_reset 7 = .ok (.putfield 19, 3) := by decide +kernel
theorem dX2_reset_10 : decode cX2_reset 10 = .ok (.return_, 1) := by decide +kernel
theorem dX2_give_0 : decode cX2_give 0 = .ok (.aload_n 0, 1) := by decide +kernel
theorem dX2_give_1 : decode cX2_give 1 = .ok (.aload_n 0, 1) := by decide +kernel
theorem dX2_give_2 : decode cX2_give 2 = .ok (.getfield 15, 3) := by decide +kernel
theorem dX2_give_5 : decode cX2_give 5 = .ok (.iconst 1, 1) := by decide +kernel
theorem dX2_give_6 : decode cX2_give 6 = .ok (.iadd, 1) := by decide +kernel
theorem dX2_give_7 : decode cX2_give 7 = .ok (.bipush 30, 2) := by decide +kernel
theorem dX2_give_9 : decode cX2_give 9 = .ok (.if_icmp .ge 12, 3) := by decide +kernel
theorem dX2_give_12 : decode cX2_give 12 = .ok (.aload_n 0, 1) := by decide +kernel
theorem dX2_give_13 : decode cX2_give 13 = .ok (.getfield 15, 3) := by decide +kernel
theorem dX2_give_16 : decode cX2_give 16 = .ok (.iconst 1, 1) := by decide +kernel
theorem dX2_give_17 : decode cX2_give 17 = .ok (.iadd, 1) := by decide +kernel
theorem dX2_give_18 : decode cX2_give 18 = .ok (.goto 4, 3) := by decide +kernel
theorem dX2_give_21 : decode cX2_give 21 = .ok (.iconst 0, 1) := by decide +kernel
theorem dX2_give_22 : decode cX2_give 22 = .ok (.putfield 15, 3) := by decide +kernel
theorem dX2_give_25 : decode cX2_give 25 = .ok (.aload_n 0, 1) := by decide +kernel
theorem dX2_give_26 : decode cX2_give 26 = .ok (.getfield 9, 3) := by decide +kernel
theorem dX2_give_29 : decode cX2_give 29 = .ok (.aload_n 0, 1) := by decide +kernel
theorem dX2_give_30 : decode cX2_give 30 = .ok (.getfield 15, 3) := by decide +kernel
theorem dX2_give_33 : decode cX2_give 33 = .ok (.iload_n 1, 1) := by decide +kernel
theorem dX2_give_34 : decode cX2_give 34 = .ok (.iastore, 1) := by decide +kernel
theorem dX2_give_35 : decode cX2_give 35 = .ok (.aload_n 0, 1) := by decide +kernel
theorem dX2_give_36 : decode cX2_give 36 = .ok (.dup, 1) := by decide +kernel
theorem dX2_give_37 : decode cX2_give 37 = .ok (.getfield 19, 3) := by decide +kernel
theorem dX2_give_40 : decode cX2_give 40 = .ok (.iconst 1, 1) := by decide +kernel
theorem dX2_give_41 : decode cX2_give 41 = .ok (.iadd, 1) := by decide +kernel
theorem dX2_give_42 : decode cX2_give 42 = .ok (.putfield 19, 3) := by decide +kernel
theorem dX2_give_45 : decode cX2_give 45 = .ok (.return_, 1) := by decide +kernel
theorem dX2_keeps_0 : decode cX2_keeps 0 = .ok (.iload_n 1, 1) := by decide +kernel
theorem dX2_keeps_1 : decode cX2_keeps 1 = .ok (.ifCond .lt 21, 3) := by decide +kernel
theorem dX2_keeps_4 : decode cX2_keeps 4 = .ok (.iload_n 1, 1) := by decide +kernel
theorem dX2_keeps_5 : decode cX2_keeps 5 = .ok (.bipush 30, 2) := by decide +kernel
theorem dX2_keeps_7 : decode cX2_keeps 7 = .ok (.if_icmp .ge 15, 3) := by decide +kernel
theorem dX2_keeps_10 : decode cX2_keeps 10 = .ok (.iload_n 1, 1) := by decide +kernel
theorem dX2_keeps_11 : decode cX2_keeps 11 = .ok (.aload_n 0, 1) := by decide +kernel
theorem dX2_keeps_12 : decode cX2_keeps 12 = .ok (.getfield 19, 3) := by decide +kernel
theorem dX2_keeps_15 : decode cX2_keeps 15 = .ok (.if_icmp .ge 7, 3) := by decide +kernel
theorem dX2_keeps_18 : decode cX2_keeps 18 = .ok (.iconst 1, 1) := by decide +kernel
theorem dX2_keeps_19 : decode cX2_keeps 19 = .ok (.goto 4, 3) := by decide +kernel
theorem dX2_keeps_22 : decode cX2_keeps 22 = .ok (.iconst 0, 1) := by decide +kernel
theorem dX2_keeps_23 : decode cX2_keeps 23 = .ok (.ireturn, 1) := by decide +kernel
theorem dX2_back_0 : decode cX2_back 0 = .ok (.aload_n 0, 1) := by decide +kernel
theorem dX2_back_1 : decode cX2_back 1 = .ok (.getfield 9, 3) := by decide +kernel
theorem dX2_back_4 : decode cX2_back 4 = .ok (.aload_n 0, 1) := by decide +kernel
theorem dX2_back_5 : decode cX2_back 5 = .ok (.getfield 15, 3) := by decide +kernel
theorem dX2_back_8 : decode cX2_back 8 = .ok (.iload_n 1, 1) := by decide +kernel
theorem dX2_back_9 : decode cX2_back 9 = .ok (.isub, 1) := by decide +kernel
theorem dX2_back_10 : decode cX2_back 10 = .ok (.bipush 30, 2) := by decide +kernel
theorem dX2_back_12 : decode cX2_back 12 = .ok (.invokestatic 22, 3) := by decide +kernel
theorem dX2_back_15 : decode cX2_back 15 = .ok (.iaload, 1) := by decide +kernel
theorem dX2_back_16 : decode cX2_back 16 = .ok (.ireturn, 1) := by decide +kernel
theorem dX3_init_0 : decode cX3_init 0 = .ok (.aload_n 0, 1) := by decide +kernel
theorem dX3_init_1 : decode cX3_init 1 = .ok (.invokespecial 3, 3) := by decide +kernel
theorem dX3_init_4 : decode cX3_init 4 = .ok (.aload_n 0, 1) := by decide +kernel
theorem dX3_init_5 : decode cX3_init 5 = .ok (.bipush 15, 2) := by decide +kernel
theorem dX3_init_7 : decode cX3_init 7 = .ok (.newarray .int, 2) := by decide +kernel
theorem dX3_init_9 : decode cX3_init 9 = .ok (.putfield 9, 3) := by decide +kernel
theorem dX3_init_12 : decode cX3_init 12 = .ok (.aload_n 0, 1) := by decide +kernel
theorem dX3_init_13 : decode cX3_init 13 = .ok (.bipush 15, 2) := by decide +kernel
theorem dX3_init_15 : decode cX3_init 15 = .ok (.newarray .boolean, 2) := by decide +kernel
theorem dX3_init_17 : decode cX3_init 17 = .ok (.putfield 15, 3) := by decide +kernel
theorem dX3_init_20 : decode cX3_init 20 = .ok (.aload_n 0, 1) := by decide +kernel
theorem dX3_init_21 : decode cX3_init 21 = .ok (.bipush 15, 2) := by decide +kernel
theorem dX3_init_23 : decode cX3_init 23 = .ok (.newarray .int, 2) := by decide +kernel
theorem dX3_init_25 : decode cX3_init 25 = .ok (.putfield 19, 3) := by decide +kernel
theorem dX3_init_28 : decode cX3_init 28 = .ok (.aload_n 0, 1) := by decide +kernel
theorem dX3_init_29 : decode cX3_init 29 = .ok (.bipush 15, 2) := by decide +kernel
theorem dX3_init_31 : decode cX3_init 31 = .ok (.newarray .int, 2) := by decide +kernel
theorem dX3_init_33 : decode cX3_init 33 = .ok (.putfield 22, 3) := by decide +kernel
theorem dX3_init_36 : decode cX3_init 36 = .ok (.aload_n 0, 1) := by decide +kernel
theorem dX3_init_37 : decode cX3_init 37 = .ok (.sipush 180, 3) := by decide +kernel
theorem dX3_init_40 : decode cX3_init 40 = .ok (.newarray .int, 2) := by decide +kernel
theorem dX3_init_42 : decode cX3_init 42 = .ok (.putfield 25, 3) := by decide +kernel
theorem dX3_init_45 : decode cX3_init 45 = .ok (.return_, 1) := by decide +kernel
theorem dX3_has_0 : decode cX3_has 0 = .ok (.iconst 0, 1) := by decide +kernel
theorem dX3_has_1 : decode cX3_has 1 = .ok (.istore_n 3, 1) := by decide +kernel
theorem dX3_has_2 : decode cX3_has 2 = .ok (.iload_n 3, 1) := by decide +kernel
theorem dX3_has_3 : decode cX3_has 3 = .ok (.aload_n 0, 1) := by decide +kernel
theorem dX3_has_4 : decode cX3_has 4 = .ok (.getfield 28, 3) := by decide +kernel
theorem dX3_has_7 : decode cX3_has 7 = .ok (.if_icmp .ge 31, 3) := by decide +kernel
theorem dX3_has_10 : decode cX3_has 10 = .ok (.aload_n 0, 1) := by decide +kernel
theorem dX3_has_11 : decode cX3_has 11 = .ok (.getfield 9, 3) := by decide +kernel
theorem dX3_has_14 : decode cX3_has 14 = .ok (.iload_n 3, 1) := by decide +kernel
theorem dX3_has_15 : decode cX3_has 15 = .ok (.iaload, 1) := by decide +kernel
theorem dX3_has_16 : decode cX3_has 16 = .ok (.iload_n 1, 1) := by decide +kernel
theorem dX3_has_17 : decode cX3_has 17 = .ok (.if_icmp .ne 15, 3) := by decide +kernel
theorem dX3_has_20 : decode cX3_has 20 = .ok (.aload_n 0, 1) := by decide +kernel
theorem dX3_has_21 : decode cX3_has 21 = .ok (.getfield 15, 3) := by decide +kernel
theorem dX3_has_24 : decode cX3_has 24 = .ok (.iload_n 3, 1) := by decide +kernel
theorem dX3_has_25 : decode cX3_has 25 = .ok (.baload, 1) := by decide +kernel
theorem dX3_has_26 : decode cX3_has 26 = .ok (.iload_n 2, 1) := by decide +kernel
theorem dX3_has_27 : decode cX3_has 27 = .ok (.if_icmp .ne 5, 3) := by decide +kernel
theorem dX3_has_30 : decode cX3_has 30 = .ok (.iconst 1, 1) := by decide +kernel
theorem dX3_has_31 : decode cX3_has 31 = .ok (.ireturn, 1) := by decide +kernel
theorem dX3_has_32 : decode cX3_has 32 = .ok (.iinc 3 1, 3) := by decide +kernel
theorem dX3_has_35 : decode cX3_has 35 = .ok (.goto (-33), 3) := by decide +kernel
theorem dX3_has_38 : decode cX3_has 38 = .ok (.iconst 0, 1) := by decide +kernel
theorem dX3_has_39 : decode cX3_has 39 = .ok (.ireturn, 1) := by decide +kernel
theorem dX3_put_0 : decode cX3_put 0 = .ok (.aload_n 0, 1) := by decide +kernel
theorem dX3_put_1 : decode cX3_put 1 = .ok (.getfield 28, 3) := by decide +kernel
theorem dX3_put_4 : decode cX3_put 4 = .ok (.istore 5, 2) := by decide +kernel
theorem dX3_put_6 : decode cX3_put 6 = .ok (.aload_n 0, 1) := by decide +kernel
theorem dX3_put_7 : decode cX3_put 7 = .ok (.getfield 9, 3) := by decide +kernel
theorem dX3_put_10 : decode cX3_put 10 = .ok (.iload 5, 2) := by decide +kernel
theorem dX3_put_12 : decode cX3_put 12 = .ok (.iload_n 1, 1) := by decide +kernel
theorem dX3_put_13 : decode cX3_put 13 = .ok (.iastore, 1) := by decide +kernel
theorem dX3_put_14 : decode cX3_put 14 = .ok (.aload_n 0, 1) := by decide +kernel
theorem dX3_put_15 : decode cX3_put 15 = .ok (.getfield 15, 3) := by decide +kernel
theorem dX3_put_18 : decode cX3_put 18 = .ok (.iload 5, 2) := by decide +kernel
theorem dX3_put_20 : decode cX3_put 20 = .ok (.iload_n 2, 1) := by decide +kernel
theorem dX3_put_21 : decode cX3_put 21 = .ok (.bastore, 1) := by decide +kernel
theorem dX3_put_22 : decode cX3_put 22 = .ok (.aload_n 0, 1) := by decide +kernel
theorem dX3_put_23 : decode cX3_put 23 = .ok (.getfield 19, 3) := by decide +kernel
theorem dX3_put_26 : decode cX3_put 26 = .ok (.iload 5, 2) := by decide +kernel
theorem dX3_put_28 : decode cX3_put 28 = .ok (.iload_n 3, 1) := by decide +kernel
theorem dX3_put_29 : decode cX3_put 29 = .ok (.iastore, 1) := by decide +kernel
theorem dX3_put_30 : decode cX3_put 30 = .ok (.aload_n 0, 1) := by decide +kernel
theorem dX3_put_31 : decode cX3_put 31 = .ok (.getfield 22, 3) := by decide +kernel
theorem dX3_put_34 : decode cX3_put 34 = .ok (.iload 5, 2) := by decide +kernel
theorem dX3_put_36 : decode cX3_put 36 = .ok (.aload 4, 2) := by decide +kernel
theorem dX3_put_38 : decode cX3_put 38 = .ok (.getfield 32, 3) := by decide +kernel
theorem dX3_put_41 : decode cX3_put 41 = .ok (.iastore, 1) := by decide +kernel
theorem dX3_put_42 : decode cX3_put 42 = .ok (.aload 4, 2) := by decide +kernel
theorem dX3_put_44 : decode cX3_put 44 = .ok (.getfield 37, 3) := by decide +kernel
theorem dX3_put_47 : decode cX3_put 47 = .ok (.iconst 0, 1) := by decide +kernel
theorem dX3_put_48 : decode cX3_put 48 = .ok (.aload_n 0, 1) := by decide +kernel
theorem dX3_put_49 : decode cX3_put 49 = .ok (.getfield 25, 3) := by decide +kernel
theorem dX3_put_52 : decode cX3_put 52 = .ok (.iload 5, 2) := by decide +kernel
theorem dX3_put_54 : decode cX3_put 54 = .ok (.bipush 12, 2) := by decide +kernel
theorem dX3_put_56 : decode cX3_put 56 = .ok (.imul, 1) := by decide +kernel
theorem dX3_put_57 : decode cX3_put 57 = .ok (.bipush 6, 2) := by decide +kernel
theorem dX3_put_59 : decode cX3_put 59 = .ok (.invokestatic 40, 3) := by decide +kernel
theorem dX3_put_62 : decode cX3_put 62 = .ok (.aload 4, 2) := by decide +kernel
theorem dX3_put_64 : decode cX3_put 64 = .ok (.getfield 46, 3) := by decide +kernel
theorem dX3_put_67 : decode cX3_put 67 = .ok (.iconst 0, 1) := by decide +kernel
theorem dX3_put_68 : decode cX3_put 68 = .ok (.aload_n 0, 1) := by decide +kernel
theorem dX3_put_69 : decode cX3_put 69 = .ok (.getfield 25, 3) := by decide +kernel
theorem dX3_put_72 : decode cX3_put 72 = .ok (.iload 5, 2) := by decide +kernel
theorem dX3_put_74 : decode cX3_put 74 = .ok (.bipush 12, 2) := by decide +kernel
theorem dX3_put_76 : decode cX3_put 76 = .ok (.imul, 1) := by decide +kernel
theorem dX3_put_77 : decode cX3_put 77 = .ok (.bipush 6, 2) := by decide +kernel
theorem dX3_put_79 : decode cX3_put 79 = .ok (.iadd, 1) := by decide +kernel
theorem dX3_put_80 : decode cX3_put 80 = .ok (.aload 4, 2) := by decide +kernel
theorem dX3_put_82 : decode cX3_put 82 = .ok (.getfield 32, 3) := by decide +kernel
theorem dX3_put_85 : decode cX3_put 85 = .ok (.invokestatic 40, 3) := by decide +kernel
theorem dX3_put_88 : decode cX3_put 88 = .ok (.aload_n 0, 1) := by decide +kernel
theorem dX3_put_89 : decode cX3_put 89 = .ok (.dup, 1) := by decide +kernel
theorem dX3_put_90 : decode cX3_put 90 = .ok (.getfield 28, 3) := by decide +kernel
theorem dX3_put_93 : decode cX3_put 93 = .ok (.iconst 1, 1) := by decide +kernel
theorem dX3_put_94 : decode cX3_put 94 = .ok (.iadd, 1) := by decide +kernel
theorem dX3_put_95 : decode cX3_put 95 = .ok (.putfield 28, 3) := by decide +kernel
theorem dX3_put_98 : decode cX3_put 98 = .ok (.iload 5, 2) := by decide +kernel
theorem dX3_put_100 : decode cX3_put 100 = .ok (.ireturn, 1) := by decide +kernel
theorem dX3_holds_0 : decode cX3_holds 0 = .ok (.aload_n 2, 1) := by decide +kernel
theorem dX3_holds_1 : decode cX3_holds 1 = .ok (.aload_n 0, 1) := by decide +kernel
theorem dX3_holds_2 : decode cX3_holds 2 = .ok (.getfield 9, 3) := by decide +kernel
theorem dX3_holds_5 : decode cX3_holds 5 = .ok (.iload_n 1, 1) := by decide +kernel
theorem dX3_holds_6 : decode cX3_holds 6 = .ok (.iaload, 1) := by decide +kernel
theorem dX3_holds_7 : decode cX3_holds 7 = .ok (.iaload, 1) := by decide +kernel
theorem dX3_holds_8 : decode cX3_holds 8 = .ok (.ifCond .eq 7, 3) := by decide +kernel
theorem dX3_holds_11 : decode cX3_holds 11 = .ok (.iconst 1, 1) := by decide +kernel
theorem dX3_holds_12 : decode cX3_holds 12 = .ok (.goto 4, 3) := by decide +kernel
theorem dX3_holds_15 : decode cX3_holds 15 = .ok (.iconst 0, 1) := by decide +kernel
theorem dX3_holds_16 : decode cX3_holds 16 = .ok (.aload_n 0, 1) := by decide +kernel
theorem dX3_holds_17 : decode cX3_holds 17 = .ok (.getfield 15, 3) := by decide +kernel
theorem dX3_holds_20 : decode cX3_holds 20 = .ok (.iload_n 1, 1) := by decide +kernel
theorem dX3_holds_21 : decode cX3_holds 21 = .ok (.baload, 1) := by decide +kernel
theorem dX3_holds_22 : decode cX3_holds 22 = .ok (.if_icmp .ne 7, 3) := by decide +kernel
theorem dX3_holds_25 : decode cX3_holds 25 = .ok (.iconst 1, 1) := by decide +kernel
theorem dX3_holds_26 : decode cX3_holds 26 = .ok (.goto 4, 3) := by decide +kernel
theorem dX3_holds_29 : decode cX3_holds 29 = .ok (.iconst 0, 1) := by decide +kernel
theorem dX3_holds_30 : decode cX3_holds 30 = .ok (.ireturn, 1) := by decide +kernel
theorem dX3_restore_0 : decode cX3_restore 0 = .ok (.iload_n 1, 1) := by decide +kernel
theorem dX3_restore_1 : decode cX3_restore 1 = .ok (.bipush 12, 2) := by decide +kernel
theorem dX3_restore_3 : decode cX3_restore 3 = .ok (.imul, 1) := by decide +kernel
theorem dX3_restore_4 : decode cX3_restore 4 = .ok (.istore 4, 2) := by decide +kernel
theorem dX3_restore_6 : decode cX3_restore 6 = .ok (.iconst 0, 1) := by decide +kernel
theorem dX3_restore_7 : decode cX3_restore 7 = .ok (.istore 5, 2) := by decide +kernel
theorem dX3_restore_9 : decode cX3_restore 9 = .ok (.iload 5, 2) := by decide +kernel
theorem dX3_restore_11 : decode cX3_restore 11 = .ok (.bipush 6, 2) := by decide +kernel
theorem dX3_restore_13 : decode cX3_restore 13 = .ok (.if_icmp .ge 28, 3) := by decide +kernel
theorem dX3_restore_16 : decode cX3_restore 16 = .ok (.aload_n 3, 1) := by decide +kernel
theorem dX3_restore_17 : decode cX3_restore 17 = .ok (.getfield 37, 3) := by decide +kernel
theorem dX3_restore_20 : decode cX3_restore 20 = .ok (.iload 5, 2) := by decide +kernel
theorem dX3_restore_22 : decode cX3_restore 22 = .ok (.aload_n 2, 1) := by decide +kernel
theorem dX3_restore_23 : decode cX3_restore 23 = .ok (.aload_n 0, 1) := by decide +kernel
theorem dX3_restore_24 : decode cX3_restore 24 = .ok (.getfield 25, 3) := by decide +kernel
theorem dX3_restore_27 : decode cX3_restore 27 = .ok (.iload 4, 2) := by decide +kernel
theorem dX3_restore_29 : decode cX3_restore 29 = .ok (.iload 5, 2) := by decide +kernel
theorem dX3_restore_31 : decode cX3_restore 31 = .ok (.iadd, 1) := by decide +kernel
theorem dX3_restore_32 : decode cX3_restore 32 = .ok (.iaload, 1) := by decide +kernel
theorem dX3_restore_33 : decode cX3_restore 33 = .ok (.iaload, 1) := by decide +kernel
theorem dX3_restore_34 : decode cX3_restore 34 = .ok (.iastore, 1) := by decide +kernel
theorem dX3_restore_35 : decode cX3_restore 35 = .ok (.iinc 5 1, 3) := by decide +kernel
theorem dX3_restore_38 : decode cX3_restore 38 = .ok (.goto (-29), 3) := by decide +kernel
theorem dX3_restore_41 : decode cX3_restore 41 = .ok (.iconst 0, 1) := by decide +kernel
theorem dX3_restore_42 : decode cX3_restore 42 = .ok (.istore 5, 2) := by decide +kernel
theorem dX3_restore_44 : decode cX3_restore 44 = .ok (.iload 5, 2) := by decide +kernel
theorem dX3_restore_46 : decode cX3_restore 46 = .ok (.aload_n 0, 1) := by decide +kernel
theorem dX3_restore_47 : decode cX3_restore 47 = .ok (.getfield 22, 3) := by decide +kernel
theorem dX3_restore_50 : decode cX3_restore 50 = .ok (.iload_n 1, 1) := by decide +kernel
theorem dX3_restore_51 : decode cX3_restore 51 = .ok (.iaload, 1) := by decide +kernel
theorem dX3_restore_52 : decode cX3_restore 52 = .ok (.if_icmp .ge 31, 3) := by decide +kernel
theorem dX3_restore_55 : decode cX3_restore 55 = .ok (.aload_n 3, 1) := by decide +kernel
theorem dX3_restore_56 : decode cX3_restore 56 = .ok (.getfield 46, 3) := by decide +kernel
theorem dX3_restore_59 : decode cX3_restore 59 = .ok (.iload 5, 2) := by decide +kernel
theorem dX3_restore_61 : decode cX3_restore 61 = .ok (.aload_n 2, 1) := by decide +kernel
theorem dX3_restore_62 : decode cX3_restore 62 = .ok (.aload_n 0, 1) := by decide +kernel
theorem dX3_restore_63 : decode cX3_restore 63 = .ok (.getfield 25, 3) := by decide +kernel
theorem dX3_restore_66 : decode cX3_restore 66 = .ok (.iload 4, 2) := by decide +kernel
theorem dX3_restore_68 : decode cX3_restore 68 = .ok (.bipush 6, 2) := by decide +kernel
theorem dX3_restore_70 : decode cX3_restore 70 = .ok (.iadd, 1) := by decide +kernel
theorem dX3_restore_71 : decode cX3_restore 71 = .ok (.iload 5, 2) := by decide +kernel
theorem dX3_restore_73 : decode cX3_restore 73 = .ok (.iadd, 1) := by decide +kernel
theorem dX3_restore_74 : decode cX3_restore 74 = .ok (.iaload, 1) := by decide +kernel
theorem dX3_restore_75 : decode cX3_restore 75 = .ok (.iaload, 1) := by decide +kernel
theorem dX3_restore_76 : decode cX3_restore 76 = .ok (.iastore, 1) := by decide +kernel
theorem dX3_restore_77 : decode cX3_restore 77 = .ok (.iinc 5 1, 3) := by decide +kernel
theorem dX3_restore_80 : decode cX3_restore 80 = .ok (.goto (-36), 3) := by decide +kernel
theorem dX3_restore_83 : decode cX3_restore 83 = .ok (.aload_n 3, 1) := by decide +kernel
theorem dX3_restore_84 : decode cX3_restore 84 = .ok (.aload_n 0, 1) := by decide +kernel
theorem dX3_restore_85 : decode cX3_restore 85 = .ok (.getfield 22, 3) := by decide +kernel
theorem dX3_restore_88 : decode cX3_restore 88 = .ok (.iload_n 1, 1) := by decide +kernel
theorem dX3_restore_89 : decode cX3_restore 89 = .ok (.iaload, 1) := by decide +kernel
theorem dX3_restore_90 : decode cX3_restore 90 = .ok (.putfield 32, 3) := by decide +kernel
theorem dX3_restore_93 : decode cX3_restore 93 = .ok (.aload_n 3, 1) := by decide +kernel
theorem dX3_restore_94 : decode cX3_restore 94 = .ok (.aload_n 0, 1) := by decide +kernel
theorem dX3_restore_95 : decode cX3_restore 95 = .ok (.getfield 19, 3) := by decide +kernel
theorem dX3_restore_98 : decode cX3_restore 98 = .ok (.iload_n 1, 1) := by decide +kernel
theorem dX3_restore_99 : decode cX3_restore 99 = .ok (.iaload, 1) := by decide +kernel
theorem dX3_restore_100 : decode cX3_restore 100 = .ok (.putfield 49, 3) := by decide +kernel
theorem dX3_restore_103 : decode cX3_restore 103 = .ok (.return_, 1) := by decide +kernel
theorem dX4_init_0 : decode cX4_init 0 = .ok (.aload_n 0, 1) := by decide +kernel
theorem dX4_init_1 : decode cX4_init 1 = .ok (.invokespecial 3, 3) := by decide +kernel
theorem dX4_init_4 : decode cX4_init 4 = .ok (.aload_n 0, 1) := by decide +kernel
theorem dX4_init_5 : decode cX4_init 5 = .ok (.bipush 40, 2) := by decide +kernel
theorem dX4_init_7 : decode cX4_init 7 = .ok (.newarray .int, 2) := by decide +kernel
theorem dX4_init_9 : decode cX4_init 9 = .ok (.putfield 9, 3) := by decide +kernel
theorem dX4_init_12 : decode cX4_init 12 = .ok (.aload_n 0, 1) := by decide +kernel
theorem dX4_init_13 : decode cX4_init 13 = .ok (.bipush 40, 2) := by decide +kernel
theorem dX4_init_15 : decode cX4_init 15 = .ok (.newarray .int, 2) := by decide +kernel
theorem dX4_init_17 : decode cX4_init 17 = .ok (.putfield 15, 3) := by decide +kernel
theorem dX4_init_20 : decode cX4_init 20 = .ok (.aload_n 0, 1) := by decide +kernel
theorem dX4_init_21 : decode cX4_init 21 = .ok (.bipush 40, 2) := by decide +kernel
theorem dX4_init_23 : decode cX4_init 23 = .ok (.newarray .int, 2) := by decide +kernel
theorem dX4_init_25 : decode cX4_init 25 = .ok (.putfield 18, 3) := by decide +kernel
theorem dX4_init_28 : decode cX4_init 28 = .ok (.return_, 1) := by decide +kernel
theorem dX4_reset_0 : decode cX4_reset 0 = .ok (.aload_n 0, 1) := by decide +kernel
theorem dX4_reset_1 : decode cX4_reset 1 = .ok (.getfield 9, 3) := by decide +kernel
theorem dX4_reset_4 : decode cX4_reset 4 = .ok (.iconst 0, 1) := by decide +kernel
theorem dX4_reset_5 : decode cX4_reset 5 = .ok (.invokestatic 21, 3) := by decide +kernel
theorem dX4_reset_8 : decode cX4_reset 8 = .ok (.aload_n 0, 1) := by decide +kernel
theorem dX4_reset_9 : decode cX4_reset 9 = .ok (.getfield 15, 3) := by decide +kernel
theorem dX4_reset_12 : decode cX4_reset 12 = .ok (.iconst 0, 1) := by decide +kernel
theorem dX4_reset_13 : decode cX4_reset 13 = .ok (.invokestatic 21, 3) := by decide +kernel
theorem dX4_reset_16 : decode cX4_reset 16 = .ok (.aload_n 0, 1) := by decide +kernel
theorem dX4_reset_17 : decode cX4_reset 17 = .ok (.getfield 18, 3) := by decide +kernel
theorem dX4_reset_20 : decode cX4_reset 20 = .ok (.iconst (-1), 1) := by decide +kernel
theorem dX4_reset_21 : decode cX4_reset 21 = .ok (.invokestatic 21, 3) := by decide +kernel
theorem dX4_reset_24 : decode cX4_reset 24 = .ok (.return_, 1) := by decide +kernel
theorem dX5_init_0 : decode cX5_init 0 = .ok (.aload_n 0, 1) := by decide +kernel
theorem dX5_init_1 : decode cX5_init 1 = .ok (.invokespecial 3, 3) := by decide +kernel
theorem dX5_init_4 : decode cX5_init 4 = .ok (.aload_n 0, 1) := by decide +kernel
theorem dX5_init_5 : decode cX5_init 5 = .ok (.bipush 30, 2) := by decide +kernel
theorem dX5_init_7 : decode cX5_init 7 = .ok (.newarray .int, 2) := by decide +kernel
theorem dX5_init_9 : decode cX5_init 9 = .ok (.putfield 9, 3) := by decide +kernel
theorem dX5_init_12 : decode cX5_init 12 = .ok (.aload_n 0, 1) := by decide +kernel
theorem dX5_init_13 : decode cX5_init 13 = .ok (.bipush 30, 2) := by decide +kernel
theorem dX5_init_15 : decode cX5_init 15 = .ok (.newarray .boolean, 2) := by decide +kernel
theorem dX5_init_17 : decode cX5_init 17 = .ok (.putfield 15, 3) := by decide +kernel
theorem dX5_init_20 : decode cX5_init 20 = .ok (.aload_n 0, 1) := by decide +kernel
theorem dX5_init_21 : decode cX5_init 21 = .ok (.iconst (-1), 1) := by decide +kernel
theorem dX5_init_22 : decode cX5_init 22 = .ok (.putfield 19, 3) := by decide +kernel
theorem dX5_init_25 : decode cX5_init 25 = .ok (.return_, 1) := by decide +kernel
theorem dX5_isOn_0 : decode cX5_isOn 0 = .ok (.aload_n 0, 1) := by decide +kernel
theorem dX5_isOn_1 : decode cX5_isOn 1 = .ok (.getfield 19, 3) := by decide +kernel
theorem dX5_isOn_4 : decode cX5_isOn 4 = .ok (.iconst (-1), 1) := by decide +kernel
theorem dX5_isOn_5 : decode cX5_isOn 5 = .ok (.if_icmp .eq 7, 3) := by decide +kernel
theorem dX5_isOn_8 : decode cX5_isOn 8 = .ok (.iconst 1, 1) := by decide +kernel
theorem dX5_isOn_9 : decode cX5_isOn 9 = .ok (.goto 4, 3) := by decide +kernel
theorem dX5_isOn_12 : decode cX5_isOn 12 = .ok (.iconst 0, 1) := by decide +kernel
theorem dX5_isOn_13 : decode cX5_isOn 13 = .ok (.ireturn, 1) := by decide +kernel
theorem dX5_isFull_0 : decode cX5_isFull 0 = .ok (.aload_n 0, 1) := by decide +kernel
theorem dX5_isFull_1 : decode cX5_isFull 1 = .ok (.invokevirtual 23, 3) := by decide +kernel
theorem dX5_isFull_4 : decode cX5_isFull 4 = .ok (.ifCond .eq 16, 3) := by decide +kernel
theorem dX5_isFull_7 : decode cX5_isFull 7 = .ok (.aload_n 0, 1) := by decide +kernel
theorem dX5_isFull_8 : decode cX5_isFull 8 = .ok (.getfield 27, 3) := by decide +kernel
theorem dX5_isFull_11 : decode cX5_isFull 11 = .ok (.bipush 30, 2) := by decide +kernel
theorem dX5_isFull_13 : decode cX5_isFull 13 = .ok (.if_icmp .ne 7, 3) := by decide +kernel
theorem dX5_isFull_16 : decode cX5_isFull 16 = .ok (.iconst 1, 1) := by decide +kernel
theorem dX5_isFull_17 : decode cX5_isFull 17 = .ok (.goto 4, 3) := by decide +kernel
theorem dX5_isFull_20 : decode cX5_isFull 20 = .ok (.iconst 0, 1) := by decide +kernel
theorem dX5_isFull_21 : decode cX5_isFull 21 = .ok (.ireturn, 1) := by decide +kernel
theorem dX5_closesAt_0 : decode cX5_closesAt 0 = .ok (.aload_n 0, 1) := by decide +kernel
theorem dX5_closesAt_1 : decode cX5_closesAt 1 = .ok (.invokevirtual 23, 3) := by decide +kernel
theorem dX5_closesAt_4 : decode cX5_closesAt 4 = .ok (.ifCond .eq 22, 3) := by decide +kernel
theorem dX5_closesAt_7 : decode cX5_closesAt 7 = .ok (.aload_n 0, 1) := by decide +kernel
theorem dX5_closesAt_8 : decode cX5_closesAt 8 = .ok (.getfield 27, 3) := by decide +kernel
theorem dX5_closesAt_11 : decode cX5_closesAt 11 = .ok (.ifCond .le 15, 3) := by decide +kernel
theorem dX5_closesAt_14 : decode cX5_closesAt 14 = .ok (.iload_n 1, 1) := by decide +kernel
theorem dX5_closesAt_15 : decode cX5_closesAt 15 = .ok (.aload_n 0, 1) := by decide +kernel
theorem dX5_closesAt_16 : decode cX5_closesAt 16 = .ok (.getfield 19, 3) := by decide +kernel
theorem dX5_closesAt_19 : decode cX5_closesAt 19 = .ok (.if_icmp .ne 7, 3) := by decide +kernel
theorem dX5_closesAt_22 : decode cX5_closesAt 22 = .ok (.iconst 1, 1) := by decide +kernel
theorem dX5_closesAt_23 : decode cX5_closesAt 23 = .ok (.goto 4, 3) := by decide +kernel
theorem dX5_closesAt_26 : decode cX5_closesAt 26 = .ok (.iconst 0, 1) := by decide +kernel
theorem dX5_closesAt_27 : decode cX5_closesAt 27 = .ok (.ireturn, 1) := by decide +kernel
theorem dX5_startAt_0 : decode cX5_startAt 0 = .ok (.aload_n 0, 1) := by decide +kernel
theorem dX5_startAt_1 : decode cX5_startAt 1 = .ok (.iload_n 1, 1) := by decide +kernel
theorem dX5_startAt_2 : decode cX5_startAt 2 = .ok (.putfield 19, 3) := by decide +kernel
theorem dX5_startAt_5 : decode cX5_startAt 5 = .ok (.aload_n 0, 1) := by decide +kernel
theorem dX5_startAt_6 : decode cX5_startAt 6 = .ok (.iconst 0, 1) := by decide +kernel
theorem dX5_startAt_7 : decode cX5_startAt 7 = .ok (.putfield 27, 3) := by decide +kernel
theorem dX5_startAt_10 : decode cX5_startAt 10 = .ok (.return_, 1) := by decide +kernel
theorem dX5_stop_0 : decode cX5_stop 0 = .ok (.aload_n 0, 1) := by decide +kernel
theorem dX5_stop_1 : decode cX5_stop 1 = .ok (.iconst (-1), 1) := by decide +kernel
theorem dX5_stop_2 : decode cX5_stop 2 = .ok (.putfield 19, 3) := by decide +kernel
theorem dX5_stop_5 : decode cX5_stop 5 = .ok (.return_, 1) := by decide +kernel
theorem dX5_note_0 : decode cX5_note 0 = .ok (.aload_n 0, 1) := by decide +kernel
theorem dX5_note_1 : decode cX5_note 1 = .ok (.getfield 9, 3) := by decide +kernel
theorem dX5_note_4 : decode cX5_note 4 = .ok (.aload_n 0, 1) := by decide +kernel
theorem dX5_note_5 : decode cX5_note 5 = .ok (.getfield 27, 3) := by decide +kernel
theorem dX5_note_8 : decode cX5_note 8 = .ok (.iload_n 1, 1) := by decide +kernel
theorem dX5_note_9 : decode cX5_note 9 = .ok (.iastore, 1) := by decide +kernel
theorem dX5_note_10 : decode cX5_note 10 = .ok (.aload_n 0, 1) := by decide +kernel
theorem dX5_note_11 : decode cX5_note 11 = .ok (.getfield 15, 3) := by decide +kernel
theorem dX5_note_14 : decode cX5_note 14 = .ok (.aload_n 0, 1) := by decide +kernel
theorem dX5_note_15 : decode cX5_note 15 = .ok (.getfield 27, 3) := by decide +kernel
theorem dX5_note_18 : decode cX5_note 18 = .ok (.iload_n 2, 1) := by decide +kernel
theorem dX5_note_19 : decode cX5_note 19 = .ok (.bastore, 1) := by decide +kernel
theorem dX5_note_20 : decode cX5_note 20 = .ok (.aload_n 0, 1) := by decide +kernel
theorem dX5_note_21 : decode cX5_note 21 = .ok (.dup, 1) := by decide +kernel
theorem dX5_note_22 : decode cX5_note 22 = .ok (.getfield 27, 3) := by decide +kernel
theorem dX5_note_25 : decode cX5_note 25 = .ok (.iconst 1, 1) := by decide +kernel
theorem dX5_note_26 : decode cX5_note 26 = .ok (.iadd, 1) := by decide +kernel
theorem dX5_note_27 : decode cX5_note 27 = .ok (.putfield 27, 3) := by decide +kernel
theorem dX5_note_30 : decode cX5_note 30 = .ok (.return_, 1) := by decide +kernel
theorem dX6_init_0 : decode cX6_init 0 = .ok (.aload_n 0, 1) := by decide +kernel
theorem dX6_init_1 : decode cX6_init 1 = .ok (.invokespecial 1, 3) := by decide +kernel
theorem dX6_init_4 : decode cX6_init 4 = .ok (.return_, 1) := by decide +kernel
theorem dX6_reset_0 : decode cX6_reset 0 = .ok (.aload_n 0, 1) := by decide +kernel
theorem dX6_reset_1 : decode cX6_reset 1 = .ok (.iconst 0, 1) := by decide +kernel
theorem dX6_reset_2 : decode cX6_reset 2 = .ok (.putfield 7, 3) := by decide +kernel
theorem dX6_reset_5 : decode cX6_reset 5 = .ok (.aload_n 0, 1) := by decide +kernel
theorem dX6_reset_6 : decode cX6_reset 6 = .ok (.iconst 0, 1) := by decide +kernel
theorem dX6_reset_7 : decode cX6_reset 7 = .ok (.putfield 13, 3) := by decide +kernel
theorem dX6_reset_10 : decode cX6_reset 10 = .ok (.aload_n 0, 1) := by decide +kernel
theorem dX6_reset_11 : decode cX6_reset 11 = .ok (.iconst 0, 1) := by decide +kernel
theorem dX6_reset_12 : decode cX6_reset 12 = .ok (.putfield 16, 3) := by decide +kernel
theorem dX6_reset_15 : decode cX6_reset 15 = .ok (.aload_n 0, 1) := by decide +kernel
theorem dX6_reset_16 : decode cX6_reset 16 = .ok (.iconst 0, 1) := by decide +kernel
theorem dX6_reset_17 : decode cX6_reset 17 = .ok (.putfield 19, 3) := by decide +kernel
theorem dX6_reset_20 : decode cX6_reset 20 = .ok (.return_, 1) := by decide +kernel
theorem dX7_init_0 : decode cX7_init 0 = .ok (.aload_n 0, 1) := by decide +kernel
theorem dX7_init_1 : decode cX7_init 1 = .ok (.invokespecial 3, 3) := by decide +kernel
theorem dX7_init_4 : decode cX7_init 4 = .ok (.aload_n 0, 1) := by decide +kernel
theorem dX7_init_5 : decode cX7_init 5 = .ok (.new 9, 3) := by decide +kernel
theorem dX7_init_8 : decode cX7_init 8 = .ok (.dup, 1) := by decide +kernel
theorem dX7_init_9 : decode cX7_init 9 = .ok (.invokespecial 11, 3) := by decide +kernel
theorem dX7_init_12 : decode cX7_init 12 = .ok (.putfield 12, 3) := by decide +kernel
theorem dX7_init_15 : decode cX7_init 15 = .ok (.aload_n 0, 1) := by decide +kernel
theorem dX7_init_16 : decode cX7_init 16 = .ok (.new 18, 3) := by decide +kernel
theorem dX7_init_19 : decode cX7_init 19 = .ok (.dup, 1) := by decide +kernel
theorem dX7_init_20 : decode cX7_init 20 = .ok (.invokespecial 20, 3) := by decide +kernel
theorem dX7_init_23 : decode cX7_init 23 = .ok (.putfield 21, 3) := by decide +kernel
theorem dX7_init_26 : decode cX7_init 26 = .ok (.aload_n 0, 1) := by decide +kernel
end
section
theorem dX7_init_27 : decode cX7_init 27 = .ok (.bipush 6, 2) := by decide +kernel
theorem dX7_init_29 : decode cX7_init 29 = .ok (.newarray .int, 2) := by decide +kernel
theorem dX7_init_31 : decode cX7_init 31 = .ok (.putfield 25, 3) := by decide +kernel
theorem dX7_init_34 : decode cX7_init 34 = .ok (.aload_n 0, 1) := by decide +kernel
theorem dX7_init_35 : decode cX7_init 35 = .ok (.bipush 30, 2) := by decide +kernel
theorem dX7_init_37 : decode cX7_init 37 = .ok (.newarray .int, 2) := by decide +kernel
theorem dX7_init_39 : decode cX7_init 39 = .ok (.putfield 29, 3) := by decide +kernel
theorem dX7_init_42 : decode cX7_init 42 = .ok (.aload_n 0, 1) := by decide +kernel
theorem dX7_init_43 : decode cX7_init 43 = .ok (.bipush 30, 2) := by decide +kernel
theorem dX7_init_45 : decode cX7_init 45 = .ok (.newarray .int, 2) := by decide +kernel
theorem dX7_init_47 : decode cX7_init 47 = .ok (.putfield 32, 3) := by decide +kernel
theorem dX7_init_50 : decode cX7_init 50 = .ok (.aload_n 0, 1) := by decide +kernel
theorem dX7_init_51 : decode cX7_init 51 = .ok (.bipush 30, 2) := by decide +kernel
theorem dX7_init_53 : decode cX7_init 53 = .ok (.newarray .int, 2) := by decide +kernel
theorem dX7_init_55 : decode cX7_init 55 = .ok (.putfield 35, 3) := by decide +kernel
theorem dX7_init_58 : decode cX7_init 58 = .ok (.return_, 1) := by decide +kernel
theorem dX7_resetAt_0 : decode cX7_resetAt 0 = .ok (.aload_n 0, 1) := by decide +kernel
theorem dX7_resetAt_1 : decode cX7_resetAt 1 = .ok (.getfield 12, 3) := by decide +kernel
theorem dX7_resetAt_4 : decode cX7_resetAt 4 = .ok (.invokevirtual 38, 3) := by decide +kernel
theorem dX7_resetAt_7 : decode cX7_resetAt 7 = .ok (.aload_n 0, 1) := by decide +kernel
theorem dX7_resetAt_8 : decode cX7_resetAt 8 = .ok (.getfield 21, 3) := by decide +kernel
theorem dX7_resetAt_11 : decode cX7_resetAt 11 = .ok (.iconst 0, 1) := by decide +kernel
theorem dX7_resetAt_12 : decode cX7_resetAt 12 = .ok (.putfield 41, 3) := by decide +kernel
theorem dX7_resetAt_15 : decode cX7_resetAt 15 = .ok (.aload_n 0, 1) := by decide +kernel
theorem dX7_resetAt_16 : decode cX7_resetAt 16 = .ok (.iload_n 1, 1) := by decide +kernel
theorem dX7_resetAt_17 : decode cX7_resetAt 17 = .ok (.putfield 45, 3) := by decide +kernel
theorem dX7_resetAt_20 : decode cX7_resetAt 20 = .ok (.aload_n 0, 1) := by decide +kernel
theorem dX7_resetAt_21 : decode cX7_resetAt 21 = .ok (.iconst 0, 1) := by decide +kernel
theorem dX7_resetAt_22 : decode cX7_resetAt 22 = .ok (.putfield 48, 3) := by decide +kernel
theorem dX7_resetAt_25 : decode cX7_resetAt 25 = .ok (.aload_n 0, 1) := by decide +kernel
theorem dX7_resetAt_26 : decode cX7_resetAt 26 = .ok (.iconst 0, 1) := by decide +kernel
theorem dX7_resetAt_27 : decode cX7_resetAt 27 = .ok (.putfield 51, 3) := by decide +kernel
theorem dX7_resetAt_30 : decode cX7_resetAt 30 = .ok (.aload_n 0, 1) := by decide +kernel
theorem dX7_resetAt_31 : decode cX7_resetAt 31 = .ok (.iconst 0, 1) := by decide +kernel
theorem dX7_resetAt_32 : decode cX7_resetAt 32 = .ok (.putfield 54, 3) := by decide +kernel
theorem dX7_resetAt_35 : decode cX7_resetAt 35 = .ok (.return_, 1) := by decide +kernel
theorem dX7_putInHead_0 : decode cX7_putInHead 0 = .ok (.aload_n 0, 1) := by decide +kernel
theorem dX7_putInHead_1 : decode cX7_putInHead 1 = .ok (.getfield 29, 3) := by decide +kernel
theorem dX7_putInHead_4 : decode cX7_putInHead 4 = .ok (.aload_n 0, 1) := by decide +kernel
theorem dX7_putInHead_5 : decode cX7_putInHead 5 = .ok (.getfield 48, 3) := by decide +kernel
theorem dX7_putInHead_8 : decode cX7_putInHead 8 = .ok (.iload_n 1, 1) := by decide +kernel
theorem dX7_putInHead_9 : decode cX7_putInHead 9 = .ok (.iastore, 1) := by decide +kernel
theorem dX7_putInHead_10 : decode cX7_putInHead 10 = .ok (.aload_n 0, 1) := by decide +kernel
theorem dX7_putInHead_11 : decode cX7_putInHead 11 = .ok (.dup, 1) := by decide +kernel
theorem dX7_putInHead_12 : decode cX7_putInHead 12 = .ok (.getfield 48, 3) := by decide +kernel
theorem dX7_putInHead_15 : decode cX7_putInHead 15 = .ok (.iconst 1, 1) := by decide +kernel
theorem dX7_putInHead_16 : decode cX7_putInHead 16 = .ok (.iadd, 1) := by decide +kernel
theorem dX7_putInHead_17 : decode cX7_putInHead 17 = .ok (.putfield 48, 3) := by decide +kernel
theorem dX7_putInHead_20 : decode cX7_putInHead 20 = .ok (.return_, 1) := by decide +kernel
theorem dX7_putInBody_0 : decode cX7_putInBody 0 = .ok (.aload_n 0, 1) := by decide +kernel
theorem dX7_putInBody_1 : decode cX7_putInBody 1 = .ok (.getfield 32, 3) := by decide +kernel
theorem dX7_putInBody_4 : decode cX7_putInBody 4 = .ok (.aload_n 0, 1) := by decide +kernel
theorem dX7_putInBody_5 : decode cX7_putInBody 5 = .ok (.getfield 51, 3) := by decide +kernel
theorem dX7_putInBody_8 : decode cX7_putInBody 8 = .ok (.iload_n 1, 1) := by decide +kernel
theorem dX7_putInBody_9 : decode cX7_putInBody 9 = .ok (.iastore, 1) := by decide +kernel
theorem dX7_putInBody_10 : decode cX7_putInBody 10 = .ok (.aload_n 0, 1) := by decide +kernel
theorem dX7_putInBody_11 : decode cX7_putInBody 11 = .ok (.getfield 35, 3) := by decide +kernel
theorem dX7_putInBody_14 : decode cX7_putInBody 14 = .ok (.aload_n 0, 1) := by decide +kernel
theorem dX7_putInBody_15 : decode cX7_putInBody 15 = .ok (.getfield 51, 3) := by decide +kernel
theorem dX7_putInBody_18 : decode cX7_putInBody 18 = .ok (.iload_n 2, 1) := by decide +kernel
theorem dX7_putInBody_19 : decode cX7_putInBody 19 = .ok (.iastore, 1) := by decide +kernel
theorem dX7_putInBody_20 : decode cX7_putInBody 20 = .ok (.aload_n 0, 1) := by decide +kernel
theorem dX7_putInBody_21 : decode cX7_putInBody 21 = .ok (.dup, 1) := by decide +kernel
theorem dX7_putInBody_22 : decode cX7_putInBody 22 = .ok (.getfield 51, 3) := by decide +kernel
theorem dX7_putInBody_25 : decode cX7_putInBody 25 = .ok (.iconst 1, 1) := by decide +kernel
theorem dX7_putInBody_26 : decode cX7_putInBody 26 = .ok (.iadd, 1) := by decide +kernel
theorem dX7_putInBody_27 : decode cX7_putInBody 27 = .ok (.putfield 51, 3) := by decide +kernel
theorem dX7_putInBody_30 : decode cX7_putInBody 30 = .ok (.iload_n 1, 1) := by decide +kernel
theorem dX7_putInBody_31 : decode cX7_putInBody 31 = .ok (.iconst 2, 1) := by decide +kernel
theorem dX7_putInBody_32 : decode cX7_putInBody 32 = .ok (.if_icmp .ne 13, 3) := by decide +kernel
theorem dX7_putInBody_35 : decode cX7_putInBody 35 = .ok (.aload_n 0, 1) := by decide +kernel
theorem dX7_putInBody_36 : decode cX7_putInBody 36 = .ok (.dup, 1) := by decide +kernel
theorem dX7_putInBody_37 : decode cX7_putInBody 37 = .ok (.getfield 54, 3) := by decide +kernel
theorem dX7_putInBody_40 : decode cX7_putInBody 40 = .ok (.iconst 1, 1) := by decide +kernel
theorem dX7_putInBody_41 : decode cX7_putInBody 41 = .ok (.iadd, 1) := by decide +kernel
theorem dX7_putInBody_42 : decode cX7_putInBody 42 = .ok (.putfield 54, 3) := by decide +kernel
theorem dX7_putInBody_45 : decode cX7_putInBody 45 = .ok (.return_, 1) := by decide +kernel
theorem dX7_bodyOperations_0 : decode cX7_bodyOperations 0 = .ok (.aload_n 0, 1) := by decide +kernel
theorem dX7_bodyOperations_1 : decode cX7_bodyOperations 1 = .ok (.getfield 51, 3) := by decide +kernel
theorem dX7_bodyOperations_4 : decode cX7_bodyOperations 4 = .ok (.aload_n 0, 1) := by decide +kernel
theorem dX7_bodyOperations_5 : decode cX7_bodyOperations 5 = .ok (.getfield 21, 3) := by decide +kernel
theorem dX7_bodyOperations_8 : decode cX7_bodyOperations 8 = .ok (.getfield 41, 3) := by decide +kernel
theorem dX7_bodyOperations_11 : decode cX7_bodyOperations 11 = .ok (.isub, 1) := by decide +kernel
theorem dX7_bodyOperations_12 : decode cX7_bodyOperations 12 = .ok (.aload_n 0, 1) := by decide +kernel
theorem dX7_bodyOperations_13 : decode cX7_bodyOperations 13 = .ok (.getfield 54, 3) := by decide +kernel
theorem dX7_bodyOperations_16 : decode cX7_bodyOperations 16 = .ok (.isub, 1) := by decide +kernel
theorem dX7_bodyOperations_17 : decode cX7_bodyOperations 17 = .ok (.ireturn, 1) := by decide +kernel
theorem dX7_stays_0 : decode cX7_stays 0 = .ok (.aload_n 0, 1) := by decide +kernel
theorem dX7_stays_1 : decode cX7_stays 1 = .ok (.getfield 25, 3) := by decide +kernel
theorem dX7_stays_4 : decode cX7_stays 4 = .ok (.iload_n 1, 1) := by decide +kernel
theorem dX7_stays_5 : decode cX7_stays 5 = .ok (.iaload, 1) := by decide +kernel
theorem dX7_stays_6 : decode cX7_stays 6 = .ok (.iload_n 1, 1) := by decide +kernel
theorem dX7_stays_7 : decode cX7_stays 7 = .ok (.if_icmp .ne 7, 3) := by decide +kernel
theorem dX7_stays_10 : decode cX7_stays 10 = .ok (.iconst 1, 1) := by decide +kernel
theorem dX7_stays_11 : decode cX7_stays 11 = .ok (.goto 4, 3) := by decide +kernel
theorem dX7_stays_14 : decode cX7_stays 14 = .ok (.iconst 0, 1) := by decide +kernel
theorem dX7_stays_15 : decode cX7_stays 15 = .ok (.ireturn, 1) := by decide +kernel
theorem dX7_countStaying_0 : decode cX7_countStaying 0 = .ok (.iconst 0, 1) := by decide +kernel
theorem dX7_countStaying_1 : decode cX7_countStaying 1 = .ok (.istore_n 1, 1) := by decide +kernel
theorem dX7_countStaying_2 : decode cX7_countStaying 2 = .ok (.iconst 0, 1) := by decide +kernel
theorem dX7_countStaying_3 : decode cX7_countStaying 3 = .ok (.istore_n 2, 1) := by decide +kernel
theorem dX7_countStaying_4 : decode cX7_countStaying 4 = .ok (.iload_n 2, 1) := by decide +kernel
theorem dX7_countStaying_5 : decode cX7_countStaying 5 = .ok (.bipush 6, 2) := by decide +kernel
theorem dX7_countStaying_7 : decode cX7_countStaying 7 = .ok (.if_icmp .ge 25, 3) := by decide +kernel
theorem dX7_countStaying_10 : decode cX7_countStaying 10 = .ok (.iload_n 1, 1) := by decide +kernel
theorem dX7_countStaying_11 : decode cX7_countStaying 11 = .ok (.aload_n 0, 1) := by decide +kernel
theorem dX7_countStaying_12 : decode cX7_countStaying 12 = .ok (.iload_n 2, 1) := by decide +kernel
theorem dX7_countStaying_13 : decode cX7_countStaying 13 = .ok (.invokevirtual 57, 3) := by decide +kernel
theorem dX7_countStaying_16 : decode cX7_countStaying 16 = .ok (.ifCond .eq 7, 3) := by decide +kernel
theorem dX7_countStaying_19 : decode cX7_countStaying 19 = .ok (.iconst 1, 1) := by decide +kernel
theorem dX7_countStaying_20 : decode cX7_countStaying 20 = .ok (.goto 4, 3) := by decide +kernel
theorem dX7_countStaying_23 : decode cX7_countStaying 23 = .ok (.iconst 0, 1) := by decide +kernel
theorem dX7_countStaying_24 : decode cX7_countStaying 24 = .ok (.iadd, 1) := by decide +kernel
theorem dX7_countStaying_25 : decode cX7_countStaying 25 = .ok (.istore_n 1, 1) := by decide +kernel
theorem dX7_countStaying_26 : decode cX7_countStaying 26 = .ok (.iinc 2 1, 3) := by decide +kernel
theorem dX7_countStaying_29 : decode cX7_countStaying 29 = .ok (.goto (-25), 3) := by decide +kernel
theorem dX7_countStaying_32 : decode cX7_countStaying 32 = .ok (.iload_n 1, 1) := by decide +kernel
theorem dX7_countStaying_33 : decode cX7_countStaying 33 = .ok (.ireturn, 1) := by decide +kernel
theorem dX7_doHead_0 : decode cX7_doHead 0 = .ok (.iconst 0, 1) := by decide +kernel
theorem dX7_doHead_1 : decode cX7_doHead 1 = .ok (.istore_n 2, 1) := by decide +kernel
theorem dX7_doHead_2 : decode cX7_doHead 2 = .ok (.iload_n 2, 1) := by decide +kernel
theorem dX7_doHead_3 : decode cX7_doHead 3 = .ok (.aload_n 0, 1) := by decide +kernel
theorem dX7_doHead_4 : decode cX7_doHead 4 = .ok (.getfield 48, 3) := by decide +kernel
theorem dX7_doHead_7 : decode cX7_doHead 7 = .ok (.if_icmp .ge 22, 3) := by decide +kernel
theorem dX7_doHead_10 : decode cX7_doHead 10 = .ok (.aload_n 0, 1) := by decide +kernel
theorem dX7_doHead_11 : decode cX7_doHead 11 = .ok (.getfield 12, 3) := by decide +kernel
theorem dX7_doHead_14 : decode cX7_doHead 14 = .ok (.aload_n 0, 1) := by decide +kernel
theorem dX7_doHead_15 : decode cX7_doHead 15 = .ok (.getfield 29, 3) := by decide +kernel
theorem dX7_doHead_18 : decode cX7_doHead 18 = .ok (.iload_n 2, 1) := by decide +kernel
theorem dX7_doHead_19 : decode cX7_doHead 19 = .ok (.iaload, 1) := by decide +kernel
theorem dX7_doHead_20 : decode cX7_doHead 20 = .ok (.invokevirtual 61, 3) := by decide +kernel
theorem dX7_doHead_23 : decode cX7_doHead 23 = .ok (.iinc 2 1, 3) := by decide +kernel
theorem dX7_doHead_26 : decode cX7_doHead 26 = .ok (.goto (-24), 3) := by decide +kernel
theorem dX7_doHead_29 : decode cX7_doHead 29 = .ok (.aload_n 1, 1) := by decide +kernel
theorem dX7_doHead_30 : decode cX7_doHead 30 = .ok (.dup, 1) := by decide +kernel
theorem dX7_doHead_31 : decode cX7_doHead 31 = .ok (.getfield 65, 3) := by decide +kernel
theorem dX7_doHead_34 : decode cX7_doHead 34 = .ok (.aload_n 0, 1) := by decide +kernel
theorem dX7_doHead_35 : decode cX7_doHead 35 = .ok (.getfield 48, 3) := by decide +kernel
theorem dX7_doHead_38 : decode cX7_doHead 38 = .ok (.iadd, 1) := by decide +kernel
theorem dX7_doHead_39 : decode cX7_doHead 39 = .ok (.putfield 65, 3) := by decide +kernel
theorem dX7_doHead_42 : decode cX7_doHead 42 = .ok (.return_, 1) := by decide +kernel
theorem dX7_doBody_0 : decode cX7_doBody 0 = .ok (.iconst 0, 1) := by decide +kernel
theorem dX7_doBody_1 : decode cX7_doBody 1 = .ok (.istore 4, 2) := by decide +kernel
theorem dX7_doBody_3 : decode cX7_doBody 3 = .ok (.iload 4, 2) := by decide +kernel
theorem dX7_doBody_5 : decode cX7_doBody 5 = .ok (.aload_n 0, 1) := by decide +kernel
theorem dX7_doBody_6 : decode cX7_doBody 6 = .ok (.getfield 51, 3) := by decide +kernel
theorem dX7_doBody_9 : decode cX7_doBody 9 = .ok (.if_icmp .ge 116, 3) := by decide +kernel
theorem dX7_doBody_12 : decode cX7_doBody 12 = .ok (.aload_n 0, 1) := by decide +kernel
theorem dX7_doBody_13 : decode cX7_doBody 13 = .ok (.getfield 35, 3) := by decide +kernel
theorem dX7_doBody_16 : decode cX7_doBody 16 = .ok (.iload 4, 2) := by decide +kernel
theorem dX7_doBody_18 : decode cX7_doBody 18 = .ok (.iaload, 1) := by decide +kernel
theorem dX7_doBody_19 : decode cX7_doBody 19 = .ok (.istore 5, 2) := by decide +kernel
theorem dX7_doBody_21 : decode cX7_doBody 21 = .ok (.aload_n 3, 1) := by decide +kernel
theorem dX7_doBody_22 : decode cX7_doBody 22 = .ok (.dup, 1) := by decide +kernel
theorem dX7_doBody_23 : decode cX7_doBody 23 = .ok (.getfield 65, 3) := by decide +kernel
theorem dX7_doBody_26 : decode cX7_doBody 26 = .ok (.iconst 1, 1) := by decide +kernel
theorem dX7_doBody_27 : decode cX7_doBody 27 = .ok (.iadd, 1) := by decide +kernel
theorem dX7_doBody_28 : decode cX7_doBody 28 = .ok (.putfield 65, 3) := by decide +kernel
theorem dX7_doBody_31 : decode cX7_doBody 31 = .ok (.aload_n 0, 1) := by decide +kernel
theorem dX7_doBody_32 : decode cX7_doBody 32 = .ok (.getfield 32, 3) := by decide +kernel
theorem dX7_doBody_35 : decode cX7_doBody 35 = .ok (.iload 4, 2) := by decide +kernel
theorem dX7_doBody_37 : decode cX7_doBody 37 = .ok (.iaload, 1) := by decide +kernel
theorem dX7_doBody_38 : decode cX7_doBody 38 = .ok (.ifCond .ne 15, 3) := by decide +kernel
theorem dX7_doBody_41 : decode cX7_doBody 41 = .ok (.aload_n 0, 1) := by decide +kernel
theorem dX7_doBody_42 : decode cX7_doBody 42 = .ok (.getfield 12, 3) := by decide +kernel
theorem dX7_doBody_45 : decode cX7_doBody 45 = .ok (.iload 5, 2) := by decide +kernel
theorem dX7_doBody_47 : decode cX7_doBody 47 = .ok (.invokevirtual 61, 3) := by decide +kernel
theorem dX7_doBody_50 : decode cX7_doBody 50 = .ok (.goto 69, 3) := by decide +kernel
theorem dX7_doBody_53 : decode cX7_doBody 53 = .ok (.aload_n 0, 1) := by decide +kernel
theorem dX7_doBody_54 : decode cX7_doBody 54 = .ok (.getfield 32, 3) := by decide +kernel
theorem dX7_doBody_57 : decode cX7_doBody 57 = .ok (.iload 4, 2) := by decide +kernel
theorem dX7_doBody_59 : decode cX7_doBody 59 = .ok (.iaload, 1) := by decide +kernel
theorem dX7_doBody_60 : decode cX7_doBody 60 = .ok (.iconst 2, 1) := by decide +kernel
theorem dX7_doBody_61 : decode cX7_doBody 61 = .ok (.if_icmp .ne 20, 3) := by decide +kernel
theorem dX7_doBody_64 : decode cX7_doBody 64 = .ok (.aload_n 2, 1) := by decide +kernel
theorem dX7_doBody_65 : decode cX7_doBody 65 = .ok (.aload_n 0, 1) := by decide +kernel
theorem dX7_doBody_66 : decode cX7_doBody 66 = .ok (.getfield 12, 3) := by decide +kernel
theorem dX7_doBody_69 : decode cX7_doBody 69 = .ok (.getfield 70, 3) := by decide +kernel
theorem dX7_doBody_72 : decode cX7_doBody 72 = .ok (.iload 5, 2) := by decide +kernel
theorem dX7_doBody_74 : decode cX7_doBody 74 = .ok (.iaload, 1) := by decide +kernel
theorem dX7_doBody_75 : decode cX7_doBody 75 = .ok (.invokevirtual 73, 3) := by decide +kernel
theorem dX7_doBody_78 : decode cX7_doBody 78 = .ok (.goto 41, 3) := by decide +kernel
theorem dX7_doBody_81 : decode cX7_doBody 81 = .ok (.aload_n 0, 1) := by decide +kernel
theorem dX7_doBody_82 : decode cX7_doBody 82 = .ok (.getfield 21, 3) := by decide +kernel
theorem dX7_doBody_85 : decode cX7_doBody 85 = .ok (.iload 5, 2) := by decide +kernel
theorem dX7_doBody_87 : decode cX7_doBody 87 = .ok (.aload_n 0, 1) := by decide +kernel
theorem dX7_doBody_88 : decode cX7_doBody 88 = .ok (.getfield 12, 3) := by decide +kernel
theorem dX7_doBody_91 : decode cX7_doBody 91 = .ok (.getfield 70, 3) := by decide +kernel
theorem dX7_doBody_94 : decode cX7_doBody 94 = .ok (.invokevirtual 78, 3) := by decide +kernel
theorem dX7_doBody_97 : decode cX7_doBody 97 = .ok (.ifCond .ne 22, 3) := by decide +kernel
theorem dX7_doBody_100 : decode cX7_doBody 100 = .ok (.aload_n 0, 1) := by decide +kernel
theorem dX7_doBody_101 : decode cX7_doBody 101 = .ok (.getfield 21, 3) := by decide +kernel
theorem dX7_doBody_104 : decode cX7_doBody 104 = .ok (.iload 5, 2) := by decide +kernel
theorem dX7_doBody_106 : decode cX7_doBody 106 = .ok (.aload_n 0, 1) := by decide +kernel
theorem dX7_doBody_107 : decode cX7_doBody 107 = .ok (.getfield 12, 3) := by decide +kernel
theorem dX7_doBody_110 : decode cX7_doBody 110 = .ok (.getfield 70, 3) := by decide +kernel
theorem dX7_doBody_113 : decode cX7_doBody 113 = .ok (.aload_n 1, 1) := by decide +kernel
theorem dX7_doBody_114 : decode cX7_doBody 114 = .ok (.invokevirtual 82, 3) := by decide +kernel
theorem dX7_doBody_117 : decode cX7_doBody 117 = .ok (.iconst 0, 1) := by decide +kernel
theorem dX7_doBody_118 : decode cX7_doBody 118 = .ok (.ireturn, 1) := by decide +kernel
theorem dX7_doBody_119 : decode cX7_doBody 119 = .ok (.iinc 4 1, 3) := by decide +kernel
theorem dX7_doBody_122 : decode cX7_doBody 122 = .ok (.goto (-119), 3) := by decide +kernel
theorem dX7_doBody_125 : decode cX7_doBody 125 = .ok (.iconst 0, 1) := by decide +kernel
theorem dX7_doBody_126 : decode cX7_doBody 126 = .ok (.istore 4, 2) := by decide +kernel
theorem dX7_doBody_128 : decode cX7_doBody 128 = .ok (.iload 4, 2) := by decide +kernel
theorem dX7_doBody_130 : decode cX7_doBody 130 = .ok (.bipush 6, 2) := by decide +kernel
theorem dX7_doBody_132 : decode cX7_doBody 132 = .ok (.if_icmp .ge 31, 3) := by decide +kernel
theorem dX7_doBody_135 : decode cX7_doBody 135 = .ok (.aload_n 1, 1) := by decide +kernel
theorem dX7_doBody_136 : decode cX7_doBody 136 = .ok (.getfield 86, 3) := by decide +kernel
theorem dX7_doBody_139 : decode cX7_doBody 139 = .ok (.iload 4, 2) := by decide +kernel
theorem dX7_doBody_141 : decode cX7_doBody 141 = .ok (.aload_n 0, 1) := by decide +kernel
theorem dX7_doBody_142 : decode cX7_doBody 142 = .ok (.getfield 12, 3) := by decide +kernel
theorem dX7_doBody_145 : decode cX7_doBody 145 = .ok (.getfield 70, 3) := by decide +kernel
theorem dX7_doBody_148 : decode cX7_doBody 148 = .ok (.aload_n 0, 1) := by decide +kernel
theorem dX7_doBody_149 : decode cX7_doBody 149 = .ok (.getfield 25, 3) := by decide +kernel
theorem dX7_doBody_152 : decode cX7_doBody 152 = .ok (.iload 4, 2) := by decide +kernel
theorem dX7_doBody_154 : decode cX7_doBody 154 = .ok (.iaload, 1) := by decide +kernel
theorem dX7_doBody_155 : decode cX7_doBody 155 = .ok (.iaload, 1) := by decide +kernel
theorem dX7_doBody_156 : decode cX7_doBody 156 = .ok (.iastore, 1) := by decide +kernel
theorem dX7_doBody_157 : decode cX7_doBody 157 = .ok (.iinc 4 1, 3) := by decide +kernel
theorem dX7_doBody_160 : decode cX7_doBody 160 = .ok (.goto (-32), 3) := by decide +kernel
theorem dX7_doBody_163 : decode cX7_doBody 163 = .ok (.iconst 1, 1) := by decide +kernel
theorem dX7_doBody_164 : decode cX7_doBody 164 = .ok (.ireturn, 1) := by decide +kernel
theorem dX8_init_0 : decode cX8_init 0 = .ok (.aload_n 0, 1) := by decide +kernel
theorem dX8_init_1 : decode cX8_init 1 = .ok (.invokespecial 3, 3) := by decide +kernel
theorem dX8_init_4 : decode cX8_init 4 = .ok (.aload_n 0, 1) := by decide +kernel
theorem dX8_init_5 : decode cX8_init 5 = .ok (.new 9, 3) := by decide +kernel
theorem dX8_init_8 : decode cX8_init 8 = .ok (.dup, 1) := by decide +kernel
theorem dX8_init_9 : decode cX8_init 9 = .ok (.invokespecial 11, 3) := by decide +kernel
theorem dX8_init_12 : decode cX8_init 12 = .ok (.putfield 12, 3) := by decide +kernel
theorem dX8_init_15 : decode cX8_init 15 = .ok (.aload_n 0, 1) := by decide +kernel
theorem dX8_init_16 : decode cX8_init 16 = .ok (.bipush 30, 2) := by decide +kernel
theorem dX8_init_18 : decode cX8_init 18 = .ok (.newarray .int, 2) := by decide +kernel
theorem dX8_init_20 : decode cX8_init 20 = .ok (.putfield 18, 3) := by decide +kernel
theorem dX8_init_23 : decode cX8_init 23 = .ok (.aload_n 0, 1) := by decide +kernel
theorem dX8_init_24 : decode cX8_init 24 = .ok (.bipush 30, 2) := by decide +kernel
theorem dX8_init_26 : decode cX8_init 26 = .ok (.newarray .int, 2) := by decide +kernel
theorem dX8_init_28 : decode cX8_init 28 = .ok (.putfield 22, 3) := by decide +kernel
theorem dX8_init_31 : decode cX8_init 31 = .ok (.aload_n 0, 1) := by decide +kernel
theorem dX8_init_32 : decode cX8_init 32 = .ok (.bipush 36, 2) := by decide +kernel
theorem dX8_init_34 : decode cX8_init 34 = .ok (.newarray .boolean, 2) := by decide +kernel
theorem dX8_init_36 : decode cX8_init 36 = .ok (.putfield 25, 3) := by decide +kernel
theorem dX8_init_39 : decode cX8_init 39 = .ok (.aload_n 0, 1) := by decide +kernel
theorem dX8_init_40 : decode cX8_init 40 = .ok (.bipush 36, 2) := by decide +kernel
theorem dX8_init_42 : decode cX8_init 42 = .ok (.newarray .boolean, 2) := by decide +kernel
theorem dX8_init_44 : decode cX8_init 44 = .ok (.putfield 29, 3) := by decide +kernel
theorem dX8_init_47 : decode cX8_init 47 = .ok (.return_, 1) := by decide +kernel
theorem dX8_make_0 : decode cX8_make 0 = .ok (.aload_n 1, 1) := by decide +kernel
theorem dX8_make_1 : decode cX8_make 1 = .ok (.aload_n 3, 1) := by decide +kernel
theorem dX8_make_2 : decode cX8_make 2 = .ok (.getfield 32, 3) := by decide +kernel
theorem dX8_make_5 : decode cX8_make 5 = .ok (.invokevirtual 38, 3) := by decide +kernel
theorem dX8_make_8 : decode cX8_make 8 = .ok (.aload_n 0, 1) := by decide +kernel
theorem dX8_make_9 : decode cX8_make 9 = .ok (.invokevirtual 44, 3) := by decide +kernel
theorem dX8_make_12 : decode cX8_make 12 = .ok (.iconst 0, 1) := by decide +kernel
theorem dX8_make_13 : decode cX8_make 13 = .ok (.istore 4, 2) := by decide +kernel
theorem dX8_make_15 : decode cX8_make 15 = .ok (.iload 4, 2) := by decide +kernel
theorem dX8_make_17 : decode cX8_make 17 = .ok (.aload_n 3, 1) := by decide +kernel
theorem dX8_make_18 : decode cX8_make 18 = .ok (.getfield 47, 3) := by decide +kernel
theorem dX8_make_21 : decode cX8_make 21 = .ok (.if_icmp .ge 33, 3) := by decide +kernel
theorem dX8_make_24 : decode cX8_make 24 = .ok (.aload_n 3, 1) := by decide +kernel
theorem dX8_make_25 : decode cX8_make 25 = .ok (.getfield 50, 3) := by decide +kernel
theorem dX8_make_28 : decode cX8_make 28 = .ok (.iload 4, 2) := by decide +kernel
theorem dX8_make_30 : decode cX8_make 30 = .ok (.iaload, 1) := by decide +kernel
theorem dX8_make_31 : decode cX8_make 31 = .ok (.istore 5, 2) := by decide +kernel
theorem dX8_make_33 : decode cX8_make 33 = .ok (.aload_n 0, 1) := by decide +kernel
theorem dX8_make_34 : decode cX8_make 34 = .ok (.aload_n 1, 1) := by decide +kernel
theorem dX8_make_35 : decode cX8_make 35 = .ok (.iload 5, 2) := by decide +kernel
theorem dX8_make_37 : decode cX8_make 37 = .ok (.aload_n 3, 1) := by decide +kernel
theorem dX8_make_38 : decode cX8_make 38 = .ok (.getfield 53, 3) := by decide +kernel
theorem dX8_make_41 : decode cX8_make 41 = .ok (.iload 4, 2) := by decide +kernel
theorem dX8_make_43 : decode cX8_make 43 = .ok (.baload, 1) := by decide +kernel
theorem dX8_make_44 : decode cX8_make 44 = .ok (.aload_n 2, 1) := by decide +kernel
theorem dX8_make_45 : decode cX8_make 45 = .ok (.invokevirtual 56, 3) := by decide +kernel
theorem dX8_make_48 : decode cX8_make 48 = .ok (.iinc 4 1, 3) := by decide +kernel
theorem dX8_make_51 : decode cX8_make 51 = .ok (.goto (-36), 3) := by decide +kernel
theorem dX8_make_54 : decode cX8_make 54 = .ok (.iconst 0, 1) := by decide +kernel
theorem dX8_make_55 : decode cX8_make 55 = .ok (.istore 4, 2) := by decide +kernel
theorem dX8_make_57 : decode cX8_make 57 = .ok (.iload 4, 2) := by decide +kernel
theorem dX8_make_59 : decode cX8_make 59 = .ok (.bipush 6, 2) := by decide +kernel
theorem dX8_make_61 : decode cX8_make 61 = .ok (.if_icmp .ge 42, 3) := by decide +kernel
theorem dX8_make_64 : decode cX8_make 64 = .ok (.aload_n 1, 1) := by decide +kernel
theorem dX8_make_65 : decode cX8_make 65 = .ok (.getfield 60, 3) := by decide +kernel
theorem dX8_make_68 : decode cX8_make 68 = .ok (.iload 4, 2) := by decide +kernel
theorem dX8_make_70 : decode cX8_make 70 = .ok (.aload_n 0, 1) := by decide +kernel
theorem dX8_make_71 : decode cX8_make 71 = .ok (.getfield 12, 3) := by decide +kernel
theorem dX8_make_74 : decode cX8_make 74 = .ok (.getfield 63, 3) := by decide +kernel
theorem dX8_make_77 : decode cX8_make 77 = .ok (.iload 4, 2) := by decide +kernel
theorem dX8_make_79 : decode cX8_make 79 = .ok (.iaload, 1) := by decide +kernel
theorem dX8_make_80 : decode cX8_make 80 = .ok (.iastore, 1) := by decide +kernel
theorem dX8_make_81 : decode cX8_make 81 = .ok (.aload_n 0, 1) := by decide +kernel
theorem dX8_make_82 : decode cX8_make 82 = .ok (.getfield 25, 3) := by decide +kernel
theorem dX8_make_85 : decode cX8_make 85 = .ok (.aload_n 0, 1) := by decide +kernel
theorem dX8_make_86 : decode cX8_make 86 = .ok (.getfield 12, 3) := by decide +kernel
theorem dX8_make_89 : decode cX8_make 89 = .ok (.getfield 63, 3) := by decide +kernel
theorem dX8_make_92 : decode cX8_make 92 = .ok (.iload 4, 2) := by decide +kernel
theorem dX8_make_94 : decode cX8_make 94 = .ok (.iaload, 1) := by decide +kernel
theorem dX8_make_95 : decode cX8_make 95 = .ok (.iconst 1, 1) := by decide +kernel
theorem dX8_make_96 : decode cX8_make 96 = .ok (.bastore, 1) := by decide +kernel
theorem dX8_make_97 : decode cX8_make 97 = .ok (.iinc 4 1, 3) := by decide +kernel
theorem dX8_make_100 : decode cX8_make 100 = .ok (.goto (-43), 3) := by decide +kernel
theorem dX8_make_103 : decode cX8_make 103 = .ok (.aload_n 0, 1) := by decide +kernel
theorem dX8_make_104 : decode cX8_make 104 = .ok (.aload_n 1, 1) := by decide +kernel
theorem dX8_make_105 : decode cX8_make 105 = .ok (.getfield 66, 3) := by decide +kernel
theorem dX8_make_108 : decode cX8_make 108 = .ok (.invokevirtual 70, 3) := by decide +kernel
theorem dX8_make_111 : decode cX8_make 111 = .ok (.aload_n 0, 1) := by decide +kernel
theorem dX8_make_112 : decode cX8_make 112 = .ok (.aload_n 1, 1) := by decide +kernel
theorem dX8_make_113 : decode cX8_make 113 = .ok (.invokevirtual 74, 3) := by decide +kernel
theorem dX8_make_116 : decode cX8_make 116 = .ok (.aload_n 0, 1) := by decide +kernel
theorem dX8_make_117 : decode cX8_make 117 = .ok (.aload_n 1, 1) := by decide +kernel
theorem dX8_make_118 : decode cX8_make 118 = .ok (.invokevirtual 78, 3) := by decide +kernel
theorem dX8_make_121 : decode cX8_make 121 = .ok (.return_, 1) := by decide +kernel
theorem dX8_forgetLast_0 : decode cX8_forgetLast 0 = .ok (.aload_n 0, 1) := by decide +kernel
theorem dX8_forgetLast_1 : decode cX8_forgetLast 1 = .ok (.getfield 12, 3) := by decide +kernel
theorem dX8_forgetLast_4 : decode cX8_forgetLast 4 = .ok (.invokevirtual 81, 3) := by decide +kernel
theorem dX8_forgetLast_7 : decode cX8_forgetLast 7 = .ok (.iconst 0, 1) := by decide +kernel
theorem dX8_forgetLast_8 : decode cX8_forgetLast 8 = .ok (.istore_n 1, 1) := by decide +kernel
theorem dX8_forgetLast_9 : decode cX8_forgetLast 9 = .ok (.iload_n 1, 1) := by decide +kernel
theorem dX8_forgetLast_10 : decode cX8_forgetLast 10 = .ok (.bipush 6, 2) := by decide +kernel
theorem dX8_forgetLast_12 : decode cX8_forgetLast 12 = .ok (.if_icmp .ge 19, 3) := by decide +kernel
theorem dX8_forgetLast_15 : decode cX8_forgetLast 15 = .ok (.aload_n 0, 1) := by decide +kernel
theorem dX8_forgetLast_16 : decode cX8_forgetLast 16 = .ok (.getfield 12, 3) := by decide +kernel
theorem dX8_forgetLast_19 : decode cX8_forgetLast 19 = .ok (.getfield 63, 3) := by decide +kernel
theorem dX8_forgetLast_22 : decode cX8_forgetLast 22 = .ok (.iload_n 1, 1) := by decide +kernel
theorem dX8_forgetLast_23 : decode cX8_forgetLast 23 = .ok (.iload_n 1, 1) := by decide +kernel
theorem dX8_forgetLast_24 : decode cX8_forgetLast 24 = .ok (.iastore, 1) := by decide +kernel
theorem dX8_forgetLast_25 : decode cX8_forgetLast 25 = .ok (.iinc 1 1, 3) := by decide +kernel
theorem dX8_forgetLast_28 : decode cX8_forgetLast 28 = .ok (.goto (-19), 3) := by decide +kernel
theorem dX8_forgetLast_31 : decode cX8_forgetLast 31 = .ok (.aload_n 0, 1) := by decide +kernel
theorem dX8_forgetLast_32 : decode cX8_forgetLast 32 = .ok (.iconst 0, 1) := by decide +kernel
theorem dX8_forgetLast_33 : decode cX8_forgetLast 33 = .ok (.putfield 84, 3) := by decide +kernel
theorem dX8_forgetLast_36 : decode cX8_forgetLast 36 = .ok (.iconst 0, 1) := by decide +kernel
theorem dX8_forgetLast_37 : decode cX8_forgetLast 37 = .ok (.istore_n 1, 1) := by decide +kernel
theorem dX8_forgetLast_38 : decode cX8_forgetLast 38 = .ok (.iload_n 1, 1) := by decide +kernel
theorem dX8_forgetLast_39 : decode cX8_forgetLast 39 = .ok (.bipush 36, 2) := by decide +kernel
theorem dX8_forgetLast_41 : decode cX8_forgetLast 41 = .ok (.if_icmp .ge 16, 3) := by decide +kernel
theorem dX8_forgetLast_44 : decode cX8_forgetLast 44 = .ok (.aload_n 0, 1) := by decide +kernel
theorem dX8_forgetLast_45 : decode cX8_forgetLast 45 = .ok (.getfield 25, 3) := by decide +kernel
theorem dX8_forgetLast_48 : decode cX8_forgetLast 48 = .ok (.iload_n 1, 1) := by decide +kernel
theorem dX8_forgetLast_49 : decode cX8_forgetLast 49 = .ok (.iconst 0, 1) := by decide +kernel
theorem dX8_forgetLast_50 : decode cX8_forgetLast 50 = .ok (.bastore, 1) := by decide +kernel
theorem dX8_forgetLast_51 : decode cX8_forgetLast 51 = .ok (.iinc 1 1, 3) := by decide +kernel
theorem dX8_forgetLast_54 : decode cX8_forgetLast 54 = .ok (.goto (-16), 3) := by decide +kernel
theorem dX8_forgetLast_57 : decode cX8_forgetLast 57 = .ok (.return_, 1) := by decide +kernel
theorem dX8_follow_0 : decode cX8_follow 0 = .ok (.aload 4, 2) := by decide +kernel
theorem dX8_follow_2 : decode cX8_follow 2 = .ok (.getfield 87, 3) := by decide +kernel
theorem dX8_follow_5 : decode cX8_follow 5 = .ok (.iload_n 2, 1) := by decide +kernel
theorem dX8_follow_6 : decode cX8_follow 6 = .ok (.iaload, 1) := by decide +kernel
theorem dX8_follow_7 : decode cX8_follow 7 = .ok (.istore 5, 2) := by decide +kernel
theorem dX8_follow_9 : decode cX8_follow 9 = .ok (.aload 4, 2) := by decide +kernel
theorem dX8_follow_11 : decode cX8_follow 11 = .ok (.getfield 92, 3) := by decide +kernel
theorem dX8_follow_14 : decode cX8_follow 14 = .ok (.iload_n 2, 1) := by decide +kernel
theorem dX8_follow_15 : decode cX8_follow 15 = .ok (.iaload, 1) := by decide +kernel
theorem dX8_follow_16 : decode cX8_follow 16 = .ok (.istore 6, 2) := by decide +kernel
theorem dX8_follow_18 : decode cX8_follow 18 = .ok (.iload 5, 2) := by decide +kernel
theorem dX8_follow_20 : decode cX8_follow 20 = .ok (.tableswitch 194 0 14 #[76, 194, 194, 97, 97, 97, 97, 97, 97, 194, 194, 194, 139, 194, 166], 76) := by decide +kernel
theorem dX8_follow_96 : decode cX8_follow 96 = .ok (.aload_n 0, 1) := by decide +kernel
theorem dX8_follow_97 : decode cX8_follow 97 = .ok (.getfield 12, 3) := by decide +kernel
theorem dX8_follow_100 : decode cX8_follow 100 = .ok (.aload_n 1, 1) := by decide +kernel
theorem dX8_follow_101 : decode cX8_follow 101 = .ok (.getfield 66, 3) := by decide +kernel
theorem dX8_follow_104 : decode cX8_follow 104 = .ok (.iconst 0, 1) := by decide +kernel
theorem dX8_follow_105 : decode cX8_follow 105 = .ok (.iload 6, 2) := by decide +kernel
theorem dX8_follow_107 : decode cX8_follow 107 = .ok (.iconst 0, 1) := by decide +kernel
theorem dX8_follow_108 : decode cX8_follow 108 = .ok (.invokevirtual 95, 3) := by decide +kernel
theorem dX8_follow_111 : decode cX8_follow 111 = .ok (.invokevirtual 101, 3) := by decide +kernel
theorem dX8_follow_114 : decode cX8_follow 114 = .ok (.goto 111, 3) := by decide +kernel
theorem dX8_follow_117 : decode cX8_follow 117 = .ok (.aload_n 0, 1) := by decide +kernel
theorem dX8_follow_118 : decode cX8_follow 118 = .ok (.getfield 12, 3) := by decide +kernel
theorem dX8_follow_121 : decode cX8_follow 121 = .ok (.invokevirtual 104, 3) := by decide +kernel
theorem dX8_follow_124 : decode cX8_follow 124 = .ok (.istore 7, 2) := by decide +kernel
theorem dX8_follow_126 : decode cX8_follow 126 = .ok (.aload_n 0, 1) := by decide +kernel
theorem dX8_follow_127 : decode cX8_follow 127 = .ok (.getfield 12, 3) := by decide +kernel
theorem dX8_follow_130 : decode cX8_follow 130 = .ok (.invokevirtual 104, 3) := by decide +kernel
theorem dX8_follow_133 : decode cX8_follow 133 = .ok (.istore 8, 2) := by decide +kernel
theorem dX8_follow_135 : decode cX8_follow 135 = .ok (.aload_n 0, 1) := by decide +kernel
theorem dX8_follow_136 : decode cX8_follow 136 = .ok (.getfield 12, 3) := by decide +kernel
theorem dX8_follow_139 : decode cX8_follow 139 = .ok (.aload_n 0, 1) := by decide +kernel
theorem dX8_follow_140 : decode cX8_follow 140 = .ok (.aload_n 1, 1) := by decide +kernel
theorem dX8_follow_141 : decode cX8_follow 141 = .ok (.getfield 66, 3) := by decide +kernel
theorem dX8_follow_144 : decode cX8_follow 144 = .ok (.iload 5, 2) := by decide +kernel
theorem dX8_follow_146 : decode cX8_follow 146 = .ok (.iload 8, 2) := by decide +kernel
theorem dX8_follow_148 : decode cX8_follow 148 = .ok (.iload 7, 2) := by decide +kernel
theorem dX8_follow_150 : decode cX8_follow 150 = .ok (.invokevirtual 108, 3) := by decide +kernel
theorem dX8_follow_153 : decode cX8_follow 153 = .ok (.invokevirtual 101, 3) := by decide +kernel
theorem dX8_follow_156 : decode cX8_follow 156 = .ok (.goto 69, 3) := by decide +kernel
theorem dX8_follow_159 : decode cX8_follow 159 = .ok (.aload_n 0, 1) := by decide +kernel
theorem dX8_follow_160 : decode cX8_follow 160 = .ok (.getfield 12, 3) := by decide +kernel
theorem dX8_follow_163 : decode cX8_follow 163 = .ok (.invokevirtual 104, 3) := by decide +kernel
theorem dX8_follow_166 : decode cX8_follow 166 = .ok (.istore 9, 2) := by decide +kernel
theorem dX8_follow_168 : decode cX8_follow 168 = .ok (.aload_n 0, 1) := by decide +kernel
theorem dX8_follow_169 : decode cX8_follow 169 = .ok (.getfield 25, 3) := by decide +kernel
theorem dX8_follow_172 : decode cX8_follow 172 = .ok (.iload 9, 2) := by decide +kernel
theorem dX8_follow_174 : decode cX8_follow 174 = .ok (.iconst 1, 1) := by decide +kernel
theorem dX8_follow_175 : decode cX8_follow 175 = .ok (.bastore, 1) := by decide +kernel
theorem dX8_follow_176 : decode cX8_follow 176 = .ok (.aload_n 0, 1) := by decide +kernel
theorem dX8_follow_177 : decode cX8_follow 177 = .ok (.iconst 2, 1) := by decide +kernel
theorem dX8_follow_178 : decode cX8_follow 178 = .ok (.iload 9, 2) := by decide +kernel
theorem dX8_follow_180 : decode cX8_follow 180 = .ok (.invokevirtual 112, 3) := by decide +kernel
theorem dX8_follow_183 : decode cX8_follow 183 = .ok (.goto 42, 3) := by decide +kernel
theorem dX8_follow_186 : decode cX8_follow 186 = .ok (.aload_n 0, 1) := by decide +kernel
theorem dX8_follow_187 : decode cX8_follow 187 = .ok (.aload_n 1, 1) := by decide +kernel
theorem dX8_follow_188 : decode cX8_follow 188 = .ok (.aload_n 0, 1) := by decide +kernel
theorem dX8_follow_189 : decode cX8_follow 189 = .ok (.getfield 12, 3) := by decide +kernel
theorem dX8_follow_192 : decode cX8_follow 192 = .ok (.invokevirtual 104, 3) := by decide +kernel
theorem dX8_follow_195 : decode cX8_follow 195 = .ok (.iload_n 3, 1) := by decide +kernel
theorem dX8_follow_196 : decode cX8_follow 196 = .ok (.iload_n 3, 1) := by decide +kernel
theorem dX8_follow_197 : decode cX8_follow 197 = .ok (.ifCond .eq 9, 3) := by decide +kernel
theorem dX8_follow_200 : decode cX8_follow 200 = .ok (.iload_n 2, 1) := by decide +kernel
theorem dX8_follow_201 : decode cX8_follow 201 = .ok (.iconst 1, 1) := by decide +kernel
theorem dX8_follow_202 : decode cX8_follow 202 = .ok (.iadd, 1) := by decide +kernel
theorem dX8_follow_203 : decode cX8_follow 203 = .ok (.goto 5, 3) := by decide +kernel
theorem dX8_follow_206 : decode cX8_follow 206 = .ok (.iload 6, 2) := by decide +kernel
theorem dX8_follow_208 : decode cX8_follow 208 = .ok (.invokevirtual 116, 3) := by decide +kernel
theorem dX8_follow_211 : decode cX8_follow 211 = .ok (.goto 14, 3) := by decide +kernel
theorem dX8_follow_214 : decode cX8_follow 214 = .ok (.aload_n 0, 1) := by decide +kernel
theorem dX8_follow_215 : decode cX8_follow 215 = .ok (.getfield 12, 3) := by decide +kernel
theorem dX8_follow_218 : decode cX8_follow 218 = .ok (.iload 5, 2) := by decide +kernel
theorem dX8_follow_220 : decode cX8_follow 220 = .ok (.iload 6, 2) := by decide +kernel
theorem dX8_follow_222 : decode cX8_follow 222 = .ok (.invokevirtual 120, 3) := by decide +kernel
theorem dX8_follow_225 : decode cX8_follow 225 = .ok (.return_, 1) := by decide +kernel
theorem dX8_combine_0 : decode cX8_combine 0 = .ok (.aload_n 1, 1) := by decide +kernel
theorem dX8_combine_1 : decode cX8_combine 1 = .ok (.iload_n 3, 1) := by decide +kernel
theorem dX8_combine_2 : decode cX8_combine 2 = .ok (.invokevirtual 123, 3) := by decide +kernel
theorem dX8_combine_5 : decode cX8_combine 5 = .ok (.ifCond .eq 40, 3) := by decide +kernel
theorem dX8_combine_8 : decode cX8_combine 8 = .ok (.aload_n 1, 1) := by decide +kernel
theorem dX8_combine_9 : decode cX8_combine 9 = .ok (.iload 4, 2) := by decide +kernel
theorem dX8_combine_11 : decode cX8_combine 11 = .ok (.invokevirtual 123, 3) := by decide +kernel
theorem dX8_combine_14 : decode cX8_combine 14 = .ok (.ifCond .eq 31, 3) := by decide +kernel
theorem dX8_combine_17 : decode cX8_combine 17 = .ok (.iload_n 2, 1) := by decide +kernel
theorem dX8_combine_18 : decode cX8_combine 18 = .ok (.aload_n 1, 1) := by decide +kernel
theorem dX8_combine_19 : decode cX8_combine 19 = .ok (.getfield 127, 3) := by decide +kernel
theorem dX8_combine_22 : decode cX8_combine 22 = .ok (.iload_n 3, 1) := by decide +kernel
theorem dX8_combine_23 : decode cX8_combine 23 = .ok (.iaload, 1) := by decide +kernel
theorem dX8_combine_24 : decode cX8_combine 24 = .ok (.aload_n 1, 1) := by decide +kernel
theorem dX8_combine_25 : decode cX8_combine 25 = .ok (.getfield 127, 3) := by decide +kernel
theorem dX8_combine_28 : decode cX8_combine 28 = .ok (.iload 4, 2) := by decide +kernel
theorem dX8_combine_30 : decode cX8_combine 30 = .ok (.iaload, 1) := by decide +kernel
theorem dX8_combine_31 : decode cX8_combine 31 = .ok (.invokestatic 130, 3) := by decide +kernel
theorem dX8_combine_34 : decode cX8_combine 34 = .ok (.istore 5, 2) := by decide +kernel
theorem dX8_combine_36 : decode cX8_combine 36 = .ok (.aload_n 1, 1) := by decide +kernel
theorem dX8_combine_37 : decode cX8_combine 37 = .ok (.iconst 0, 1) := by decide +kernel
theorem dX8_combine_38 : decode cX8_combine 38 = .ok (.iload 5, 2) := by decide +kernel
theorem dX8_combine_40 : decode cX8_combine 40 = .ok (.iconst 0, 1) := by decide +kernel
theorem dX8_combine_41 : decode cX8_combine 41 = .ok (.invokevirtual 95, 3) := by decide +kernel
theorem dX8_combine_44 : decode cX8_combine 44 = .ok (.ireturn, 1) := by decide +kernel
theorem dX8_combine_45 : decode cX8_combine 45 = .ok (.aload_n 1, 1) := by decide +kernel
theorem dX8_combine_46 : decode cX8_combine 46 = .ok (.getfield 133, 3) := by decide +kernel
theorem dX8_combine_49 : decode cX8_combine 49 = .ok (.istore 5, 2) := by decide +kernel
theorem dX8_combine_51 : decode cX8_combine 51 = .ok (.aload_n 1, 1) := by decide +kernel
theorem dX8_combine_52 : decode cX8_combine 52 = .ok (.iload_n 2, 1) := by decide +kernel
theorem dX8_combine_53 : decode cX8_combine 53 = .ok (.iload_n 3, 1) := by decide +kernel
theorem dX8_combine_54 : decode cX8_combine 54 = .ok (.iload 4, 2) := by decide +kernel
theorem dX8_combine_56 : decode cX8_combine 56 = .ok (.invokevirtual 95, 3) := by decide +kernel
theorem dX8_combine_59 : decode cX8_combine 59 = .ok (.istore 6, 2) := by decide +kernel
theorem dX8_combine_61 : decode cX8_combine 61 = .ok (.aload_n 1, 1) := by decide +kernel
theorem dX8_combine_62 : decode cX8_combine 62 = .ok (.getfield 133, 3) := by decide +kernel
theorem dX8_combine_65 : decode cX8_combine 65 = .ok (.iload 5, 2) := by decide +kernel
theorem dX8_combine_67 : decode cX8_combine 67 = .ok (.if_icmp .le 10, 3) := by decide +kernel
theorem dX8_combine_70 : decode cX8_combine 70 = .ok (.aload_n 0, 1) := by decide +kernel
theorem dX8_combine_71 : decode cX8_combine 71 = .ok (.iconst 0, 1) := by decide +kernel
theorem dX8_combine_72 : decode cX8_combine 72 = .ok (.iload 6, 2) := by decide +kernel
theorem dX8_combine_74 : decode cX8_combine 74 = .ok (.invokevirtual 112, 3) := by decide +kernel
theorem dX8_combine_77 : decode cX8_combine 77 = .ok (.iload 6, 2) := by decide +kernel
theorem dX8_combine_79 : decode cX8_combine 79 = .ok (.ireturn, 1) := by decide +kernel
theorem dX8_guard_0 : decode cX8_guard 0 = .ok (.aload_n 1, 1) := by decide +kernel
theorem dX8_guard_1 : decode cX8_guard 1 = .ok (.getfield 66, 3) := by decide +kernel
theorem dX8_guard_4 : decode cX8_guard 4 = .ok (.iload_n 2, 1) := by decide +kernel
theorem dX8_guard_5 : decode cX8_guard 5 = .ok (.invokevirtual 123, 3) := by decide +kernel
theorem dX8_guard_8 : decode cX8_guard 8 = .ok (.ifCond .ne 15, 3) := by decide +kernel
theorem dX8_guard_11 : decode cX8_guard 11 = .ok (.aload_n 1, 1) := by decide +kernel
theorem dX8_guard_12 : decode cX8_guard 12 = .ok (.getfield 136, 3) := by decide +kernel
theorem dX8_guard_15 : decode cX8_guard 15 = .ok (.iload_n 2, 1) := by decide +kernel
theorem dX8_guard_16 : decode cX8_guard 16 = .ok (.iload_n 3, 1) := by decide +kernel
theorem dX8_guard_17 : decode cX8_guard 17 = .ok (.invokevirtual 140, 3) := by decide +kernel
theorem dX8_guard_20 : decode cX8_guard 20 = .ok (.ifCond .eq 4, 3) := by decide +kernel
theorem dX8_guard_23 : decode cX8_guard 23 = .ok (.return_, 1) := by decide +kernel
theorem dX8_guard_24 : decode cX8_guard 24 = .ok (.aload_n 0, 1) := by decide +kernel
theorem dX8_guard_25 : decode cX8_guard 25 = .ok (.iconst 1, 1) := by decide +kernel
theorem dX8_guard_26 : decode cX8_guard 26 = .ok (.aload_n 1, 1) := by decide +kernel
theorem dX8_guard_27 : decode cX8_guard 27 = .ok (.getfield 136, 3) := by decide +kernel
theorem dX8_guard_30 : decode cX8_guard 30 = .ok (.iload_n 2, 1) := by decide +kernel
theorem dX8_guard_31 : decode cX8_guard 31 = .ok (.iload_n 3, 1) := by decide +kernel
theorem dX8_guard_32 : decode cX8_guard 32 = .ok (.iload 4, 2) := by decide +kernel
theorem dX8_guard_34 : decode cX8_guard 34 = .ok (.aload_n 0, 1) := by decide +kernel
theorem dX8_guard_35 : decode cX8_guard 35 = .ok (.getfield 12, 3) := by decide +kernel
theorem dX8_guard_38 : decode cX8_guard 38 = .ok (.invokevirtual 146, 3) := by decide +kernel
theorem dX8_guard_41 : decode cX8_guard 41 = .ok (.invokevirtual 112, 3) := by decide +kernel
theorem dX8_guard_44 : decode cX8_guard 44 = .ok (.aload_n 0, 1) := by decide +kernel
theorem dX8_guard_45 : decode cX8_guard 45 = .ok (.getfield 25, 3) := by decide +kernel
theorem dX8_guard_48 : decode cX8_guard 48 = .ok (.iload_n 2, 1) := by decide +kernel
theorem dX8_guard_49 : decode cX8_guard 49 = .ok (.iconst 1, 1) := by decide +kernel
theorem dX8_guard_50 : decode cX8_guard 50 = .ok (.bastore, 1) := by decide +kernel
theorem dX8_guard_51 : decode cX8_guard 51 = .ok (.iconst 0, 1) := by decide +kernel
theorem dX8_guard_52 : decode cX8_guard 52 = .ok (.istore 5, 2) := by decide +kernel
theorem dX8_guard_54 : decode cX8_guard 54 = .ok (.iload 5, 2) := by decide +kernel
theorem dX8_guard_56 : decode cX8_guard 56 = .ok (.bipush 6, 2) := by decide +kernel
theorem dX8_guard_58 : decode cX8_guard 58 = .ok (.if_icmp .ge 25, 3) := by decide +kernel
theorem dX8_guard_61 : decode cX8_guard 61 = .ok (.aload_n 0, 1) := by decide +kernel
theorem dX8_guard_62 : decode cX8_guard 62 = .ok (.getfield 25, 3) := by decide +kernel
theorem dX8_guard_65 : decode cX8_guard 65 = .ok (.aload_n 0, 1) := by decide +kernel
theorem dX8_guard_66 : decode cX8_guard 66 = .ok (.getfield 12, 3) := by decide +kernel
theorem dX8_guard_69 : decode cX8_guard 69 = .ok (.getfield 63, 3) := by decide +kernel
theorem dX8_guard_72 : decode cX8_guard 72 = .ok (.iload 5, 2) := by decide +kernel
theorem dX8_guard_74 : decode cX8_guard 74 = .ok (.iaload, 1) := by decide +kernel
theorem dX8_guard_75 : decode cX8_guard 75 = .ok (.iconst 1, 1) := by decide +kernel
theorem dX8_guard_76 : decode cX8_guard 76 = .ok (.bastore, 1) := by decide +kernel
theorem dX8_guard_77 : decode cX8_guard 77 = .ok (.iinc 5 1, 3) := by decide +kernel
theorem dX8_guard_80 : decode cX8_guard 80 = .ok (.goto (-26), 3) := by decide +kernel
theorem dX8_guard_83 : decode cX8_guard 83 = .ok (.iconst 0, 1) := by decide +kernel
theorem dX8_guard_84 : decode cX8_guard 84 = .ok (.istore 5, 2) := by decide +kernel
theorem dX8_guard_86 : decode cX8_guard 86 = .ok (.iload 5, 2) := by decide +kernel
theorem dX8_guard_88 : decode cX8_guard 88 = .ok (.aload_n 0, 1) := by decide +kernel
theorem dX8_guard_89 : decode cX8_guard 89 = .ok (.getfield 12, 3) := by decide +kernel
theorem dX8_guard_92 : decode cX8_guard 92 = .ok (.getfield 150, 3) := by decide +kernel
theorem dX8_guard_95 : decode cX8_guard 95 = .ok (.if_icmp .ge 25, 3) := by decide +kernel
theorem dX8_guard_98 : decode cX8_guard 98 = .ok (.aload_n 0, 1) := by decide +kernel
theorem dX8_guard_99 : decode cX8_guard 99 = .ok (.getfield 25, 3) := by decide +kernel
theorem dX8_guard_102 : decode cX8_guard 102 = .ok (.aload_n 0, 1) := by decide +kernel
theorem dX8_guard_103 : decode cX8_guard 103 = .ok (.getfield 12, 3) := by decide +kernel
theorem dX8_guard_106 : decode cX8_guard 106 = .ok (.getfield 153, 3) := by decide +kernel
theorem dX8_guard_109 : decode cX8_guard 109 = .ok (.iload 5, 2) := by decide +kernel
theorem dX8_guard_111 : decode cX8_guard 111 = .ok (.iaload, 1) := by decide +kernel
theorem dX8_guard_112 : decode cX8_guard 112 = .ok (.iconst 1, 1) := by decide +kernel
theorem dX8_guard_113 : decode cX8_guard 113 = .ok (.bastore, 1) := by decide +kernel
theorem dX8_guard_114 : decode cX8_guard 114 = .ok (.iinc 5 1, 3) := by decide +kernel
theorem dX8_guard_117 : decode cX8_guard 117 = .ok (.goto (-31), 3) := by decide +kernel
theorem dX8_guard_120 : decode cX8_guard 120 = .ok (.return_, 1) := by decide +kernel
theorem dX8_came_0 : decode cX8_came 0 = .ok (.aload_n 0, 1) := by decide +kernel
theorem dX8_came_1 : decode cX8_came 1 = .ok (.getfield 18, 3) := by decide +kernel
theorem dX8_came_4 : decode cX8_came 4 = .ok (.aload_n 0, 1) := by decide +kernel
theorem dX8_came_5 : decode cX8_came 5 = .ok (.getfield 84, 3) := by decide +kernel
theorem dX8_came_8 : decode cX8_came 8 = .ok (.iload_n 1, 1) := by decide +kernel
theorem dX8_came_9 : decode cX8_came 9 = .ok (.iastore, 1) := by decide +kernel
theorem dX8_came_10 : decode cX8_came 10 = .ok (.aload_n 0, 1) := by decide +kernel
theorem dX8_came_11 : decode cX8_came 11 = .ok (.getfield 22, 3) := by decide +kernel
theorem dX8_came_14 : decode cX8_came 14 = .ok (.aload_n 0, 1) := by decide +kernel
theorem dX8_came_15 : decode cX8_came 15 = .ok (.getfield 84, 3) := by decide +kernel
theorem dX8_came_18 : decode cX8_came 18 = .ok (.iload_n 2, 1) := by decide +kernel
theorem dX8_came_19 : decode cX8_came 19 = .ok (.iastore, 1) := by decide +kernel
theorem dX8_came_20 : decode cX8_came 20 = .ok (.aload_n 0, 1) := by decide +kernel
theorem dX8_came_21 : decode cX8_came 21 = .ok (.dup, 1) := by decide +kernel
theorem dX8_came_22 : decode cX8_came 22 = .ok (.getfield 84, 3) := by decide +kernel
theorem dX8_came_25 : decode cX8_came 25 = .ok (.iconst 1, 1) := by decide +kernel
theorem dX8_came_26 : decode cX8_came 26 = .ok (.iadd, 1) := by decide +kernel
theorem dX8_came_27 : decode cX8_came 27 = .ok (.putfield 84, 3) := by decide +kernel
theorem dX8_came_30 : decode cX8_came 30 = .ok (.return_, 1) := by decide +kernel
theorem dX8_markParts_0 : decode cX8_markParts 0 = .ok (.aload_n 1, 1) := by decide +kernel
theorem dX8_markParts_1 : decode cX8_markParts 1 = .ok (.getfield 133, 3) := by decide +kernel
theorem dX8_markParts_4 : decode cX8_markParts 4 = .ok (.iconst 1, 1) := by decide +kernel
theorem dX8_markParts_5 : decode cX8_markParts 5 = .ok (.isub, 1) := by decide +kernel
theorem dX8_markParts_6 : decode cX8_markParts 6 = .ok (.istore_n 2, 1) := by decide +kernel
theorem dX8_markParts_7 : decode cX8_markParts 7 = .ok (.iload_n 2, 1) := by decide +kernel
theorem dX8_markParts_8 : decode cX8_markParts 8 = .ok (.ifCond .lt 50, 3) := by decide +kernel
theorem dX8_markParts_11 : decode cX8_markParts 11 = .ok (.aload_n 0, 1) := by decide +kernel
theorem dX8_markParts_12 : decode cX8_markParts 12 = .ok (.getfield 25, 3) := by decide +kernel
theorem dX8_markParts_15 : decode cX8_markParts 15 = .ok (.iload_n 2, 1) := by decide +kernel
theorem dX8_markParts_16 : decode cX8_markParts 16 = .ok (.baload, 1) := by decide +kernel
theorem dX8_markParts_17 : decode cX8_markParts 17 = .ok (.ifCond .eq 35, 3) := by decide +kernel
theorem dX8_markParts_20 : decode cX8_markParts 20 = .ok (.aload_n 1, 1) := by decide +kernel
theorem dX8_markParts_21 : decode cX8_markParts 21 = .ok (.iload_n 2, 1) := by decide +kernel
theorem dX8_markParts_22 : decode cX8_markParts 22 = .ok (.invokevirtual 156, 3) := by decide +kernel
theorem dX8_markParts_25 : decode cX8_markParts 25 = .ok (.ifCond .eq 27, 3) := by decide +kernel
theorem dX8_markParts_28 : decode cX8_markParts 28 = .ok (.aload_n 0, 1) := by decide +kernel
theorem dX8_markParts_29 : decode cX8_markParts 29 = .ok (.getfield 25, 3) := by decide +kernel
theorem dX8_markParts_32 : decode cX8_markParts 32 = .ok (.aload_n 1, 1) := by decide +kernel
theorem dX8_markParts_33 : decode cX8_markParts 33 = .ok (.getfield 127, 3) := by decide +kernel
theorem dX8_markParts_36 : decode cX8_markParts 36 = .ok (.iload_n 2, 1) := by decide +kernel
theorem dX8_markParts_37 : decode cX8_markParts 37 = .ok (.iaload, 1) := by decide +kernel
theorem dX8_markParts_38 : decode cX8_markParts 38 = .ok (.iconst 1, 1) := by decide +kernel
theorem dX8_markParts_39 : decode cX8_markParts 39 = .ok (.bastore, 1) := by decide +kernel
theorem dX8_markParts_40 : decode cX8_markParts 40 = .ok (.aload_n 0, 1) := by decide +kernel
theorem dX8_markParts_41 : decode cX8_markParts 41 = .ok (.getfield 25, 3) := by decide +kernel
theorem dX8_markParts_44 : decode cX8_markParts 44 = .ok (.aload_n 1, 1) := by decide +kernel
theorem dX8_markParts_45 : decode cX8_markParts 45 = .ok (.getfield 159, 3) := by decide +kernel
theorem dX8_markParts_48 : decode cX8_markParts 48 = .ok (.iload_n 2, 1) := by decide +kernel
theorem dX8_markParts_49 : decode cX8_markParts 49 = .ok (.iaload, 1) := by decide +kernel
theorem dX8_markParts_50 : decode cX8_markParts 50 = .ok (.iconst 1, 1) := by decide +kernel
theorem dX8_markParts_51 : decode cX8_markParts 51 = .ok (.bastore, 1) := by decide +kernel
theorem dX8_markParts_52 : decode cX8_markParts 52 = .ok (.iinc 2 (-1), 3) := by decide +kernel
theorem dX8_markParts_55 : decode cX8_markParts 55 = .ok (.goto (-48), 3) := by decide +kernel
theorem dX8_markParts_58 : decode cX8_markParts 58 = .ok (.return_, 1) := by decide +kernel
theorem dX8_markConstant_0 : decode cX8_markConstant 0 = .ok (.aload_n 1, 1) := by decide +kernel
theorem dX8_markConstant_1 : decode cX8_markConstant 1 = .ok (.getfield 66, 3) := by decide +kernel
theorem dX8_markConstant_4 : decode cX8_markConstant 4 = .ok (.astore_n 2, 1) := by decide +kernel
theorem dX8_markConstant_5 : decode cX8_markConstant 5 = .ok (.iconst 0, 1) := by decide +kernel
theorem dX8_markConstant_6 : decode cX8_markConstant 6 = .ok (.istore_n 3, 1) := by decide +kernel
theorem dX8_markConstant_7 : decode cX8_markConstant 7 = .ok (.iload_n 3, 1) := by decide +kernel
theorem dX8_markConstant_8 : decode cX8_markConstant 8 = .ok (.aload_n 2, 1) := by decide +kernel
theorem dX8_markConstant_9 : decode cX8_markConstant 9 = .ok (.getfield 133, 3) := by decide +kernel
theorem dX8_markConstant_12 : decode cX8_markConstant 12 = .ok (.if_icmp .ge 86, 3) := by decide +kernel
theorem dX8_markConstant_15 : decode cX8_markConstant 15 = .ok (.aload_n 2, 1) := by decide +kernel
theorem dX8_markConstant_16 : decode cX8_markConstant 16 = .ok (.iload_n 3, 1) := by decide +kernel
theorem dX8_markConstant_17 : decode cX8_markConstant 17 = .ok (.invokevirtual 156, 3) := by decide +kernel
theorem dX8_markConstant_20 : decode cX8_markConstant 20 = .ok (.ifCond .eq 45, 3) := by decide +kernel
theorem dX8_markConstant_23 : decode cX8_markConstant 23 = .ok (.aload_n 0, 1) := by decide +kernel
theorem dX8_markConstant_24 : decode cX8_markConstant 24 = .ok (.getfield 29, 3) := by decide +kernel
theorem dX8_markConstant_27 : decode cX8_markConstant 27 = .ok (.iload_n 3, 1) := by decide +kernel
theorem dX8_markConstant_28 : decode cX8_markConstant 28 = .ok (.aload_n 0, 1) := by decide +kernel
theorem dX8_markConstant_29 : decode cX8_markConstant 29 = .ok (.getfield 29, 3) := by decide +kernel
theorem dX8_markConstant_32 : decode cX8_markConstant 32 = .ok (.aload_n 2, 1) := by decide +kernel
theorem dX8_markConstant_33 : decode cX8_markConstant 33 = .ok (.getfield 127, 3) := by decide +kernel
theorem dX8_markConstant_36 : decode cX8_markConstant 36 = .ok (.iload_n 3, 1) := by decide +kernel
theorem dX8_markConstant_37 : decode cX8_markConstant 37 = .ok (.iaload, 1) := by decide +kernel
theorem dX8_markConstant_38 : decode cX8_markConstant 38 = .ok (.baload, 1) := by decide +kernel
theorem dX8_markConstant_39 : decode cX8_markConstant 39 = .ok (.ifCond .eq 21, 3) := by decide +kernel
theorem dX8_markConstant_42 : decode cX8_markConstant 42 = .ok (.aload_n 0, 1) := by decide +kernel
theorem dX8_markConstant_43 : decode cX8_markConstant 43 = .ok (.getfield 29, 3) := by decide +kernel
theorem dX8_markConstant_46 : decode cX8_markConstant 46 = .ok (.aload_n 2, 1) := by decide +kernel
theorem dX8_markConstant_47 : decode cX8_markConstant 47 = .ok (.getfield 159, 3) := by decide +kernel
theorem dX8_markConstant_50 : decode cX8_markConstant 50 = .ok (.iload_n 3, 1) := by decide +kernel
theorem dX8_markConstant_51 : decode cX8_markConstant 51 = .ok (.iaload, 1) := by decide +kernel
theorem dX8_markConstant_52 : decode cX8_markConstant 52 = .ok (.baload, 1) := by decide +kernel
theorem dX8_markConstant_53 : decode cX8_markConstant 53 = .ok (.ifCond .eq 7, 3) := by decide +kernel
theorem dX8_markConstant_56 : decode cX8_markConstant 56 = .ok (.iconst 1, 1) := by decide +kernel
theorem dX8_markConstant_57 : decode cX8_markConstant 57 = .ok (.goto 4, 3) := by decide +kernel
theorem dX8_markConstant_60 : decode cX8_markConstant 60 = .ok (.iconst 0, 1) := by decide +kernel
theorem dX8_markConstant_61 : decode cX8_markConstant 61 = .ok (.bastore, 1) := by decide +kernel
theorem dX8_markConstant_62 : decode cX8_markConstant 62 = .ok (.goto 30, 3) := by decide +kernel
theorem dX8_markConstant_65 : decode cX8_markConstant 65 = .ok (.aload_n 0, 1) := by decide +kernel
theorem dX8_markConstant_66 : decode cX8_markConstant 66 = .ok (.getfield 29, 3) := by decide +kernel
theorem dX8_markConstant_69 : decode cX8_markConstant 69 = .ok (.iload_n 3, 1) := by decide +kernel
theorem dX8_markConstant_70 : decode cX8_markConstant 70 = .ok (.aload_n 2, 1) := by decide +kernel
theorem dX8_markConstant_71 : decode cX8_markConstant 71 = .ok (.iload_n 3, 1) := by decide +kernel
theorem dX8_markConstant_72 : decode cX8_markConstant 72 = .ok (.invokevirtual 123, 3) := by decide +kernel
theorem dX8_markConstant_75 : decode cX8_markConstant 75 = .ok (.ifCond .ne 11, 3) := by decide +kernel
theorem dX8_markConstant_78 : decode cX8_markConstant 78 = .ok (.aload_n 1, 1) := by decide +kernel
theorem dX8_markConstant_79 : decode cX8_markConstant 79 = .ok (.iload_n 3, 1) := by decide +kernel
theorem dX8_markConstant_80 : decode cX8_markConstant 80 = .ok (.invokevirtual 162, 3) := by decide +kernel
theorem dX8_markConstant_83 : decode cX8_markConstant 83 = .ok (.ifCond .eq 7, 3) := by decide +kernel
theorem dX8_markConstant_86 : decode cX8_markConstant 86 = .ok (.iconst 1, 1) := by decide +kernel
theorem dX8_markConstant_87 : decode cX8_markConstant 87 = .ok (.goto 4, 3) := by decide +kernel
theorem dX8_markConstant_90 : decode cX8_markConstant 90 = .ok (.iconst 0, 1) := by decide +kernel
theorem dX8_markConstant_91 : decode cX8_markConstant 91 = .ok (.bastore, 1) := by decide +kernel
theorem dX8_markConstant_92 : decode cX8_markConstant 92 = .ok (.iinc 3 1, 3) := by decide +kernel
theorem dX8_markConstant_95 : decode cX8_markConstant 95 = .ok (.goto (-88), 3) := by decide +kernel
theorem dX8_markConstant_98 : decode cX8_markConstant 98 = .ok (.return_, 1) := by decide +kernel
theorem dX8_sortOut_0 : decode cX8_sortOut 0 = .ok (.iconst 0, 1) := by decide +kernel
theorem dX8_sortOut_1 : decode cX8_sortOut 1 = .ok (.istore_n 2, 1) := by decide +kernel
theorem dX8_sortOut_2 : decode cX8_sortOut 2 = .ok (.iload_n 2, 1) := by decide +kernel
theorem dX8_sortOut_3 : decode cX8_sortOut 3 = .ok (.aload_n 0, 1) := by decide +kernel
theorem dX8_sortOut_4 : decode cX8_sortOut 4 = .ok (.getfield 84, 3) := by decide +kernel
theorem dX8_sortOut_7 : decode cX8_sortOut 7 = .ok (.if_icmp .ge 84, 3) := by decide +kernel
theorem dX8_sortOut_10 : decode cX8_sortOut 10 = .ok (.aload_n 0, 1) := by decide +kernel
theorem dX8_sortOut_11 : decode cX8_sortOut 11 = .ok (.getfield 18, 3) := by decide +kernel
theorem dX8_sortOut_14 : decode cX8_sortOut 14 = .ok (.iload_n 2, 1) := by decide +kernel
theorem dX8_sortOut_15 : decode cX8_sortOut 15 = .ok (.iaload, 1) := by decide +kernel
theorem dX8_sortOut_16 : decode cX8_sortOut 16 = .ok (.istore_n 3, 1) := by decide +kernel
theorem dX8_sortOut_17 : decode cX8_sortOut 17 = .ok (.aload_n 0, 1) := by decide +kernel
theorem dX8_sortOut_18 : decode cX8_sortOut 18 = .ok (.getfield 22, 3) := by decide +kernel
theorem dX8_sortOut_21 : decode cX8_sortOut 21 = .ok (.iload_n 2, 1) := by decide +kernel
theorem dX8_sortOut_22 : decode cX8_sortOut 22 = .ok (.iaload, 1) := by decide +kernel
theorem dX8_sortOut_23 : decode cX8_sortOut 23 = .ok (.istore 4, 2) := by decide +kernel
theorem dX8_sortOut_25 : decode cX8_sortOut 25 = .ok (.iload_n 3, 1) := by decide +kernel
theorem dX8_sortOut_26 : decode cX8_sortOut 26 = .ok (.ifCond .eq 13, 3) := by decide +kernel
theorem dX8_sortOut_29 : decode cX8_sortOut 29 = .ok (.aload_n 1, 1) := by decide +kernel
theorem dX8_sortOut_30 : decode cX8_sortOut 30 = .ok (.iload_n 3, 1) := by decide +kernel
theorem dX8_sortOut_31 : decode cX8_sortOut 31 = .ok (.iload 4, 2) := by decide +kernel
theorem dX8_sortOut_33 : decode cX8_sortOut 33 = .ok (.invokevirtual 165, 3) := by decide +kernel
theorem dX8_sortOut_36 : decode cX8_sortOut 36 = .ok (.goto 49, 3) := by decide +kernel
theorem dX8_sortOut_39 : decode cX8_sortOut 39 = .ok (.aload_n 0, 1) := by decide +kernel
theorem dX8_sortOut_40 : decode cX8_sortOut 40 = .ok (.getfield 25, 3) := by decide +kernel
theorem dX8_sortOut_43 : decode cX8_sortOut 43 = .ok (.iload 4, 2) := by decide +kernel
theorem dX8_sortOut_45 : decode cX8_sortOut 45 = .ok (.baload, 1) := by decide +kernel
theorem dX8_sortOut_46 : decode cX8_sortOut 46 = .ok (.ifCond .eq 22, 3) := by decide +kernel
theorem dX8_sortOut_49 : decode cX8_sortOut 49 = .ok (.aload_n 0, 1) := by decide +kernel
theorem dX8_sortOut_50 : decode cX8_sortOut 50 = .ok (.getfield 29, 3) := by decide +kernel
theorem dX8_sortOut_53 : decode cX8_sortOut 53 = .ok (.iload 4, 2) := by decide +kernel
theorem dX8_sortOut_55 : decode cX8_sortOut 55 = .ok (.baload, 1) := by decide +kernel
theorem dX8_sortOut_56 : decode cX8_sortOut 56 = .ok (.ifCond .eq 12, 3) := by decide +kernel
theorem dX8_sortOut_59 : decode cX8_sortOut 59 = .ok (.aload_n 1, 1) := by decide +kernel
theorem dX8_sortOut_60 : decode cX8_sortOut 60 = .ok (.iload 4, 2) := by decide +kernel
theorem dX8_sortOut_62 : decode cX8_sortOut 62 = .ok (.invokevirtual 168, 3) := by decide +kernel
theorem dX8_sortOut_65 : decode cX8_sortOut 65 = .ok (.goto 20, 3) := by decide +kernel
theorem dX8_sortOut_68 : decode cX8_sortOut 68 = .ok (.aload_n 0, 1) := by decide +kernel
theorem dX8_sortOut_69 : decode cX8_sortOut 69 = .ok (.getfield 25, 3) := by decide +kernel
theorem dX8_sortOut_72 : decode cX8_sortOut 72 = .ok (.iload 4, 2) := by decide +kernel
theorem dX8_sortOut_74 : decode cX8_sortOut 74 = .ok (.baload, 1) := by decide +kernel
theorem dX8_sortOut_75 : decode cX8_sortOut 75 = .ok (.ifCond .eq 10, 3) := by decide +kernel
theorem dX8_sortOut_78 : decode cX8_sortOut 78 = .ok (.aload_n 1, 1) := by decide +kernel
theorem dX8_sortOut_79 : decode cX8_sortOut 79 = .ok (.iload_n 3, 1) := by decide +kernel
theorem dX8_sortOut_80 : decode cX8_sortOut 80 = .ok (.iload 4, 2) := by decide +kernel
theorem dX8_sortOut_82 : decode cX8_sortOut 82 = .ok (.invokevirtual 165, 3) := by decide +kernel
theorem dX8_sortOut_85 : decode cX8_sortOut 85 = .ok (.iinc 2 1, 3) := by decide +kernel
theorem dX8_sortOut_88 : decode cX8_sortOut 88 = .ok (.goto (-86), 3) := by decide +kernel
theorem dX8_sortOut_91 : decode cX8_sortOut 91 = .ok (.return_, 1) := by decide +kernel
theorem dX9_init_0 : decode cX9_init 0 = .ok (.aload_n 0, 1) := by decide +kernel
theorem dX9_init_1 : decode cX9_init 1 = .ok (.invokespecial 3, 3) := by decide +kernel
theorem dX9_init_4 : decode cX9_init 4 = .ok (.aload_n 0, 1) := by decide +kernel
theorem dX9_init_5 : decode cX9_init 5 = .ok (.bipush 36, 2) := by decide +kernel
theorem dX9_init_7 : decode cX9_init 7 = .ok (.newarray .int, 2) := by decide +kernel
theorem dX9_init_9 : decode cX9_init 9 = .ok (.putfield 9, 3) := by decide +kernel
theorem dX9_init_12 : decode cX9_init 12 = .ok (.aload_n 0, 1) := by decide +kernel
theorem dX9_init_13 : decode cX9_init 13 = .ok (.bipush 36, 2) := by decide +kernel
theorem dX9_init_15 : decode cX9_init 15 = .ok (.newarray .int, 2) := by decide +kernel
theorem dX9_init_17 : decode cX9_init 17 = .ok (.putfield 15, 3) := by decide +kernel
theorem dX9_init_20 : decode cX9_init 20 = .ok (.aload_n 0, 1) := by decide +kernel
theorem dX9_init_21 : decode cX9_init 21 = .ok (.bipush 36, 2) := by decide +kernel
theorem dX9_init_23 : decode cX9_init 23 = .ok (.newarray .int, 2) := by decide +kernel
theorem dX9_init_25 : decode cX9_init 25 = .ok (.putfield 18, 3) := by decide +kernel
theorem dX9_init_28 : decode cX9_init 28 = .ok (.aload_n 0, 1) := by decide +kernel
theorem dX9_init_29 : decode cX9_init 29 = .ok (.bipush 36, 2) := by decide +kernel
theorem dX9_init_31 : decode cX9_init 31 = .ok (.newarray .int, 2) := by decide +kernel
theorem dX9_init_33 : decode cX9_init 33 = .ok (.putfield 21, 3) := by decide +kernel
theorem dX9_init_36 : decode cX9_init 36 = .ok (.return_, 1) := by decide +kernel
theorem dX9_result_0 : decode cX9_result 0 = .ok (.iload_n 0, 1) := by decide +kernel
theorem dX9_result_1 : decode cX9_result 1 = .ok (.tableswitch 62 3 7 #[35, 39, 43, 47, 51], 35) := by decide +kernel
theorem dX9_result_36 : decode cX9_result 36 = .ok (.iload_n 1, 1) := by decide +kernel
theorem dX9_result_37 : decode cX9_result 37 = .ok (.iload_n 2, 1) := by decide +kernel
theorem dX9_result_38 : decode cX9_result 38 = .ok (.iadd, 1) := by decide +kernel
theorem dX9_result_39 : decode cX9_result 39 = .ok (.ireturn, 1) := by decide +kernel
theorem dX9_result_40 : decode cX9_result 40 = .ok (.iload_n 1, 1) := by decide +kernel
theorem dX9_result_41 : decode cX9_result 41 = .ok (.iload_n 2, 1) := by decide +kernel
theorem dX9_result_42 : decode cX9_result 42 = .ok (.isub, 1) := by decide +kernel
theorem dX9_result_43 : decode cX9_result 43 = .ok (.ireturn, 1) := by decide +kernel
theorem dX9_result_44 : decode cX9_result 44 = .ok (.iload_n 1, 1) := by decide +kernel
theorem dX9_result_45 : decode cX9_result 45 = .ok (.iload_n 2, 1) := by decide +kernel
theorem dX9_result_46 : decode cX9_result 46 = .ok (.imul, 1) := by decide +kernel
theorem dX9_result_47 : decode cX9_result 47 = .ok (.ireturn, 1) := by decide +kernel
theorem dX9_result_48 : decode cX9_result 48 = .ok (.iload_n 1, 1) := by decide +kernel
theorem dX9_result_49 : decode cX9_result 49 = .ok (.iload_n 2, 1) := by decide +kernel
theorem dX9_result_50 : decode cX9_result 50 = .ok (.iand, 1) := by decide +kernel
theorem dX9_result_51 : decode cX9_result 51 = .ok (.ireturn, 1) := by decide +kernel
theorem dX9_result_52 : decode cX9_result 52 = .ok (.iload_n 1, 1) := by decide +kernel
theorem dX9_result_53 : decode cX9_result 53 = .ok (.iload_n 2, 1) := by decide +kernel
theorem dX9_result_54 : decode cX9_result 54 = .ok (.if_icmp .ge 7, 3) := by decide +kernel
theorem dX9_result_57 : decode cX9_result 57 = .ok (.iconst 1, 1) := by decide +kernel
theorem dX9_result_58 : decode cX9_result 58 = .ok (.goto 4, 3) := by decide +kernel
theorem dX9_result_61 : decode cX9_result 61 = .ok (.iconst 0, 1) := by decide +kernel
theorem dX9_result_62 : decode cX9_result 62 = .ok (.ireturn, 1) := by decide +kernel
theorem dX9_result_63 : decode cX9_result 63 = .ok (.iload_n 1, 1) := by decide +kernel
theorem dX9_result_64 : decode cX9_result 64 = .ok (.iload_n 2, 1) := by decide +kernel
theorem dX9_result_65 : decode cX9_result 65 = .ok (.if_icmp .ne 7, 3) := by decide +kernel
theorem dX9_result_68 : decode cX9_result 68 = .ok (.iconst 1, 1) := by decide +kernel
theorem dX9_result_69 : decode cX9_result 69 = .ok (.goto 4, 3) := by decide +kernel
theorem dX9_result_72 : decode cX9_result 72 = .ok (.iconst 0, 1) := by decide +kernel
theorem dX9_result_73 : decode cX9_result 73 = .ok (.ireturn, 1) := by decide +kernel
theorem dX9_reset_0 : decode cX9_reset 0 = .ok (.aload_n 0, 1) := by decide +kernel
theorem dX9_reset_1 : decode cX9_reset 1 = .ok (.iconst 0, 1) := by decide +kernel
theorem dX9_reset_2 : decode cX9_reset 2 = .ok (.putfield 24, 3) := by decide +kernel
theorem dX9_reset_5 : decode cX9_reset 5 = .ok (.iconst 0, 1) := by decide +kernel
theorem dX9_reset_6 : decode cX9_reset 6 = .ok (.istore_n 1, 1) := by decide +kernel
theorem dX9_reset_7 : decode cX9_reset 7 = .ok (.iload_n 1, 1) := by decide +kernel
theorem dX9_reset_8 : decode cX9_reset 8 = .ok (.bipush 6, 2) := by decide +kernel
theorem dX9_reset_10 : decode cX9_reset 10 = .ok (.if_icmp .ge 17, 3) := by decide +kernel
theorem dX9_reset_13 : decode cX9_reset 13 = .ok (.aload_n 0, 1) := by decide +kernel
theorem dX9_reset_14 : decode cX9_reset 14 = .ok (.iconst 1, 1) := by decide +kernel
theorem dX9_reset_15 : decode cX9_reset 15 = .ok (.iload_n 1, 1) := by decide +kernel
theorem dX9_reset_16 : decode cX9_reset 16 = .ok (.iconst 0, 1) := by decide +kernel
theorem dX9_reset_17 : decode cX9_reset 17 = .ok (.invokevirtual 28, 3) := by decide +kernel
theorem dX9_reset_20 : decode cX9_reset 20 = .ok (.pop, 1) := by decide +kernel
theorem dX9_reset_21 : decode cX9_reset 21 = .ok (.iinc 1 1, 3) := by decide +kernel
theorem dX9_reset_24 : decode cX9_reset 24 = .ok (.goto (-17), 3) := by decide +kernel
theorem dX9_reset_27 : decode cX9_reset 27 = .ok (.return_, 1) := by decide +kernel
theorem dX9_share_0 : decode cX9_share 0 = .ok (.iconst 0, 1) := by decide +kernel
theorem dX9_share_1 : decode cX9_share 1 = .ok (.istore 4, 2) := by decide +kernel
theorem dX9_share_3 : decode cX9_share 3 = .ok (.iload 4, 2) := by decide +kernel
theorem dX9_share_5 : decode cX9_share 5 = .ok (.aload_n 0, 1) := by decide +kernel
theorem dX9_share_6 : decode cX9_share 6 = .ok (.getfield 24, 3) := by decide +kernel
theorem dX9_share_9 : decode cX9_share 9 = .ok (.if_icmp .ge 45, 3) := by decide +kernel
theorem dX9_share_12 : decode cX9_share 12 = .ok (.aload_n 0, 1) := by decide +kernel
theorem dX9_share_13 : decode cX9_share 13 = .ok (.getfield 9, 3) := by decide +kernel
theorem dX9_share_16 : decode cX9_share 16 = .ok (.iload 4, 2) := by decide +kernel
theorem dX9_share_18 : decode cX9_share 18 = .ok (.iaload, 1) := by decide +kernel
theorem dX9_share_19 : decode cX9_share 19 = .ok (.iload_n 1, 1) := by decide +kernel
theorem dX9_share_20 : decode cX9_share 20 = .ok (.if_icmp .ne 28, 3) := by decide +kernel
theorem dX9_share_23 : decode cX9_share 23 = .ok (.aload_n 0, 1) := by decide +kernel
theorem dX9_share_24 : decode cX9_share 24 = .ok (.getfield 15, 3) := by decide +kernel
theorem dX9_share_27 : decode cX9_share 27 = .ok (.iload 4, 2) := by decide +kernel
theorem dX9_share_29 : decode cX9_share 29 = .ok (.iaload, 1) := by decide +kernel
theorem dX9_share_30 : decode cX9_share 30 = .ok (.iload_n 2, 1) := by decide +kernel
theorem dX9_share_31 : decode cX9_share 31 = .ok (.if_icmp .ne 17, 3) := by decide +kernel
theorem dX9_share_34 : decode cX9_share 34 = .ok (.aload_n 0, 1) := by decide +kernel
theorem dX9_share_35 : decode cX9_share 35 = .ok (.getfield 18, 3) := by decide +kernel
theorem dX9_share_38 : decode cX9_share 38 = .ok (.iload 4, 2) := by decide +kernel
theorem dX9_share_40 : decode cX9_share 40 = .ok (.iaload, 1) := by decide +kernel
theorem dX9_share_41 : decode cX9_share 41 = .ok (.iload_n 3, 1) := by decide +kernel
theorem dX9_share_42 : decode cX9_share 42 = .ok (.if_icmp .ne 6, 3) := by decide +kernel
theorem dX9_share_45 : decode cX9_share 45 = .ok (.iload 4, 2) := by decide +kernel
theorem dX9_share_47 : decode cX9_share 47 = .ok (.ireturn, 1) := by decide +kernel
theorem dX9_share_48 : decode cX9_share 48 = .ok (.iinc 4 1, 3) := by decide +kernel
theorem dX9_share_51 : decode cX9_share 51 = .ok (.goto (-48), 3) := by decide +kernel
theorem dX9_share_54 : decode cX9_share 54 = .ok (.aload_n 0, 1) := by decide +kernel
theorem dX9_share_55 : decode cX9_share 55 = .ok (.getfield 9, 3) := by decide +kernel
theorem dX9_share_58 : decode cX9_share 58 = .ok (.aload_n 0, 1) := by decide +kernel
theorem dX9_share_59 : decode cX9_share 59 = .ok (.getfield 24, 3) := by decide +kernel
theorem dX9_share_62 : decode cX9_share 62 = .ok (.iload_n 1, 1) := by decide +kernel
theorem dX9_share_63 : decode cX9_share 63 = .ok (.iastore, 1) := by decide +kernel
theorem dX9_share_64 : decode cX9_share 64 = .ok (.aload_n 0, 1) := by decide +kernel
theorem dX9_share_65 : decode cX9_share 65 = .ok (.getfield 15, 3) := by decide +kernel
theorem dX9_share_68 : decode cX9_share 68 = .ok (.aload_n 0, 1) := by decide +kernel
theorem dX9_share_69 : decode cX9_share 69 = .ok (.getfield 24, 3) := by decide +kernel
theorem dX9_share_72 : decode cX9_share 72 = .ok (.iload_n 2, 1) := by decide +kernel
theorem dX9_share_73 : decode cX9_share 73 = .ok (.iastore, 1) := by decide +kernel
theorem dX9_share_74 : decode cX9_share 74 = .ok (.aload_n 0, 1) := by decide +kernel
theorem dX9_share_75 : decode cX9_share 75 = .ok (.getfield 18, 3) := by decide +kernel
theorem dX9_share_78 : decode cX9_share 78 = .ok (.aload_n 0, 1) := by decide +kernel
theorem dX9_share_79 : decode cX9_share 79 = .ok (.getfield 24, 3) := by decide +kernel
theorem dX9_share_82 : decode cX9_share 82 = .ok (.iload_n 3, 1) := by decide +kernel
theorem dX9_share_83 : decode cX9_share 83 = .ok (.iastore, 1) := by decide +kernel
theorem dX9_share_84 : decode cX9_share 84 = .ok (.aload_n 0, 1) := by decide +kernel
theorem dX9_share_85 : decode cX9_share 85 = .ok (.getfield 21, 3) := by decide +kernel
theorem dX9_share_88 : decode cX9_share 88 = .ok (.aload_n 0, 1) := by decide +kernel
theorem dX9_share_89 : decode cX9_share 89 = .ok (.getfield 24, 3) := by decide +kernel
theorem dX9_share_92 : decode cX9_share 92 = .ok (.iload_n 1, 1) := by decide +kernel
theorem dX9_share_93 : decode cX9_share 93 = .ok (.ifCond .ne 7, 3) := by decide +kernel
theorem dX9_share_96 : decode cX9_share 96 = .ok (.iload_n 2, 1) := by decide +kernel
theorem dX9_share_97 : decode cX9_share 97 = .ok (.goto 4, 3) := by decide +kernel
theorem dX9_share_100 : decode cX9_share 100 = .ok (.iconst 0, 1) := by decide +kernel
theorem dX9_share_101 : decode cX9_share 101 = .ok (.iastore, 1) := by decide +kernel
theorem dX9_share_102 : decode cX9_share 102 = .ok (.aload_n 0, 1) := by decide +kernel
theorem dX9_share_103 : decode cX9_share 103 = .ok (.dup, 1) := by decide +kernel
theorem dX9_share_104 : decode cX9_share 104 = .ok (.getfield 24, 3) := by decide +kernel
theorem dX9_share_107 : decode cX9_share 107 = .ok (.iconst 1, 1) := by decide +kernel
theorem dX9_share_108 : decode cX9_share 108 = .ok (.iadd, 1) := by decide +kernel
theorem dX9_share_109 : decode cX9_share 109 = .ok (.putfield 24, 3) := by decide +kernel
theorem dX9_share_112 : decode cX9_share 112 = .ok (.aload_n 0, 1) := by decide +kernel
theorem dX9_share_113 : decode cX9_share 113 = .ok (.getfield 24, 3) := by decide +kernel
theorem dX9_share_116 : decode cX9_share 116 = .ok (.iconst 1, 1) := by decide +kernel
theorem dX9_share_117 : decode cX9_share 117 = .ok (.isub, 1) := by decide +kernel
theorem dX9_share_118 : decode cX9_share 118 = .ok (.ireturn, 1) := by decide +kernel
theorem dX9_isNumber_0 : decode cX9_isNumber 0 = .ok (.aload_n 0, 1) := by decide +kernel
theorem dX9_isNumber_1 : decode cX9_isNumber 1 = .ok (.getfield 9, 3) := by decide +kernel
theorem dX9_isNumber_4 : decode cX9_isNumber 4 = .ok (.iload_n 1, 1) := by decide +kernel
theorem dX9_isNumber_5 : decode cX9_isNumber 5 = .ok (.iaload, 1) := by decide +kernel
theorem dX9_isNumber_6 : decode cX9_isNumber 6 = .ok (.ifCond .ne 7, 3) := by decide +kernel
theorem dX9_isNumber_9 : decode cX9_isNumber 9 = .ok (.iconst 1, 1) := by decide +kernel
theorem dX9_isNumber_10 : decode cX9_isNumber 10 = .ok (.goto 4, 3) := by decide +kernel
theorem dX9_isNumber_13 : decode cX9_isNumber 13 = .ok (.iconst 0, 1) := by decide +kernel
theorem dX9_isNumber_14 : decode cX9_isNumber 14 = .ok (.ireturn, 1) := by decide +kernel
theorem dX9_isOperation_0 : decode cX9_isOperation 0 = .ok (.aload_n 0, 1) := by decide +kernel
theorem dX9_isOperation_1 : decode cX9_isOperation 1 = .ok (.getfield 9, 3) := by decide +kernel
theorem dX9_isOperation_4 : decode cX9_isOperation 4 = .ok (.iload_n 1, 1) := by decide +kernel
theorem dX9_isOperation_5 : decode cX9_isOperation 5 = .ok (.iaload, 1) := by decide +kernel
theorem dX9_isOperation_6 : decode cX9_isOperation 6 = .ok (.ifCond .eq 17, 3) := by decide +kernel
theorem dX9_isOperation_9 : decode cX9_isOperation 9 = .ok (.aload_n 0, 1) := by decide +kernel
theorem dX9_isOperation_10 : decode cX9_isOperation 10 = .ok (.getfield 9, 3) := by decide +kernel
theorem dX9_isOperation_13 : decode cX9_isOperation 13 = .ok (.iload_n 1, 1) := by decide +kernel
theorem dX9_isOperation_14 : decode cX9_isOperation 14 = .ok (.iaload, 1) := by decide +kernel
theorem dX9_isOperation_15 : decode cX9_isOperation 15 = .ok (.iconst 1, 1) := by decide +kernel
theorem dX9_isOperation_16 : decode cX9_isOperation 16 = .ok (.if_icmp .eq 7, 3) := by decide +kernel
theorem dX9_isOperation_19 : decode cX9_isOperation 19 = .ok (.iconst 1, 1) := by decide +kernel
theorem dX9_isOperation_20 : decode cX9_isOperation 20 = .ok (.goto 4, 3) := by decide +kernel
theorem dX9_isOperation_23 : decode cX9_isOperation 23 = .ok (.iconst 0, 1) := by decide +kernel
theorem dX9_isOperation_24 : decode cX9_isOperation 24 = .ok (.ireturn, 1) := by decide +kernel
theorem dX9_takeLocals_0 : decode cX9_takeLocals 0 = .ok (.aload_n 1, 1) := by decide +kernel
theorem dX9_takeLocals_1 : decode cX9_takeLocals 1 = .ok (.iconst 0, 1) := by decide +kernel
theorem dX9_takeLocals_2 : decode cX9_takeLocals 2 = .ok (.aload_n 0, 1) := by decide +kernel
theorem dX9_takeLocals_3 : decode cX9_takeLocals 3 = .ok (.getfield 21, 3) := by decide +kernel
theorem dX9_takeLocals_6 : decode cX9_takeLocals 6 = .ok (.iconst 0, 1) := by decide +kernel
theorem dX9_takeLocals_7 : decode cX9_takeLocals 7 = .ok (.bipush 6, 2) := by decide +kernel
theorem dX9_takeLocals_9 : decode cX9_takeLocals 9 = .ok (.invokestatic 32, 3) := by decide +kernel
theorem dX9_takeLocals_12 : decode cX9_takeLocals 12 = .ok (.return_, 1) := by decide +kernel
theorem dX9_work_0 : decode cX9_work 0 = .ok (.aload_n 0, 1) := by decide +kernel
theorem dX9_work_1 : decode cX9_work 1 = .ok (.getfield 21, 3) := by decide +kernel
theorem dX9_work_4 : decode cX9_work 4 = .ok (.iload_n 1, 1) := by decide +kernel
theorem dX9_work_5 : decode cX9_work 5 = .ok (.aload_n 0, 1) := by decide +kernel
theorem dX9_work_6 : decode cX9_work 6 = .ok (.getfield 9, 3) := by decide +kernel
theorem dX9_work_9 : decode cX9_work 9 = .ok (.iload_n 1, 1) := by decide +kernel
theorem dX9_work_10 : decode cX9_work 10 = .ok (.iaload, 1) := by decide +kernel
theorem dX9_work_11 : decode cX9_work 11 = .ok (.aload_n 0, 1) := by decide +kernel
theorem dX9_work_12 : decode cX9_work 12 = .ok (.getfield 21, 3) := by decide +kernel
theorem dX9_work_15 : decode cX9_work 15 = .ok (.aload_n 0, 1) := by decide +kernel
theorem dX9_work_16 : decode cX9_work 16 = .ok (.getfield 15, 3) := by decide +kernel
theorem dX9_work_19 : decode cX9_work 19 = .ok (.iload_n 1, 1) := by decide +kernel
theorem dX9_work_20 : decode cX9_work 20 = .ok (.iaload, 1) := by decide +kernel
theorem dX9_work_21 : decode cX9_work 21 = .ok (.iaload, 1) := by decide +kernel
theorem dX9_work_22 : decode cX9_work 22 = .ok (.aload_n 0, 1) := by decide +kernel
theorem dX9_work_23 : decode cX9_work 23 = .ok (.getfield 21, 3) := by decide +kernel
theorem dX9_work_26 : decode cX9_work 26 = .ok (.aload_n 0, 1) := by decide +kernel
theorem dX9_work_27 : decode cX9_work 27 = .ok (.getfield 18, 3) := by decide +kernel
theorem dX9_work_30 : decode cX9_work 30 = .ok (.iload_n 1, 1) := by decide +kernel
theorem dX9_work_31 : decode cX9_work 31 = .ok (.iaload, 1) := by decide +kernel
theorem dX9_work_32 : decode cX9_work 32 = .ok (.iaload, 1) := by decide +kernel
theorem dX9_work_33 : decode cX9_work 33 = .ok (.invokestatic 38, 3) := by decide +kernel
theorem dX9_work_36 : decode cX9_work 36 = .ok (.iastore, 1) := by decide +kernel
theorem dX9_work_37 : decode cX9_work 37 = .ok (.return_, 1) := by decide +kernel
theorem dJ9_floorMod_7cf53_0 : decode cJ9_floorMod_7cf53 0 = .ok (.iload_n 0, 1) := by decide +kernel
theorem dJ9_floorMod_7cf53_1 : decode cJ9_floorMod_7cf53 1 = .ok (.iload_n 1, 1) := by decide +kernel
theorem dJ9_floorMod_7cf53_2 : decode cJ9_floorMod_7cf53 2 = .ok (.irem, 1) := by decide +kernel
theorem dJ9_floorMod_7cf53_3 : decode cJ9_floorMod_7cf53 3 = .ok (.istore_n 2, 1) := by decide +kernel
theorem dJ9_floorMod_7cf53_4 : decode cJ9_floorMod_7cf53 4 = .ok (.iload_n 0, 1) := by decide +kernel
theorem dJ9_floorMod_7cf53_5 : decode cJ9_floorMod_7cf53 5 = .ok (.iload_n 1, 1) := by decide +kernel
theorem dJ9_floorMod_7cf53_6 : decode cJ9_floorMod_7cf53 6 = .ok (.ixor, 1) := by decide +kernel
theorem dJ9_floorMod_7cf53_7 : decode cJ9_floorMod_7cf53 7 = .ok (.ifCond .ge 11, 3) := by decide +kernel
theorem dJ9_floorMod_7cf53_10 : decode cJ9_floorMod_7cf53 10 = .ok (.iload_n 2, 1) := by decide +kernel
theorem dJ9_floorMod_7cf53_11 : decode cJ9_floorMod_7cf53 11 = .ok (.ifCond .eq 7, 3) := by decide +kernel
theorem dJ9_floorMod_7cf53_14 : decode cJ9_floorMod_7cf53 14 = .ok (.iload_n 2, 1) := by decide +kernel
theorem dJ9_floorMod_7cf53_15 : decode cJ9_floorMod_7cf53 15 = .ok (.iload_n 1, 1) := by decide +kernel
theorem dJ9_floorMod_7cf53_16 : decode cJ9_floorMod_7cf53 16 = .ok (.iadd, 1) := by decide +kernel
theorem dJ9_floorMod_7cf53_17 : decode cJ9_floorMod_7cf53 17 = .ok (.ireturn, 1) := by decide +kernel
theorem dJ9_floorMod_7cf53_18 : decode cJ9_floorMod_7cf53 18 = .ok (.iload_n 2, 1) := by decide +kernel
theorem dJ9_floorMod_7cf53_19 : decode cJ9_floorMod_7cf53 19 = .ok (.ireturn, 1) := by decide +kernel
theorem dJ7_fill_53178_0 : decode cJ7_fill_53178 0 = .ok (.iconst 0, 1) := by decide +kernel
theorem dJ7_fill_53178_1 : decode cJ7_fill_53178 1 = .ok (.istore_n 2, 1) := by decide +kernel
theorem dJ7_fill_53178_2 : decode cJ7_fill_53178 2 = .ok (.aload_n 0, 1) := by decide +kernel
theorem dJ7_fill_53178_3 : decode cJ7_fill_53178 3 = .ok (.arraylength, 1) := by decide +kernel
theorem dJ7_fill_53178_4 : decode cJ7_fill_53178 4 = .ok (.istore_n 3, 1) := by decide +kernel
theorem dJ7_fill_53178_5 : decode cJ7_fill_53178 5 = .ok (.iload_n 2, 1) := by decide +kernel
theorem dJ7_fill_53178_6 : decode cJ7_fill_53178 6 = .ok (.iload_n 3, 1) := by decide +kernel
theorem dJ7_fill_53178_7 : decode cJ7_fill_53178 7 = .ok (.if_icmp .ge 13, 3) := by decide +kernel
theorem dJ7_fill_53178_10 : decode cJ7_fill_53178 10 = .ok (.aload_n 0, 1) := by decide +kernel
theorem dJ7_fill_53178_11 : decode cJ7_fill_53178 11 = .ok (.iload_n 2, 1) := by decide +kernel
theorem dJ7_fill_53178_12 : decode cJ7_fill_53178 12 = .ok (.iload_n 1, 1) := by decide +kernel
theorem dJ7_fill_53178_13 : decode cJ7_fill_53178 13 = .ok (.iastore, 1) := by decide +kernel
theorem dJ7_fill_53178_14 : decode cJ7_fill_53178 14 = .ok (.iinc 2 1, 3) := by decide +kernel
theorem dJ7_fill_53178_17 : decode cJ7_fill_53178 17 = .ok (.goto (-12), 3) := by decide +kernel
theorem dJ7_fill_53178_20 : decode cJ7_fill_53178 20 = .ok (.return_, 1) := by decide +kernel
end
section
theorem dX10_init_0 : decode cX10_init 0 = .ok (.aload_n 0, 1) := by decide +kernel
theorem dX10_init_1 : decode cX10_init 1 = .ok (.invokespecial 3, 3) := by decide +kernel
theorem dX10_init_4 : decode cX10_init 4 = .ok (.aload_n 0, 1) := by decide +kernel
theorem dX10_init_5 : decode cX10_init 5 = .ok (.new 9, 3) := by decide +kernel
theorem dX10_init_8 : decode cX10_init 8 = .ok (.dup, 1) := by decide +kernel
theorem dX10_init_9 : decode cX10_init 9 = .ok (.invokespecial 11, 3) := by decide +kernel
theorem dX10_init_12 : decode cX10_init 12 = .ok (.putfield 12, 3) := by decide +kernel
theorem dX10_init_15 : decode cX10_init 15 = .ok (.aload_n 0, 1) := by decide +kernel
theorem dX10_init_16 : decode cX10_init 16 = .ok (.new 16, 3) := by decide +kernel
theorem dX10_init_19 : decode cX10_init 19 = .ok (.dup, 1) := by decide +kernel
theorem dX10_init_20 : decode cX10_init 20 = .ok (.invokespecial 18, 3) := by decide +kernel
theorem dX10_init_23 : decode cX10_init 23 = .ok (.putfield 19, 3) := by decide +kernel
theorem dX10_init_26 : decode cX10_init 26 = .ok (.aload_n 0, 1) := by decide +kernel
theorem dX10_init_27 : decode cX10_init 27 = .ok (.new 23, 3) := by decide +kernel
theorem dX10_init_30 : decode cX10_init 30 = .ok (.dup, 1) := by decide +kernel
theorem dX10_init_31 : decode cX10_init 31 = .ok (.invokespecial 25, 3) := by decide +kernel
theorem dX10_init_34 : decode cX10_init 34 = .ok (.putfield 26, 3) := by decide +kernel
theorem dX10_init_37 : decode cX10_init 37 = .ok (.aload_n 0, 1) := by decide +kernel
theorem dX10_init_38 : decode cX10_init 38 = .ok (.new 30, 3) := by decide +kernel
theorem dX10_init_41 : decode cX10_init 41 = .ok (.dup, 1) := by decide +kernel
theorem dX10_init_42 : decode cX10_init 42 = .ok (.invokespecial 32, 3) := by decide +kernel
theorem dX10_init_45 : decode cX10_init 45 = .ok (.putfield 33, 3) := by decide +kernel
theorem dX10_init_48 : decode cX10_init 48 = .ok (.aload_n 0, 1) := by decide +kernel
theorem dX10_init_49 : decode cX10_init 49 = .ok (.new 37, 3) := by decide +kernel
theorem dX10_init_52 : decode cX10_init 52 = .ok (.dup, 1) := by decide +kernel
theorem dX10_init_53 : decode cX10_init 53 = .ok (.invokespecial 39, 3) := by decide +kernel
theorem dX10_init_56 : decode cX10_init 56 = .ok (.putfield 40, 3) := by decide +kernel
theorem dX10_init_59 : decode cX10_init 59 = .ok (.aload_n 0, 1) := by decide +kernel
theorem dX10_init_60 : decode cX10_init 60 = .ok (.new 44, 3) := by decide +kernel
theorem dX10_init_63 : decode cX10_init 63 = .ok (.dup, 1) := by decide +kernel
theorem dX10_init_64 : decode cX10_init 64 = .ok (.invokespecial 46, 3) := by decide +kernel
theorem dX10_init_67 : decode cX10_init 67 = .ok (.putfield 47, 3) := by decide +kernel
theorem dX10_init_70 : decode cX10_init 70 = .ok (.aload_n 0, 1) := by decide +kernel
theorem dX10_init_71 : decode cX10_init 71 = .ok (.new 51, 3) := by decide +kernel
theorem dX10_init_74 : decode cX10_init 74 = .ok (.dup, 1) := by decide +kernel
theorem dX10_init_75 : decode cX10_init 75 = .ok (.invokespecial 53, 3) := by decide +kernel
theorem dX10_init_78 : decode cX10_init 78 = .ok (.putfield 54, 3) := by decide +kernel
theorem dX10_init_81 : decode cX10_init 81 = .ok (.aload_n 0, 1) := by decide +kernel
theorem dX10_init_82 : decode cX10_init 82 = .ok (.iconst 4, 1) := by decide +kernel
theorem dX10_init_83 : decode cX10_init 83 = .ok (.anewarray 58, 3) := by decide +kernel
theorem dX10_init_86 : decode cX10_init 86 = .ok (.putfield 60, 3) := by decide +kernel
theorem dX10_init_89 : decode cX10_init 89 = .ok (.iconst 0, 1) := by decide +kernel
theorem dX10_init_90 : decode cX10_init 90 = .ok (.istore_n 1, 1) := by decide +kernel
theorem dX10_init_91 : decode cX10_init 91 = .ok (.iload_n 1, 1) := by decide +kernel
theorem dX10_init_92 : decode cX10_init 92 = .ok (.iconst 4, 1) := by decide +kernel
theorem dX10_init_93 : decode cX10_init 93 = .ok (.if_icmp .ge 22, 3) := by decide +kernel
theorem dX10_init_96 : decode cX10_init 96 = .ok (.aload_n 0, 1) := by decide +kernel
theorem dX10_init_97 : decode cX10_init 97 = .ok (.getfield 60, 3) := by decide +kernel
theorem dX10_init_100 : decode cX10_init 100 = .ok (.iload_n 1, 1) := by decide +kernel
theorem dX10_init_101 : decode cX10_init 101 = .ok (.new 58, 3) := by decide +kernel
theorem dX10_init_104 : decode cX10_init 104 = .ok (.dup, 1) := by decide +kernel
theorem dX10_init_105 : decode cX10_init 105 = .ok (.invokespecial 64, 3) := by decide +kernel
theorem dX10_init_108 : decode cX10_init 108 = .ok (.aastore, 1) := by decide +kernel
theorem dX10_init_109 : decode cX10_init 109 = .ok (.iinc 1 1, 3) := by decide +kernel
theorem dX10_init_112 : decode cX10_init 112 = .ok (.goto (-21), 3) := by decide +kernel
theorem dX10_init_115 : decode cX10_init 115 = .ok (.aload_n 0, 1) := by decide +kernel
theorem dX10_init_116 : decode cX10_init 116 = .ok (.iconst (-1), 1) := by decide +kernel
theorem dX10_init_117 : decode cX10_init 117 = .ok (.putfield 65, 3) := by decide +kernel
theorem dX10_init_120 : decode cX10_init 120 = .ok (.return_, 1) := by decide +kernel
theorem dX10_add_0 : decode cX10_add 0 = .ok (.iload_n 1, 1) := by decide +kernel
theorem dX10_add_1 : decode cX10_add 1 = .ok (.iload_n 2, 1) := by decide +kernel
theorem dX10_add_2 : decode cX10_add 2 = .ok (.invokestatic 69, 3) := by decide +kernel
theorem dX10_add_5 : decode cX10_add 5 = .ok (.ifCond .ne 13, 3) := by decide +kernel
theorem dX10_add_8 : decode cX10_add 8 = .ok (.new 73, 3) := by decide +kernel
theorem dX10_add_11 : decode cX10_add 11 = .ok (.dup, 1) := by decide +kernel
theorem dX10_add_12 : decode cX10_add 12 = .ok (.ldc 75, 2) := by decide +kernel
theorem dX10_add_14 : decode cX10_add 14 = .ok (.invokespecial 77, 3) := by decide +kernel
theorem dX10_add_17 : decode cX10_add 17 = .ok (.athrow, 1) := by decide +kernel
theorem dX10_add_18 : decode cX10_add 18 = .ok (.aload_n 0, 1) := by decide +kernel
theorem dX10_add_19 : decode cX10_add 19 = .ok (.getfield 80, 3) := by decide +kernel
theorem dX10_add_22 : decode cX10_add 22 = .ok (.ifCond .ne 15, 3) := by decide +kernel
theorem dX10_add_25 : decode cX10_add 25 = .ok (.aload_n 0, 1) := by decide +kernel
theorem dX10_add_26 : decode cX10_add 26 = .ok (.getfield 12, 3) := by decide +kernel
theorem dX10_add_29 : decode cX10_add 29 = .ok (.getfield 84, 3) := by decide +kernel
theorem dX10_add_32 : decode cX10_add 32 = .ok (.bipush 40, 2) := by decide +kernel
theorem dX10_add_34 : decode cX10_add 34 = .ok (.if_icmp .lt 13, 3) := by decide +kernel
theorem dX10_add_37 : decode cX10_add 37 = .ok (.new 87, 3) := by decide +kernel
theorem dX10_add_40 : decode cX10_add 40 = .ok (.dup, 1) := by decide +kernel
theorem dX10_add_41 : decode cX10_add 41 = .ok (.ldc 89, 2) := by decide +kernel
theorem dX10_add_43 : decode cX10_add 43 = .ok (.invokespecial 91, 3) := by decide +kernel
theorem dX10_add_46 : decode cX10_add 46 = .ok (.athrow, 1) := by decide +kernel
theorem dX10_add_47 : decode cX10_add 47 = .ok (.aload_n 0, 1) := by decide +kernel
theorem dX10_add_48 : decode cX10_add 48 = .ok (.getfield 12, 3) := by decide +kernel
theorem dX10_add_51 : decode cX10_add 51 = .ok (.iload_n 1, 1) := by decide +kernel
theorem dX10_add_52 : decode cX10_add 52 = .ok (.iload_n 2, 1) := by decide +kernel
theorem dX10_add_53 : decode cX10_add 53 = .ok (.invokevirtual 92, 3) := by decide +kernel
theorem dX10_add_56 : decode cX10_add 56 = .ok (.aload_n 0, 1) := by decide +kernel
theorem dX10_add_57 : decode cX10_add 57 = .ok (.getfield 12, 3) := by decide +kernel
theorem dX10_add_60 : decode cX10_add 60 = .ok (.getfield 84, 3) := by decide +kernel
theorem dX10_add_63 : decode cX10_add 63 = .ok (.ireturn, 1) := by decide +kernel
theorem dX10_begin_0 : decode cX10_begin 0 = .ok (.aload_n 0, 1) := by decide +kernel
theorem dX10_begin_1 : decode cX10_begin 1 = .ok (.getfield 12, 3) := by decide +kernel
theorem dX10_begin_4 : decode cX10_begin 4 = .ok (.invokevirtual 96, 3) := by decide +kernel
theorem dX10_begin_7 : decode cX10_begin 7 = .ok (.ifCond .ne 13, 3) := by decide +kernel
theorem dX10_begin_10 : decode cX10_begin 10 = .ok (.new 73, 3) := by decide +kernel
theorem dX10_begin_13 : decode cX10_begin 13 = .ok (.dup, 1) := by decide +kernel
theorem dX10_begin_14 : decode cX10_begin 14 = .ok (.ldc 100, 2) := by decide +kernel
theorem dX10_begin_16 : decode cX10_begin 16 = .ok (.invokespecial 77, 3) := by decide +kernel
theorem dX10_begin_19 : decode cX10_begin 19 = .ok (.athrow, 1) := by decide +kernel
theorem dX10_begin_20 : decode cX10_begin 20 = .ok (.aload_n 0, 1) := by decide +kernel
theorem dX10_begin_21 : decode cX10_begin 21 = .ok (.getfield 80, 3) := by decide +kernel
theorem dX10_begin_24 : decode cX10_begin 24 = .ok (.istore 4, 2) := by decide +kernel
theorem dX10_begin_26 : decode cX10_begin 26 = .ok (.aload_n 0, 1) := by decide +kernel
theorem dX10_begin_27 : decode cX10_begin 27 = .ok (.invokevirtual 102, 3) := by decide +kernel
theorem dX10_begin_30 : decode cX10_begin 30 = .ok (.aload_n 0, 1) := by decide +kernel
theorem dX10_begin_31 : decode cX10_begin 31 = .ok (.getfield 19, 3) := by decide +kernel
theorem dX10_begin_34 : decode cX10_begin 34 = .ok (.getfield 105, 3) := by decide +kernel
theorem dX10_begin_37 : decode cX10_begin 37 = .ok (.iconst 0, 1) := by decide +kernel
theorem dX10_begin_38 : decode cX10_begin 38 = .ok (.iload_n 1, 1) := by decide +kernel
theorem dX10_begin_39 : decode cX10_begin 39 = .ok (.iastore, 1) := by decide +kernel
theorem dX10_begin_40 : decode cX10_begin 40 = .ok (.aload_n 0, 1) := by decide +kernel
theorem dX10_begin_41 : decode cX10_begin 41 = .ok (.getfield 19, 3) := by decide +kernel
theorem dX10_begin_44 : decode cX10_begin 44 = .ok (.getfield 105, 3) := by decide +kernel
theorem dX10_begin_47 : decode cX10_begin 47 = .ok (.iconst 1, 1) := by decide +kernel
theorem dX10_begin_48 : decode cX10_begin 48 = .ok (.iload_n 2, 1) := by decide +kernel
theorem dX10_begin_49 : decode cX10_begin 49 = .ok (.iastore, 1) := by decide +kernel
theorem dX10_begin_50 : decode cX10_begin 50 = .ok (.aload_n 0, 1) := by decide +kernel
theorem dX10_begin_51 : decode cX10_begin 51 = .ok (.iload_n 3, 1) := by decide +kernel
theorem dX10_begin_52 : decode cX10_begin 52 = .ok (.putfield 109, 3) := by decide +kernel
theorem dX10_begin_55 : decode cX10_begin 55 = .ok (.aload_n 0, 1) := by decide +kernel
theorem dX10_begin_56 : decode cX10_begin 56 = .ok (.iconst 1, 1) := by decide +kernel
theorem dX10_begin_57 : decode cX10_begin 57 = .ok (.putfield 80, 3) := by decide +kernel
theorem dX10_begin_60 : decode cX10_begin 60 = .ok (.iload 4, 2) := by decide +kernel
theorem dX10_begin_62 : decode cX10_begin 62 = .ok (.ireturn, 1) := by decide +kernel
theorem dX10_run_0 : decode cX10_run 0 = .ok (.iload_n 1, 1) := by decide +kernel
theorem dX10_run_1 : decode cX10_run 1 = .ok (.iconst 1, 1) := by decide +kernel
theorem dX10_run_2 : decode cX10_run 2 = .ok (.if_icmp .lt 10, 3) := by decide +kernel
theorem dX10_run_5 : decode cX10_run 5 = .ok (.iload_n 1, 1) := by decide +kernel
theorem dX10_run_6 : decode cX10_run 6 = .ok (.sipush 500, 3) := by decide +kernel
theorem dX10_run_9 : decode cX10_run 9 = .ok (.if_icmp .le 13, 3) := by decide +kernel
theorem dX10_run_12 : decode cX10_run 12 = .ok (.new 73, 3) := by decide +kernel
theorem dX10_run_15 : decode cX10_run 15 = .ok (.dup, 1) := by decide +kernel
theorem dX10_run_16 : decode cX10_run 16 = .ok (.ldc 112, 2) := by decide +kernel
theorem dX10_run_18 : decode cX10_run 18 = .ok (.invokespecial 77, 3) := by decide +kernel
theorem dX10_run_21 : decode cX10_run 21 = .ok (.athrow, 1) := by decide +kernel
theorem dX10_run_22 : decode cX10_run 22 = .ok (.aload_n 0, 1) := by decide +kernel
theorem dX10_run_23 : decode cX10_run 23 = .ok (.getfield 80, 3) := by decide +kernel
theorem dX10_run_26 : decode cX10_run 26 = .ok (.ifCond .ne 13, 3) := by decide +kernel
theorem dX10_run_29 : decode cX10_run 29 = .ok (.new 87, 3) := by decide +kernel
theorem dX10_run_32 : decode cX10_run 32 = .ok (.dup, 1) := by decide +kernel
theorem dX10_run_33 : decode cX10_run 33 = .ok (.ldc 114, 2) := by decide +kernel
theorem dX10_run_35 : decode cX10_run 35 = .ok (.invokespecial 91, 3) := by decide +kernel
theorem dX10_run_38 : decode cX10_run 38 = .ok (.athrow, 1) := by decide +kernel
theorem dX10_run_39 : decode cX10_run 39 = .ok (.iconst 0, 1) := by decide +kernel
theorem dX10_run_40 : decode cX10_run 40 = .ok (.istore_n 2, 1) := by decide +kernel
theorem dX10_run_41 : decode cX10_run 41 = .ok (.iload_n 2, 1) := by decide +kernel
theorem dX10_run_42 : decode cX10_run 42 = .ok (.iload_n 1, 1) := by decide +kernel
theorem dX10_run_43 : decode cX10_run 43 = .ok (.if_icmp .ge 20, 3) := by decide +kernel
theorem dX10_run_46 : decode cX10_run 46 = .ok (.aload_n 0, 1) := by decide +kernel
theorem dX10_run_47 : decode cX10_run 47 = .ok (.getfield 116, 3) := by decide +kernel
theorem dX10_run_50 : decode cX10_run 50 = .ok (.ifCond .ne 13, 3) := by decide +kernel
theorem dX10_run_53 : decode cX10_run 53 = .ok (.aload_n 0, 1) := by decide +kernel
theorem dX10_run_54 : decode cX10_run 54 = .ok (.invokevirtual 119, 3) := by decide +kernel
theorem dX10_run_57 : decode cX10_run 57 = .ok (.iinc 2 1, 3) := by decide +kernel
theorem dX10_run_60 : decode cX10_run 60 = .ok (.goto (-19), 3) := by decide +kernel
theorem dX10_run_63 : decode cX10_run 63 = .ok (.iload_n 2, 1) := by decide +kernel
theorem dX10_run_64 : decode cX10_run 64 = .ok (.ireturn, 1) := by decide +kernel
theorem dX10_clear_0 : decode cX10_clear 0 = .ok (.aload_n 0, 1) := by decide +kernel
theorem dX10_clear_1 : decode cX10_clear 1 = .ok (.getfield 12, 3) := by decide +kernel
theorem dX10_clear_4 : decode cX10_clear 4 = .ok (.getfield 84, 3) := by decide +kernel
theorem dX10_clear_7 : decode cX10_clear 7 = .ok (.istore_n 1, 1) := by decide +kernel
theorem dX10_clear_8 : decode cX10_clear 8 = .ok (.aload_n 0, 1) := by decide +kernel
theorem dX10_clear_9 : decode cX10_clear 9 = .ok (.getfield 12, 3) := by decide +kernel
theorem dX10_clear_12 : decode cX10_clear 12 = .ok (.iconst 0, 1) := by decide +kernel
theorem dX10_clear_13 : decode cX10_clear 13 = .ok (.putfield 84, 3) := by decide +kernel
theorem dX10_clear_16 : decode cX10_clear 16 = .ok (.aload_n 0, 1) := by decide +kernel
theorem dX10_clear_17 : decode cX10_clear 17 = .ok (.invokevirtual 102, 3) := by decide +kernel
theorem dX10_clear_20 : decode cX10_clear 20 = .ok (.aload_n 0, 1) := by decide +kernel
theorem dX10_clear_21 : decode cX10_clear 21 = .ok (.iconst 0, 1) := by decide +kernel
theorem dX10_clear_22 : decode cX10_clear 22 = .ok (.putfield 80, 3) := by decide +kernel
theorem dX10_clear_25 : decode cX10_clear 25 = .ok (.iload_n 1, 1) := by decide +kernel
theorem dX10_clear_26 : decode cX10_clear 26 = .ok (.ireturn, 1) := by decide +kernel
theorem dX10_local_0 : decode cX10_local 0 = .ok (.iload_n 1, 1) := by decide +kernel
theorem dX10_local_1 : decode cX10_local 1 = .ok (.ifCond .lt 9, 3) := by decide +kernel
theorem dX10_local_4 : decode cX10_local 4 = .ok (.iload_n 1, 1) := by decide +kernel
theorem dX10_local_5 : decode cX10_local 5 = .ok (.bipush 6, 2) := by decide +kernel
theorem dX10_local_7 : decode cX10_local 7 = .ok (.if_icmp .lt 13, 3) := by decide +kernel
theorem dX10_local_10 : decode cX10_local 10 = .ok (.new 122, 3) := by decide +kernel
theorem dX10_local_13 : decode cX10_local 13 = .ok (.dup, 1) := by decide +kernel
theorem dX10_local_14 : decode cX10_local 14 = .ok (.ldc 124, 2) := by decide +kernel
theorem dX10_local_16 : decode cX10_local 16 = .ok (.invokespecial 126, 3) := by decide +kernel
theorem dX10_local_19 : decode cX10_local 19 = .ok (.athrow, 1) := by decide +kernel
theorem dX10_local_20 : decode cX10_local 20 = .ok (.aload_n 0, 1) := by decide +kernel
theorem dX10_local_21 : decode cX10_local 21 = .ok (.getfield 19, 3) := by decide +kernel
theorem dX10_local_24 : decode cX10_local 24 = .ok (.getfield 105, 3) := by decide +kernel
theorem dX10_local_27 : decode cX10_local 27 = .ok (.iload_n 1, 1) := by decide +kernel
theorem dX10_local_28 : decode cX10_local 28 = .ok (.iaload, 1) := by decide +kernel
theorem dX10_local_29 : decode cX10_local 29 = .ok (.ireturn, 1) := by decide +kernel
theorem dX10_top_0 : decode cX10_top 0 = .ok (.iload_n 1, 1) := by decide +kernel
theorem dX10_top_1 : decode cX10_top 1 = .ok (.ifCond .lt 14, 3) := by decide +kernel
theorem dX10_top_4 : decode cX10_top 4 = .ok (.iload_n 1, 1) := by decide +kernel
theorem dX10_top_5 : decode cX10_top 5 = .ok (.aload_n 0, 1) := by decide +kernel
theorem dX10_top_6 : decode cX10_top 6 = .ok (.getfield 19, 3) := by decide +kernel
theorem dX10_top_9 : decode cX10_top 9 = .ok (.getfield 127, 3) := by decide +kernel
theorem dX10_top_12 : decode cX10_top 12 = .ok (.if_icmp .lt 13, 3) := by decide +kernel
theorem dX10_top_15 : decode cX10_top 15 = .ok (.new 122, 3) := by decide +kernel
theorem dX10_top_18 : decode cX10_top 18 = .ok (.dup, 1) := by decide +kernel
theorem dX10_top_19 : decode cX10_top 19 = .ok (.ldc 130, 2) := by decide +kernel
theorem dX10_top_21 : decode cX10_top 21 = .ok (.invokespecial 126, 3) := by decide +kernel
theorem dX10_top_24 : decode cX10_top 24 = .ok (.athrow, 1) := by decide +kernel
theorem dX10_top_25 : decode cX10_top 25 = .ok (.aload_n 0, 1) := by decide +kernel
theorem dX10_top_26 : decode cX10_top 26 = .ok (.getfield 19, 3) := by decide +kernel
theorem dX10_top_29 : decode cX10_top 29 = .ok (.getfield 132, 3) := by decide +kernel
theorem dX10_top_32 : decode cX10_top 32 = .ok (.aload_n 0, 1) := by decide +kernel
theorem dX10_top_33 : decode cX10_top 33 = .ok (.getfield 19, 3) := by decide +kernel
theorem dX10_top_36 : decode cX10_top 36 = .ok (.getfield 127, 3) := by decide +kernel
theorem dX10_top_39 : decode cX10_top 39 = .ok (.iconst 1, 1) := by decide +kernel
theorem dX10_top_40 : decode cX10_top 40 = .ok (.isub, 1) := by decide +kernel
theorem dX10_top_41 : decode cX10_top 41 = .ok (.iload_n 1, 1) := by decide +kernel
theorem dX10_top_42 : decode cX10_top 42 = .ok (.isub, 1) := by decide +kernel
theorem dX10_top_43 : decode cX10_top 43 = .ok (.iaload, 1) := by decide +kernel
theorem dX10_top_44 : decode cX10_top 44 = .ok (.ireturn, 1) := by decide +kernel
theorem dX10_outs_0 : decode cX10_outs 0 = .ok (.aload_n 0, 1) := by decide +kernel
theorem dX10_outs_1 : decode cX10_outs 1 = .ok (.getfield 26, 3) := by decide +kernel
theorem dX10_outs_4 : decode cX10_outs 4 = .ok (.getfield 135, 3) := by decide +kernel
theorem dX10_outs_7 : decode cX10_outs 7 = .ok (.ireturn, 1) := by decide +kernel
theorem dX10_out_0 : decode cX10_out 0 = .ok (.aload_n 0, 1) := by decide +kernel
theorem dX10_out_1 : decode cX10_out 1 = .ok (.getfield 26, 3) := by decide +kernel
theorem dX10_out_4 : decode cX10_out 4 = .ok (.iload_n 1, 1) := by decide +kernel
theorem dX10_out_5 : decode cX10_out 5 = .ok (.invokevirtual 138, 3) := by decide +kernel
theorem dX10_out_8 : decode cX10_out 8 = .ok (.ifCond .ne 13, 3) := by decide +kernel
theorem dX10_out_11 : decode cX10_out 11 = .ok (.new 122, 3) := by decide +kernel
theorem dX10_out_14 : decode cX10_out 14 = .ok (.dup, 1) := by decide +kernel
theorem dX10_out_15 : decode cX10_out 15 = .ok (.ldc 142, 2) := by decide +kernel
theorem dX10_out_17 : decode cX10_out 17 = .ok (.invokespecial 126, 3) := by decide +kernel
theorem dX10_out_20 : decode cX10_out 20 = .ok (.athrow, 1) := by decide +kernel
theorem dX10_out_21 : decode cX10_out 21 = .ok (.aload_n 0, 1) := by decide +kernel
theorem dX10_out_22 : decode cX10_out 22 = .ok (.getfield 26, 3) := by decide +kernel
theorem dX10_out_25 : decode cX10_out 25 = .ok (.iload_n 1, 1) := by decide +kernel
theorem dX10_out_26 : decode cX10_out 26 = .ok (.invokevirtual 144, 3) := by decide +kernel
theorem dX10_out_29 : decode cX10_out 29 = .ok (.ireturn, 1) := by decide +kernel
theorem dX10_count_0 : decode cX10_count 0 = .ok (.iload_n 1, 1) := by decide +kernel
theorem dX10_count_1 : decode cX10_count 1 = .ok (.tableswitch 122 0 6 #[43, 69, 77, 85, 93, 101, 106], 43) := by decide +kernel
theorem dX10_count_44 : decode cX10_count 44 = .ok (.aload_n 0, 1) := by decide +kernel
theorem dX10_count_45 : decode cX10_count 45 = .ok (.getfield 80, 3) := by decide +kernel
theorem dX10_count_48 : decode cX10_count 48 = .ok (.ifCond .eq 20, 3) := by decide +kernel
theorem dX10_count_51 : decode cX10_count 51 = .ok (.aload_n 0, 1) := by decide +kernel
theorem dX10_count_52 : decode cX10_count 52 = .ok (.getfield 116, 3) := by decide +kernel
theorem dX10_count_55 : decode cX10_count 55 = .ok (.ifCond .ne 13, 3) := by decide +kernel
theorem dX10_count_58 : decode cX10_count 58 = .ok (.aload_n 0, 1) := by decide +kernel
theorem dX10_count_59 : decode cX10_count 59 = .ok (.getfield 19, 3) := by decide +kernel
theorem dX10_count_62 : decode cX10_count 62 = .ok (.getfield 148, 3) := by decide +kernel
theorem dX10_count_65 : decode cX10_count 65 = .ok (.goto 4, 3) := by decide +kernel
theorem dX10_count_68 : decode cX10_count 68 = .ok (.iconst (-1), 1) := by decide +kernel
theorem dX10_count_69 : decode cX10_count 69 = .ok (.ireturn, 1) := by decide +kernel
theorem dX10_count_70 : decode cX10_count 70 = .ok (.aload_n 0, 1) := by decide +kernel
theorem dX10_count_71 : decode cX10_count 71 = .ok (.getfield 33, 3) := by decide +kernel
theorem dX10_count_74 : decode cX10_count 74 = .ok (.getfield 151, 3) := by decide +kernel
theorem dX10_count_77 : decode cX10_count 77 = .ok (.ireturn, 1) := by decide +kernel
theorem dX10_count_78 : decode cX10_count 78 = .ok (.aload_n 0, 1) := by decide +kernel
theorem dX10_count_79 : decode cX10_count 79 = .ok (.getfield 33, 3) := by decide +kernel
theorem dX10_count_82 : decode cX10_count 82 = .ok (.getfield 154, 3) := by decide +kernel
theorem dX10_count_85 : decode cX10_count 85 = .ok (.ireturn, 1) := by decide +kernel
theorem dX10_count_86 : decode cX10_count 86 = .ok (.aload_n 0, 1) := by decide +kernel
theorem dX10_count_87 : decode cX10_count 87 = .ok (.getfield 33, 3) := by decide +kernel
theorem dX10_count_90 : decode cX10_count 90 = .ok (.getfield 157, 3) := by decide +kernel
theorem dX10_count_93 : decode cX10_count 93 = .ok (.ireturn, 1) := by decide +kernel
theorem dX10_count_94 : decode cX10_count 94 = .ok (.aload_n 0, 1) := by decide +kernel
theorem dX10_count_95 : decode cX10_count 95 = .ok (.getfield 33, 3) := by decide +kernel
theorem dX10_count_98 : decode cX10_count 98 = .ok (.getfield 160, 3) := by decide +kernel
theorem dX10_count_101 : decode cX10_count 101 = .ok (.ireturn, 1) := by decide +kernel
theorem dX10_count_102 : decode cX10_count 102 = .ok (.aload_n 0, 1) := by decide +kernel
theorem dX10_count_103 : decode cX10_count 103 = .ok (.getfield 163, 3) := by decide +kernel
theorem dX10_count_106 : decode cX10_count 106 = .ok (.ireturn, 1) := by decide +kernel
theorem dX10_count_107 : decode cX10_count 107 = .ok (.aload_n 0, 1) := by decide +kernel
theorem dX10_count_108 : decode cX10_count 108 = .ok (.getfield 47, 3) := by decide +kernel
theorem dX10_count_111 : decode cX10_count 111 = .ok (.invokevirtual 166, 3) := by decide +kernel
theorem dX10_count_114 : decode cX10_count 114 = .ok (.ifCond .eq 7, 3) := by decide +kernel
theorem dX10_count_117 : decode cX10_count 117 = .ok (.iconst 1, 1) := by decide +kernel
theorem dX10_count_118 : decode cX10_count 118 = .ok (.goto 4, 3) := by decide +kernel
theorem dX10_count_121 : decode cX10_count 121 = .ok (.iconst 0, 1) := by decide +kernel
theorem dX10_count_122 : decode cX10_count 122 = .ok (.ireturn, 1) := by decide +kernel
theorem dX10_count_123 : decode cX10_count 123 = .ok (.new 122, 3) := by decide +kernel
theorem dX10_count_126 : decode cX10_count 126 = .ok (.dup, 1) := by decide +kernel
theorem dX10_count_127 : decode cX10_count 127 = .ok (.ldc 169, 2) := by decide +kernel
theorem dX10_count_129 : decode cX10_count 129 = .ok (.invokespecial 126, 3) := by decide +kernel
theorem dX10_count_132 : decode cX10_count 132 = .ok (.athrow, 1) := by decide +kernel
theorem dX10_place_0 : decode cX10_place 0 = .ok (.iload_n 1, 1) := by decide +kernel
theorem dX10_place_1 : decode cX10_place 1 = .ok (.ifCond .lt 23, 3) := by decide +kernel
theorem dX10_place_4 : decode cX10_place 4 = .ok (.iload_n 1, 1) := by decide +kernel
theorem dX10_place_5 : decode cX10_place 5 = .ok (.aload_n 0, 1) := by decide +kernel
theorem dX10_place_6 : decode cX10_place 6 = .ok (.getfield 12, 3) := by decide +kernel
theorem dX10_place_9 : decode cX10_place 9 = .ok (.getfield 84, 3) := by decide +kernel
theorem dX10_place_12 : decode cX10_place 12 = .ok (.if_icmp .ge 12, 3) := by decide +kernel
theorem dX10_place_15 : decode cX10_place 15 = .ok (.iload_n 2, 1) := by decide +kernel
theorem dX10_place_16 : decode cX10_place 16 = .ok (.ifCond .lt 8, 3) := by decide +kernel
theorem dX10_place_19 : decode cX10_place 19 = .ok (.iload_n 2, 1) := by decide +kernel
theorem dX10_place_20 : decode cX10_place 20 = .ok (.iconst 1, 1) := by decide +kernel
theorem dX10_place_21 : decode cX10_place 21 = .ok (.if_icmp .le 13, 3) := by decide +kernel
theorem dX10_place_24 : decode cX10_place 24 = .ok (.new 122, 3) := by decide +kernel
theorem dX10_place_27 : decode cX10_place 27 = .ok (.dup, 1) := by decide +kernel
theorem dX10_place_28 : decode cX10_place 28 = .ok (.ldc 171, 2) := by decide +kernel
theorem dX10_place_30 : decode cX10_place 30 = .ok (.invokespecial 126, 3) := by decide +kernel
theorem dX10_place_33 : decode cX10_place 33 = .ok (.athrow, 1) := by decide +kernel
theorem dX10_place_34 : decode cX10_place 34 = .ok (.iload_n 2, 1) := by decide +kernel
theorem dX10_place_35 : decode cX10_place 35 = .ok (.ifCond .ne 15, 3) := by decide +kernel
theorem dX10_place_38 : decode cX10_place 38 = .ok (.aload_n 0, 1) := by decide +kernel
theorem dX10_place_39 : decode cX10_place 39 = .ok (.getfield 40, 3) := by decide +kernel
theorem dX10_place_42 : decode cX10_place 42 = .ok (.getfield 173, 3) := by decide +kernel
theorem dX10_place_45 : decode cX10_place 45 = .ok (.iload_n 1, 1) := by decide +kernel
theorem dX10_place_46 : decode cX10_place 46 = .ok (.iaload, 1) := by decide +kernel
theorem dX10_place_47 : decode cX10_place 47 = .ok (.goto 12, 3) := by decide +kernel
theorem dX10_place_50 : decode cX10_place 50 = .ok (.aload_n 0, 1) := by decide +kernel
theorem dX10_place_51 : decode cX10_place 51 = .ok (.getfield 40, 3) := by decide +kernel
theorem dX10_place_54 : decode cX10_place 54 = .ok (.getfield 176, 3) := by decide +kernel
theorem dX10_place_57 : decode cX10_place 57 = .ok (.iload_n 1, 1) := by decide +kernel
theorem dX10_place_58 : decode cX10_place 58 = .ok (.iaload, 1) := by decide +kernel
theorem dX10_place_59 : decode cX10_place 59 = .ok (.ireturn, 1) := by decide +kernel
theorem dX10_trace_0 : decode cX10_trace 0 = .ok (.iload_n 1, 1) := by decide +kernel
theorem dX10_trace_1 : decode cX10_trace 1 = .ok (.ifCond .lt 11, 3) := by decide +kernel
theorem dX10_trace_4 : decode cX10_trace 4 = .ok (.iload_n 1, 1) := by decide +kernel
theorem dX10_trace_5 : decode cX10_trace 5 = .ok (.aload_n 0, 1) := by decide +kernel
theorem dX10_trace_6 : decode cX10_trace 6 = .ok (.getfield 163, 3) := by decide +kernel
theorem dX10_trace_9 : decode cX10_trace 9 = .ok (.if_icmp .lt 13, 3) := by decide +kernel
theorem dX10_trace_12 : decode cX10_trace 12 = .ok (.new 122, 3) := by decide +kernel
theorem dX10_trace_15 : decode cX10_trace 15 = .ok (.dup, 1) := by decide +kernel
theorem dX10_trace_16 : decode cX10_trace 16 = .ok (.ldc 179, 2) := by decide +kernel
theorem dX10_trace_18 : decode cX10_trace 18 = .ok (.invokespecial 126, 3) := by decide +kernel
theorem dX10_trace_21 : decode cX10_trace 21 = .ok (.athrow, 1) := by decide +kernel
theorem dX10_trace_22 : decode cX10_trace 22 = .ok (.aload_n 0, 1) := by decide +kernel
theorem dX10_trace_23 : decode cX10_trace 23 = .ok (.getfield 60, 3) := by decide +kernel
theorem dX10_trace_26 : decode cX10_trace 26 = .ok (.iload_n 1, 1) := by decide +kernel
theorem dX10_trace_27 : decode cX10_trace 27 = .ok (.aaload, 1) := by decide +kernel
theorem dX10_trace_28 : decode cX10_trace 28 = .ok (.astore_n 3, 1) := by decide +kernel
theorem dX10_trace_29 : decode cX10_trace 29 = .ok (.iload_n 2, 1) := by decide +kernel
theorem dX10_trace_30 : decode cX10_trace 30 = .ok (.tableswitch 71 0 5 #[38, 43, 48, 53, 61, 66], 38) := by decide +kernel
theorem dX10_trace_68 : decode cX10_trace 68 = .ok (.aload_n 3, 1) := by decide +kernel
theorem dX10_trace_69 : decode cX10_trace 69 = .ok (.getfield 181, 3) := by decide +kernel
theorem dX10_trace_72 : decode cX10_trace 72 = .ok (.ireturn, 1) := by decide +kernel
theorem dX10_trace_73 : decode cX10_trace 73 = .ok (.aload_n 3, 1) := by decide +kernel
theorem dX10_trace_74 : decode cX10_trace 74 = .ok (.getfield 184, 3) := by decide +kernel
theorem dX10_trace_77 : decode cX10_trace 77 = .ok (.ireturn, 1) := by decide +kernel
theorem dX10_trace_78 : decode cX10_trace 78 = .ok (.aload_n 3, 1) := by decide +kernel
theorem dX10_trace_79 : decode cX10_trace 79 = .ok (.invokevirtual 187, 3) := by decide +kernel
theorem dX10_trace_82 : decode cX10_trace 82 = .ok (.ireturn, 1) := by decide +kernel
theorem dX10_trace_83 : decode cX10_trace 83 = .ok (.aload_n 3, 1) := by decide +kernel
theorem dX10_trace_84 : decode cX10_trace 84 = .ok (.getfield 191, 3) := by decide +kernel
theorem dX10_trace_87 : decode cX10_trace 87 = .ok (.getfield 195, 3) := by decide +kernel
theorem dX10_trace_90 : decode cX10_trace 90 = .ok (.ireturn, 1) := by decide +kernel
theorem dX10_trace_91 : decode cX10_trace 91 = .ok (.aload_n 3, 1) := by decide +kernel
theorem dX10_trace_92 : decode cX10_trace 92 = .ok (.getfield 198, 3) := by decide +kernel
theorem dX10_trace_95 : decode cX10_trace 95 = .ok (.ireturn, 1) := by decide +kernel
theorem dX10_trace_96 : decode cX10_trace 96 = .ok (.aload_n 3, 1) := by decide +kernel
theorem dX10_trace_97 : decode cX10_trace 97 = .ok (.invokevirtual 201, 3) := by decide +kernel
theorem dX10_trace_100 : decode cX10_trace 100 = .ok (.ireturn, 1) := by decide +kernel
theorem dX10_trace_101 : decode cX10_trace 101 = .ok (.new 122, 3) := by decide +kernel
theorem dX10_trace_104 : decode cX10_trace 104 = .ok (.dup, 1) := by decide +kernel
theorem dX10_trace_105 : decode cX10_trace 105 = .ok (.ldc 204, 2) := by decide +kernel
theorem dX10_trace_107 : decode cX10_trace 107 = .ok (.invokespecial 126, 3) := by decide +kernel
theorem dX10_trace_110 : decode cX10_trace 110 = .ok (.athrow, 1) := by decide +kernel
theorem dX10_forgetProgram_0 : decode cX10_forgetProgram 0 = .ok (.aload_n 0, 1) := by decide +kernel
theorem dX10_forgetProgram_1 : decode cX10_forgetProgram 1 = .ok (.getfield 19, 3) := by decide +kernel
theorem dX10_forgetProgram_4 : decode cX10_forgetProgram 4 = .ok (.invokevirtual 206, 3) := by decide +kernel
theorem dX10_forgetProgram_7 : decode cX10_forgetProgram 7 = .ok (.aload_n 0, 1) := by decide +kernel
theorem dX10_forgetProgram_8 : decode cX10_forgetProgram 8 = .ok (.getfield 26, 3) := by decide +kernel
theorem dX10_forgetProgram_11 : decode cX10_forgetProgram 11 = .ok (.invokevirtual 209, 3) := by decide +kernel
theorem dX10_forgetProgram_14 : decode cX10_forgetProgram 14 = .ok (.aload_n 0, 1) := by decide +kernel
theorem dX10_forgetProgram_15 : decode cX10_forgetProgram 15 = .ok (.getfield 33, 3) := by decide +kernel
theorem dX10_forgetProgram_18 : decode cX10_forgetProgram 18 = .ok (.invokevirtual 210, 3) := by decide +kernel
theorem dX10_forgetProgram_21 : decode cX10_forgetProgram 21 = .ok (.aload_n 0, 1) := by decide +kernel
theorem dX10_forgetProgram_22 : decode cX10_forgetProgram 22 = .ok (.getfield 40, 3) := by decide +kernel
theorem dX10_forgetProgram_25 : decode cX10_forgetProgram 25 = .ok (.invokevirtual 211, 3) := by decide +kernel
theorem dX10_forgetProgram_28 : decode cX10_forgetProgram 28 = .ok (.aload_n 0, 1) := by decide +kernel
theorem dX10_forgetProgram_29 : decode cX10_forgetProgram 29 = .ok (.getfield 47, 3) := by decide +kernel
theorem dX10_forgetProgram_32 : decode cX10_forgetProgram 32 = .ok (.invokevirtual 212, 3) := by decide +kernel
theorem dX10_forgetProgram_35 : decode cX10_forgetProgram 35 = .ok (.aload_n 0, 1) := by decide +kernel
theorem dX10_forgetProgram_36 : decode cX10_forgetProgram 36 = .ok (.iconst 0, 1) := by decide +kernel
theorem dX10_forgetProgram_37 : decode cX10_forgetProgram 37 = .ok (.putfield 163, 3) := by decide +kernel
theorem dX10_forgetProgram_40 : decode cX10_forgetProgram 40 = .ok (.aload_n 0, 1) := by decide +kernel
theorem dX10_forgetProgram_41 : decode cX10_forgetProgram 41 = .ok (.iconst 0, 1) := by decide +kernel
theorem dX10_forgetProgram_42 : decode cX10_forgetProgram 42 = .ok (.putfield 116, 3) := by decide +kernel
theorem dX10_forgetProgram_45 : decode cX10_forgetProgram 45 = .ok (.aload_n 0, 1) := by decide +kernel
theorem dX10_forgetProgram_46 : decode cX10_forgetProgram 46 = .ok (.iconst (-1), 1) := by decide +kernel
theorem dX10_forgetProgram_47 : decode cX10_forgetProgram 47 = .ok (.putfield 65, 3) := by decide +kernel
theorem dX10_forgetProgram_50 : decode cX10_forgetProgram 50 = .ok (.return_, 1) := by decide +kernel
theorem dX10_step_0 : decode cX10_step 0 = .ok (.aload_n 0, 1) := by decide +kernel
theorem dX10_step_1 : decode cX10_step 1 = .ok (.getfield 47, 3) := by decide +kernel
theorem dX10_step_4 : decode cX10_step 4 = .ok (.invokevirtual 166, 3) := by decide +kernel
theorem dX10_step_7 : decode cX10_step 7 = .ok (.ifCond .eq 7, 3) := by decide +kernel
theorem dX10_step_10 : decode cX10_step 10 = .ok (.iconst (-1), 1) := by decide +kernel
theorem dX10_step_11 : decode cX10_step 11 = .ok (.goto 18, 3) := by decide +kernel
theorem dX10_step_14 : decode cX10_step 14 = .ok (.aload_n 0, 1) := by decide +kernel
theorem dX10_step_15 : decode cX10_step 15 = .ok (.getfield 40, 3) := by decide +kernel
theorem dX10_step_18 : decode cX10_step 18 = .ok (.getfield 215, 3) := by decide +kernel
theorem dX10_step_21 : decode cX10_step 21 = .ok (.aload_n 0, 1) := by decide +kernel
theorem dX10_step_22 : decode cX10_step 22 = .ok (.getfield 19, 3) := by decide +kernel
theorem dX10_step_25 : decode cX10_step 25 = .ok (.getfield 148, 3) := by decide +kernel
theorem dX10_step_28 : decode cX10_step 28 = .ok (.iaload, 1) := by decide +kernel
theorem dX10_step_29 : decode cX10_step 29 = .ok (.istore_n 1, 1) := by decide +kernel
theorem dX10_step_30 : decode cX10_step 30 = .ok (.iload_n 1, 1) := by decide +kernel
theorem dX10_step_31 : decode cX10_step 31 = .ok (.iconst (-1), 1) := by decide +kernel
theorem dX10_step_32 : decode cX10_step 32 = .ok (.if_icmp .ne 10, 3) := by decide +kernel
theorem dX10_step_35 : decode cX10_step 35 = .ok (.aload_n 0, 1) := by decide +kernel
theorem dX10_step_36 : decode cX10_step 36 = .ok (.invokevirtual 218, 3) := by decide +kernel
theorem dX10_step_39 : decode cX10_step 39 = .ok (.goto 8, 3) := by decide +kernel
theorem dX10_step_42 : decode cX10_step 42 = .ok (.aload_n 0, 1) := by decide +kernel
theorem dX10_step_43 : decode cX10_step 43 = .ok (.iload_n 1, 1) := by decide +kernel
theorem dX10_step_44 : decode cX10_step 44 = .ok (.invokevirtual 221, 3) := by decide +kernel
theorem dX10_step_47 : decode cX10_step 47 = .ok (.aload_n 0, 1) := by decide +kernel
theorem dX10_step_48 : decode cX10_step 48 = .ok (.getfield 47, 3) := by decide +kernel
theorem dX10_step_51 : decode cX10_step 51 = .ok (.aload_n 0, 1) := by decide +kernel
theorem dX10_step_52 : decode cX10_step 52 = .ok (.getfield 19, 3) := by decide +kernel
theorem dX10_step_55 : decode cX10_step 55 = .ok (.getfield 148, 3) := by decide +kernel
theorem dX10_step_58 : decode cX10_step 58 = .ok (.invokevirtual 225, 3) := by decide +kernel
theorem dX10_step_61 : decode cX10_step 61 = .ok (.ifCond .eq 7, 3) := by decide +kernel
theorem dX10_step_64 : decode cX10_step 64 = .ok (.aload_n 0, 1) := by decide +kernel
theorem dX10_step_65 : decode cX10_step 65 = .ok (.invokevirtual 228, 3) := by decide +kernel
theorem dX10_step_68 : decode cX10_step 68 = .ok (.return_, 1) := by decide +kernel
theorem dX10_takeTurn_0 : decode cX10_takeTurn 0 = .ok (.aload_n 0, 1) := by decide +kernel
theorem dX10_takeTurn_1 : decode cX10_takeTurn 1 = .ok (.getfield 60, 3) := by decide +kernel
theorem dX10_takeTurn_4 : decode cX10_takeTurn 4 = .ok (.iload_n 1, 1) := by decide +kernel
theorem dX10_takeTurn_5 : decode cX10_takeTurn 5 = .ok (.aaload, 1) := by decide +kernel
theorem dX10_takeTurn_6 : decode cX10_takeTurn 6 = .ok (.astore_n 2, 1) := by decide +kernel
theorem dX10_takeTurn_7 : decode cX10_takeTurn 7 = .ok (.aload_n 2, 1) := by decide +kernel
theorem dX10_takeTurn_8 : decode cX10_takeTurn 8 = .ok (.getfield 231, 3) := by decide +kernel
theorem dX10_takeTurn_11 : decode cX10_takeTurn 11 = .ok (.aload_n 0, 1) := by decide +kernel
theorem dX10_takeTurn_12 : decode cX10_takeTurn 12 = .ok (.getfield 19, 3) := by decide +kernel
theorem dX10_takeTurn_15 : decode cX10_takeTurn 15 = .ok (.getfield 105, 3) := by decide +kernel
theorem dX10_takeTurn_18 : decode cX10_takeTurn 18 = .ok (.invokevirtual 235, 3) := by decide +kernel
theorem dX10_takeTurn_21 : decode cX10_takeTurn 21 = .ok (.iload_n 1, 1) := by decide +kernel
theorem dX10_takeTurn_22 : decode cX10_takeTurn 22 = .ok (.aload_n 0, 1) := by decide +kernel
theorem dX10_takeTurn_23 : decode cX10_takeTurn 23 = .ok (.getfield 65, 3) := by decide +kernel
theorem dX10_takeTurn_26 : decode cX10_takeTurn 26 = .ok (.if_icmp .eq 11, 3) := by decide +kernel
theorem dX10_takeTurn_29 : decode cX10_takeTurn 29 = .ok (.aload_n 2, 1) := by decide +kernel
theorem dX10_takeTurn_30 : decode cX10_takeTurn 30 = .ok (.aload_n 0, 1) := by decide +kernel
theorem dX10_takeTurn_31 : decode cX10_takeTurn 31 = .ok (.getfield 33, 3) := by decide +kernel
theorem dX10_takeTurn_34 : decode cX10_takeTurn 34 = .ok (.invokevirtual 241, 3) := by decide +kernel
theorem dX10_takeTurn_37 : decode cX10_takeTurn 37 = .ok (.aload_n 2, 1) := by decide +kernel
theorem dX10_takeTurn_38 : decode cX10_takeTurn 38 = .ok (.aload_n 0, 1) := by decide +kernel
theorem dX10_takeTurn_39 : decode cX10_takeTurn 39 = .ok (.getfield 19, 3) := by decide +kernel
theorem dX10_takeTurn_42 : decode cX10_takeTurn 42 = .ok (.aload_n 0, 1) := by decide +kernel
theorem dX10_takeTurn_43 : decode cX10_takeTurn 43 = .ok (.getfield 26, 3) := by decide +kernel
theorem dX10_takeTurn_46 : decode cX10_takeTurn 46 = .ok (.aload_n 0, 1) := by decide +kernel
theorem dX10_takeTurn_47 : decode cX10_takeTurn 47 = .ok (.getfield 33, 3) := by decide +kernel
theorem dX10_takeTurn_50 : decode cX10_takeTurn 50 = .ok (.invokevirtual 245, 3) := by decide +kernel
theorem dX10_takeTurn_53 : decode cX10_takeTurn 53 = .ok (.istore_n 3, 1) := by decide +kernel
theorem dX10_takeTurn_54 : decode cX10_takeTurn 54 = .ok (.iload_n 3, 1) := by decide +kernel
theorem dX10_takeTurn_55 : decode cX10_takeTurn 55 = .ok (.ifCond .eq 19, 3) := by decide +kernel
theorem dX10_takeTurn_58 : decode cX10_takeTurn 58 = .ok (.aload_n 0, 1) := by decide +kernel
theorem dX10_takeTurn_59 : decode cX10_takeTurn 59 = .ok (.getfield 33, 3) := by decide +kernel
theorem dX10_takeTurn_62 : decode cX10_takeTurn 62 = .ok (.dup, 1) := by decide +kernel
theorem dX10_takeTurn_63 : decode cX10_takeTurn 63 = .ok (.getfield 154, 3) := by decide +kernel
theorem dX10_takeTurn_66 : decode cX10_takeTurn 66 = .ok (.iconst 1, 1) := by decide +kernel
theorem dX10_takeTurn_67 : decode cX10_takeTurn 67 = .ok (.iadd, 1) := by decide +kernel
theorem dX10_takeTurn_68 : decode cX10_takeTurn 68 = .ok (.putfield 154, 3) := by decide +kernel
theorem dX10_takeTurn_71 : decode cX10_takeTurn 71 = .ok (.goto 16, 3) := by decide +kernel
theorem dX10_takeTurn_74 : decode cX10_takeTurn 74 = .ok (.aload_n 0, 1) := by decide +kernel
theorem dX10_takeTurn_75 : decode cX10_takeTurn 75 = .ok (.getfield 33, 3) := by decide +kernel
theorem dX10_takeTurn_78 : decode cX10_takeTurn 78 = .ok (.dup, 1) := by decide +kernel
theorem dX10_takeTurn_79 : decode cX10_takeTurn 79 = .ok (.getfield 157, 3) := by decide +kernel
theorem dX10_takeTurn_82 : decode cX10_takeTurn 82 = .ok (.iconst 1, 1) := by decide +kernel
theorem dX10_takeTurn_83 : decode cX10_takeTurn 83 = .ok (.iadd, 1) := by decide +kernel
theorem dX10_takeTurn_84 : decode cX10_takeTurn 84 = .ok (.putfield 157, 3) := by decide +kernel
theorem dX10_takeTurn_87 : decode cX10_takeTurn 87 = .ok (.aload_n 0, 1) := by decide +kernel
theorem dX10_takeTurn_88 : decode cX10_takeTurn 88 = .ok (.iload_n 3, 1) := by decide +kernel
theorem dX10_takeTurn_89 : decode cX10_takeTurn 89 = .ok (.ifCond .eq 7, 3) := by decide +kernel
theorem dX10_takeTurn_92 : decode cX10_takeTurn 92 = .ok (.iload_n 1, 1) := by decide +kernel
theorem dX10_takeTurn_93 : decode cX10_takeTurn 93 = .ok (.goto 4, 3) := by decide +kernel
theorem dX10_takeTurn_96 : decode cX10_takeTurn 96 = .ok (.iconst (-1), 1) := by decide +kernel
theorem dX10_takeTurn_97 : decode cX10_takeTurn 97 = .ok (.putfield 65, 3) := by decide +kernel
theorem dX10_takeTurn_100 : decode cX10_takeTurn 100 = .ok (.return_, 1) := by decide +kernel
theorem dX10_interpret_0 : decode cX10_interpret 0 = .ok (.aload_n 0, 1) := by decide +kernel
theorem dX10_interpret_1 : decode cX10_interpret 1 = .ok (.getfield 47, 3) := by decide +kernel
theorem dX10_interpret_4 : decode cX10_interpret 4 = .ok (.invokevirtual 249, 3) := by decide +kernel
theorem dX10_interpret_7 : decode cX10_interpret 7 = .ok (.ifCond .eq 7, 3) := by decide +kernel
theorem dX10_interpret_10 : decode cX10_interpret 10 = .ok (.aload_n 0, 1) := by decide +kernel
theorem dX10_interpret_11 : decode cX10_interpret 11 = .ok (.invokevirtual 252, 3) := by decide +kernel
theorem dX10_interpret_14 : decode cX10_interpret 14 = .ok (.aload_n 0, 1) := by decide +kernel
theorem dX10_interpret_15 : decode cX10_interpret 15 = .ok (.getfield 19, 3) := by decide +kernel
theorem dX10_interpret_18 : decode cX10_interpret 18 = .ok (.getfield 148, 3) := by decide +kernel
theorem dX10_interpret_21 : decode cX10_interpret 21 = .ok (.istore_n 1, 1) := by decide +kernel
theorem dX10_interpret_22 : decode cX10_interpret 22 = .ok (.aload_n 0, 1) := by decide +kernel
theorem dX10_interpret_23 : decode cX10_interpret 23 = .ok (.aload_n 0, 1) := by decide +kernel
theorem dX10_interpret_24 : decode cX10_interpret 24 = .ok (.getfield 12, 3) := by decide +kernel
theorem dX10_interpret_27 : decode cX10_interpret 27 = .ok (.getfield 255, 3) := by decide +kernel
theorem dX10_interpret_30 : decode cX10_interpret 30 = .ok (.iload_n 1, 1) := by decide +kernel
theorem dX10_interpret_31 : decode cX10_interpret 31 = .ok (.iaload, 1) := by decide +kernel
theorem dX10_interpret_32 : decode cX10_interpret 32 = .ok (.aload_n 0, 1) := by decide +kernel
theorem dX10_interpret_33 : decode cX10_interpret 33 = .ok (.getfield 12, 3) := by decide +kernel
theorem dX10_interpret_36 : decode cX10_interpret 36 = .ok (.getfield 258, 3) := by decide +kernel
theorem dX10_interpret_39 : decode cX10_interpret 39 = .ok (.iload_n 1, 1) := by decide +kernel
theorem dX10_interpret_40 : decode cX10_interpret 40 = .ok (.iaload, 1) := by decide +kernel
theorem dX10_interpret_41 : decode cX10_interpret 41 = .ok (.invokevirtual 261, 3) := by decide +kernel
theorem dX10_interpret_44 : decode cX10_interpret 44 = .ok (.istore_n 2, 1) := by decide +kernel
theorem dX10_interpret_45 : decode cX10_interpret 45 = .ok (.aload_n 0, 1) := by decide +kernel
theorem dX10_interpret_46 : decode cX10_interpret 46 = .ok (.getfield 33, 3) := by decide +kernel
theorem dX10_interpret_49 : decode cX10_interpret 49 = .ok (.dup, 1) := by decide +kernel
theorem dX10_interpret_50 : decode cX10_interpret 50 = .ok (.getfield 151, 3) := by decide +kernel
theorem dX10_interpret_53 : decode cX10_interpret 53 = .ok (.iconst 1, 1) := by decide +kernel
theorem dX10_interpret_54 : decode cX10_interpret 54 = .ok (.iadd, 1) := by decide +kernel
theorem dX10_interpret_55 : decode cX10_interpret 55 = .ok (.putfield 151, 3) := by decide +kernel
theorem dX10_interpret_58 : decode cX10_interpret 58 = .ok (.aload_n 0, 1) := by decide +kernel
theorem dX10_interpret_59 : decode cX10_interpret 59 = .ok (.iconst (-1), 1) := by decide +kernel
theorem dX10_interpret_60 : decode cX10_interpret 60 = .ok (.putfield 65, 3) := by decide +kernel
theorem dX10_interpret_63 : decode cX10_interpret 63 = .ok (.aload_n 0, 1) := by decide +kernel
theorem dX10_interpret_64 : decode cX10_interpret 64 = .ok (.getfield 47, 3) := by decide +kernel
theorem dX10_interpret_67 : decode cX10_interpret 67 = .ok (.invokevirtual 166, 3) := by decide +kernel
theorem dX10_interpret_70 : decode cX10_interpret 70 = .ok (.ifCond .eq 15, 3) := by decide +kernel
theorem dX10_interpret_73 : decode cX10_interpret 73 = .ok (.aload_n 0, 1) := by decide +kernel
theorem dX10_interpret_74 : decode cX10_interpret 74 = .ok (.getfield 47, 3) := by decide +kernel
theorem dX10_interpret_77 : decode cX10_interpret 77 = .ok (.iload_n 1, 1) := by decide +kernel
theorem dX10_interpret_78 : decode cX10_interpret 78 = .ok (.iload_n 2, 1) := by decide +kernel
theorem dX10_interpret_79 : decode cX10_interpret 79 = .ok (.invokevirtual 264, 3) := by decide +kernel
theorem dX10_interpret_82 : decode cX10_interpret 82 = .ok (.goto 36, 3) := by decide +kernel
theorem dX10_interpret_85 : decode cX10_interpret 85 = .ok (.aload_n 0, 1) := by decide +kernel
theorem dX10_interpret_86 : decode cX10_interpret 86 = .ok (.getfield 109, 3) := by decide +kernel
theorem dX10_interpret_89 : decode cX10_interpret 89 = .ok (.ifCond .eq 29, 3) := by decide +kernel
theorem dX10_interpret_92 : decode cX10_interpret 92 = .ok (.iload_n 2, 1) := by decide +kernel
theorem dX10_interpret_93 : decode cX10_interpret 93 = .ok (.ifCond .eq 25, 3) := by decide +kernel
theorem dX10_interpret_96 : decode cX10_interpret 96 = .ok (.aload_n 0, 1) := by decide +kernel
theorem dX10_interpret_97 : decode cX10_interpret 97 = .ok (.getfield 19, 3) := by decide +kernel
theorem dX10_interpret_100 : decode cX10_interpret 100 = .ok (.getfield 148, 3) := by decide +kernel
theorem dX10_interpret_103 : decode cX10_interpret 103 = .ok (.iload_n 1, 1) := by decide +kernel
theorem dX10_interpret_104 : decode cX10_interpret 104 = .ok (.if_icmp .gt 14, 3) := by decide +kernel
theorem dX10_interpret_107 : decode cX10_interpret 107 = .ok (.aload_n 0, 1) := by decide +kernel
theorem dX10_interpret_108 : decode cX10_interpret 108 = .ok (.aload_n 0, 1) := by decide +kernel
theorem dX10_interpret_109 : decode cX10_interpret 109 = .ok (.getfield 19, 3) := by decide +kernel
theorem dX10_interpret_112 : decode cX10_interpret 112 = .ok (.getfield 148, 3) := by decide +kernel
theorem dX10_interpret_115 : decode cX10_interpret 115 = .ok (.invokevirtual 268, 3) := by decide +kernel
theorem dX10_interpret_118 : decode cX10_interpret 118 = .ok (.return_, 1) := by decide +kernel
theorem dX10_execute_0 : decode cX10_execute 0 = .ok (.aload_n 0, 1) := by decide +kernel
theorem dX10_execute_1 : decode cX10_execute 1 = .ok (.getfield 19, 3) := by decide +kernel
theorem dX10_execute_4 : decode cX10_execute 4 = .ok (.dup, 1) := by decide +kernel
theorem dX10_execute_5 : decode cX10_execute 5 = .ok (.getfield 148, 3) := by decide +kernel
theorem dX10_execute_8 : decode cX10_execute 8 = .ok (.iconst 1, 1) := by decide +kernel
theorem dX10_execute_9 : decode cX10_execute 9 = .ok (.iadd, 1) := by decide +kernel
theorem dX10_execute_10 : decode cX10_execute 10 = .ok (.putfield 148, 3) := by decide +kernel
theorem dX10_execute_13 : decode cX10_execute 13 = .ok (.iload_n 1, 1) := by decide +kernel
theorem dX10_execute_14 : decode cX10_execute 14 = .ok (.tableswitch 196 0 15 #[78, 196, 196, 88, 88, 88, 88, 88, 88, 196, 196, 196, 121, 137, 147, 190], 78) := by decide +kernel
theorem dX10_execute_92 : decode cX10_execute 92 = .ok (.aload_n 0, 1) := by decide +kernel
theorem dX10_execute_93 : decode cX10_execute 93 = .ok (.getfield 19, 3) := by decide +kernel
theorem dX10_execute_96 : decode cX10_execute 96 = .ok (.iload_n 2, 1) := by decide +kernel
theorem dX10_execute_97 : decode cX10_execute 97 = .ok (.invokevirtual 271, 3) := by decide +kernel
theorem dX10_execute_100 : decode cX10_execute 100 = .ok (.iconst 0, 1) := by decide +kernel
theorem dX10_execute_101 : decode cX10_execute 101 = .ok (.ireturn, 1) := by decide +kernel
theorem dX10_execute_102 : decode cX10_execute 102 = .ok (.aload_n 0, 1) := by decide +kernel
theorem dX10_execute_103 : decode cX10_execute 103 = .ok (.getfield 19, 3) := by decide +kernel
theorem dX10_execute_106 : decode cX10_execute 106 = .ok (.invokevirtual 274, 3) := by decide +kernel
theorem dX10_execute_109 : decode cX10_execute 109 = .ok (.istore_n 3, 1) := by decide +kernel
theorem dX10_execute_110 : decode cX10_execute 110 = .ok (.aload_n 0, 1) := by decide +kernel
theorem dX10_execute_111 : decode cX10_execute 111 = .ok (.getfield 19, 3) := by decide +kernel
theorem dX10_execute_114 : decode cX10_execute 114 = .ok (.invokevirtual 274, 3) := by decide +kernel
theorem dX10_execute_117 : decode cX10_execute 117 = .ok (.istore 4, 2) := by decide +kernel
theorem dX10_execute_119 : decode cX10_execute 119 = .ok (.aload_n 0, 1) := by decide +kernel
theorem dX10_execute_120 : decode cX10_execute 120 = .ok (.getfield 19, 3) := by decide +kernel
theorem dX10_execute_123 : decode cX10_execute 123 = .ok (.iload_n 1, 1) := by decide +kernel
theorem dX10_execute_124 : decode cX10_execute 124 = .ok (.iload 4, 2) := by decide +kernel
theorem dX10_execute_126 : decode cX10_execute 126 = .ok (.iload_n 3, 1) := by decide +kernel
theorem dX10_execute_127 : decode cX10_execute 127 = .ok (.invokestatic 277, 3) := by decide +kernel
theorem dX10_execute_130 : decode cX10_execute 130 = .ok (.invokevirtual 271, 3) := by decide +kernel
theorem dX10_execute_133 : decode cX10_execute 133 = .ok (.iconst 0, 1) := by decide +kernel
theorem dX10_execute_134 : decode cX10_execute 134 = .ok (.ireturn, 1) := by decide +kernel
theorem dX10_execute_135 : decode cX10_execute 135 = .ok (.aload_n 0, 1) := by decide +kernel
theorem dX10_execute_136 : decode cX10_execute 136 = .ok (.getfield 26, 3) := by decide +kernel
theorem dX10_execute_139 : decode cX10_execute 139 = .ok (.aload_n 0, 1) := by decide +kernel
theorem dX10_execute_140 : decode cX10_execute 140 = .ok (.getfield 19, 3) := by decide +kernel
theorem dX10_execute_143 : decode cX10_execute 143 = .ok (.invokevirtual 274, 3) := by decide +kernel
theorem dX10_execute_146 : decode cX10_execute 146 = .ok (.invokevirtual 281, 3) := by decide +kernel
theorem dX10_execute_149 : decode cX10_execute 149 = .ok (.iconst 0, 1) := by decide +kernel
theorem dX10_execute_150 : decode cX10_execute 150 = .ok (.ireturn, 1) := by decide +kernel
theorem dX10_execute_151 : decode cX10_execute 151 = .ok (.aload_n 0, 1) := by decide +kernel
theorem dX10_execute_152 : decode cX10_execute 152 = .ok (.getfield 19, 3) := by decide +kernel
theorem dX10_execute_155 : decode cX10_execute 155 = .ok (.iload_n 2, 1) := by decide +kernel
theorem dX10_execute_156 : decode cX10_execute 156 = .ok (.putfield 148, 3) := by decide +kernel
theorem dX10_execute_159 : decode cX10_execute 159 = .ok (.iconst 1, 1) := by decide +kernel
theorem dX10_execute_160 : decode cX10_execute 160 = .ok (.ireturn, 1) := by decide +kernel
theorem dX10_execute_161 : decode cX10_execute 161 = .ok (.aload_n 0, 1) := by decide +kernel
theorem dX10_execute_162 : decode cX10_execute 162 = .ok (.getfield 19, 3) := by decide +kernel
theorem dX10_execute_165 : decode cX10_execute 165 = .ok (.invokevirtual 274, 3) := by decide +kernel
theorem dX10_execute_168 : decode cX10_execute 168 = .ok (.ifCond .eq 7, 3) := by decide +kernel
theorem dX10_execute_171 : decode cX10_execute 171 = .ok (.iconst 1, 1) := by decide +kernel
theorem dX10_execute_172 : decode cX10_execute 172 = .ok (.goto 4, 3) := by decide +kernel
theorem dX10_execute_175 : decode cX10_execute 175 = .ok (.iconst 0, 1) := by decide +kernel
theorem dX10_execute_176 : decode cX10_execute 176 = .ok (.istore 5, 2) := by decide +kernel
theorem dX10_execute_178 : decode cX10_execute 178 = .ok (.aload_n 0, 1) := by decide +kernel
theorem dX10_execute_179 : decode cX10_execute 179 = .ok (.getfield 19, 3) := by decide +kernel
theorem dX10_execute_182 : decode cX10_execute 182 = .ok (.iload 5, 2) := by decide +kernel
theorem dX10_execute_184 : decode cX10_execute 184 = .ok (.ifCond .eq 7, 3) := by decide +kernel
theorem dX10_execute_187 : decode cX10_execute 187 = .ok (.iload_n 2, 1) := by decide +kernel
theorem dX10_execute_188 : decode cX10_execute 188 = .ok (.goto 10, 3) := by decide +kernel
theorem dX10_execute_191 : decode cX10_execute 191 = .ok (.aload_n 0, 1) := by decide +kernel
theorem dX10_execute_192 : decode cX10_execute 192 = .ok (.getfield 19, 3) := by decide +kernel
theorem dX10_execute_195 : decode cX10_execute 195 = .ok (.getfield 148, 3) := by decide +kernel
theorem dX10_execute_198 : decode cX10_execute 198 = .ok (.putfield 148, 3) := by decide +kernel
theorem dX10_execute_201 : decode cX10_execute 201 = .ok (.iload 5, 2) := by decide +kernel
theorem dX10_execute_203 : decode cX10_execute 203 = .ok (.ireturn, 1) := by decide +kernel
theorem dX10_execute_204 : decode cX10_execute 204 = .ok (.aload_n 0, 1) := by decide +kernel
theorem dX10_execute_205 : decode cX10_execute 205 = .ok (.invokevirtual 284, 3) := by decide +kernel
theorem dX10_execute_208 : decode cX10_execute 208 = .ok (.iconst 0, 1) := by decide +kernel
theorem dX10_execute_209 : decode cX10_execute 209 = .ok (.ireturn, 1) := by decide +kernel
theorem dX10_execute_210 : decode cX10_execute 210 = .ok (.aload_n 0, 1) := by decide +kernel
theorem dX10_execute_211 : decode cX10_execute 211 = .ok (.getfield 19, 3) := by decide +kernel
theorem dX10_execute_214 : decode cX10_execute 214 = .ok (.iload_n 1, 1) := by decide +kernel
theorem dX10_execute_215 : decode cX10_execute 215 = .ok (.iload_n 2, 1) := by decide +kernel
theorem dX10_execute_216 : decode cX10_execute 216 = .ok (.invokevirtual 287, 3) := by decide +kernel
theorem dX10_execute_219 : decode cX10_execute 219 = .ok (.iconst 0, 1) := by decide +kernel
theorem dX10_execute_220 : decode cX10_execute 220 = .ok (.ireturn, 1) := by decide +kernel
theorem dX10_halt_0 : decode cX10_halt 0 = .ok (.aload_n 0, 1) := by decide +kernel
theorem dX10_halt_1 : decode cX10_halt 1 = .ok (.iconst 1, 1) := by decide +kernel
theorem dX10_halt_2 : decode cX10_halt 2 = .ok (.putfield 116, 3) := by decide +kernel
theorem dX10_halt_5 : decode cX10_halt 5 = .ok (.aload_n 0, 1) := by decide +kernel
theorem dX10_halt_6 : decode cX10_halt 6 = .ok (.getfield 47, 3) := by decide +kernel
theorem dX10_halt_9 : decode cX10_halt 9 = .ok (.invokevirtual 166, 3) := by decide +kernel
theorem dX10_halt_12 : decode cX10_halt 12 = .ok (.ifCond .eq 7, 3) := by decide +kernel
theorem dX10_halt_15 : decode cX10_halt 15 = .ok (.aload_n 0, 1) := by decide +kernel
theorem dX10_halt_16 : decode cX10_halt 16 = .ok (.invokevirtual 252, 3) := by decide +kernel
theorem dX10_halt_19 : decode cX10_halt 19 = .ok (.return_, 1) := by decide +kernel
theorem dX10_countJumpTo_0 : decode cX10_countJumpTo 0 = .ok (.aload_n 0, 1) := by decide +kernel
theorem dX10_countJumpTo_1 : decode cX10_countJumpTo 1 = .ok (.getfield 40, 3) := by decide +kernel
theorem dX10_countJumpTo_4 : decode cX10_countJumpTo 4 = .ok (.getfield 176, 3) := by decide +kernel
theorem dX10_countJumpTo_7 : decode cX10_countJumpTo 7 = .ok (.iload_n 1, 1) := by decide +kernel
theorem dX10_countJumpTo_8 : decode cX10_countJumpTo 8 = .ok (.iaload, 1) := by decide +kernel
theorem dX10_countJumpTo_9 : decode cX10_countJumpTo 9 = .ok (.ifCond .eq 4, 3) := by decide +kernel
theorem dX10_countJumpTo_12 : decode cX10_countJumpTo 12 = .ok (.return_, 1) := by decide +kernel
theorem dX10_countJumpTo_13 : decode cX10_countJumpTo 13 = .ok (.aload_n 0, 1) := by decide +kernel
theorem dX10_countJumpTo_14 : decode cX10_countJumpTo 14 = .ok (.getfield 40, 3) := by decide +kernel
theorem dX10_countJumpTo_17 : decode cX10_countJumpTo 17 = .ok (.getfield 173, 3) := by decide +kernel
theorem dX10_countJumpTo_20 : decode cX10_countJumpTo 20 = .ok (.iload_n 1, 1) := by decide +kernel
theorem dX10_countJumpTo_21 : decode cX10_countJumpTo 21 = .ok (.dup2, 1) := by decide +kernel
theorem dX10_countJumpTo_22 : decode cX10_countJumpTo 22 = .ok (.iaload, 1) := by decide +kernel
theorem dX10_countJumpTo_23 : decode cX10_countJumpTo 23 = .ok (.iconst 1, 1) := by decide +kernel
theorem dX10_countJumpTo_24 : decode cX10_countJumpTo 24 = .ok (.iadd, 1) := by decide +kernel
theorem dX10_countJumpTo_25 : decode cX10_countJumpTo 25 = .ok (.iastore, 1) := by decide +kernel
theorem dX10_countJumpTo_26 : decode cX10_countJumpTo 26 = .ok (.aload_n 0, 1) := by decide +kernel
theorem dX10_countJumpTo_27 : decode cX10_countJumpTo 27 = .ok (.getfield 40, 3) := by decide +kernel
theorem dX10_countJumpTo_30 : decode cX10_countJumpTo 30 = .ok (.getfield 173, 3) := by decide +kernel
theorem dX10_countJumpTo_33 : decode cX10_countJumpTo 33 = .ok (.iload_n 1, 1) := by decide +kernel
theorem dX10_countJumpTo_34 : decode cX10_countJumpTo 34 = .ok (.iaload, 1) := by decide +kernel
theorem dX10_countJumpTo_35 : decode cX10_countJumpTo 35 = .ok (.iconst 3, 1) := by decide +kernel
theorem dX10_countJumpTo_36 : decode cX10_countJumpTo 36 = .ok (.if_icmp .ge 4, 3) := by decide +kernel
theorem dX10_countJumpTo_39 : decode cX10_countJumpTo 39 = .ok (.return_, 1) := by decide +kernel
theorem dX10_countJumpTo_40 : decode cX10_countJumpTo 40 = .ok (.aload_n 0, 1) := by decide +kernel
theorem dX10_countJumpTo_41 : decode cX10_countJumpTo 41 = .ok (.getfield 19, 3) := by decide +kernel
theorem dX10_countJumpTo_44 : decode cX10_countJumpTo 44 = .ok (.getfield 127, 3) := by decide +kernel
theorem dX10_countJumpTo_47 : decode cX10_countJumpTo 47 = .ok (.ifCond .ne 22, 3) := by decide +kernel
theorem dX10_countJumpTo_50 : decode cX10_countJumpTo 50 = .ok (.aload_n 0, 1) := by decide +kernel
theorem dX10_countJumpTo_51 : decode cX10_countJumpTo 51 = .ok (.getfield 163, 3) := by decide +kernel
theorem dX10_countJumpTo_54 : decode cX10_countJumpTo 54 = .ok (.iconst 4, 1) := by decide +kernel
theorem dX10_countJumpTo_55 : decode cX10_countJumpTo 55 = .ok (.if_icmp .ge 14, 3) := by decide +kernel
theorem dX10_countJumpTo_58 : decode cX10_countJumpTo 58 = .ok (.aload_n 0, 1) := by decide +kernel
theorem dX10_countJumpTo_59 : decode cX10_countJumpTo 59 = .ok (.getfield 47, 3) := by decide +kernel
theorem dX10_countJumpTo_62 : decode cX10_countJumpTo 62 = .ok (.iload_n 1, 1) := by decide +kernel
theorem dX10_countJumpTo_63 : decode cX10_countJumpTo 63 = .ok (.invokevirtual 290, 3) := by decide +kernel
theorem dX10_countJumpTo_66 : decode cX10_countJumpTo 66 = .ok (.goto 13, 3) := by decide +kernel
theorem dX10_countJumpTo_69 : decode cX10_countJumpTo 69 = .ok (.aload_n 0, 1) := by decide +kernel
theorem dX10_countJumpTo_70 : decode cX10_countJumpTo 70 = .ok (.getfield 40, 3) := by decide +kernel
theorem dX10_countJumpTo_73 : decode cX10_countJumpTo 73 = .ok (.getfield 176, 3) := by decide +kernel
theorem dX10_countJumpTo_76 : decode cX10_countJumpTo 76 = .ok (.iload_n 1, 1) := by decide +kernel
theorem dX10_countJumpTo_77 : decode cX10_countJumpTo 77 = .ok (.iconst 2, 1) := by decide +kernel
theorem dX10_countJumpTo_78 : decode cX10_countJumpTo 78 = .ok (.iastore, 1) := by decide +kernel
theorem dX10_countJumpTo_79 : decode cX10_countJumpTo 79 = .ok (.return_, 1) := by decide +kernel
theorem dX10_giveUpRecording_0 : decode cX10_giveUpRecording 0 = .ok (.aload_n 0, 1) := by decide +kernel
theorem dX10_giveUpRecording_1 : decode cX10_giveUpRecording 1 = .ok (.getfield 40, 3) := by decide +kernel
theorem dX10_giveUpRecording_4 : decode cX10_giveUpRecording 4 = .ok (.getfield 176, 3) := by decide +kernel
theorem dX10_giveUpRecording_7 : decode cX10_giveUpRecording 7 = .ok (.aload_n 0, 1) := by decide +kernel
theorem dX10_giveUpRecording_8 : decode cX10_giveUpRecording 8 = .ok (.getfield 47, 3) := by decide +kernel
theorem dX10_giveUpRecording_11 : decode cX10_giveUpRecording 11 = .ok (.getfield 293, 3) := by decide +kernel
theorem dX10_giveUpRecording_14 : decode cX10_giveUpRecording 14 = .ok (.iconst 2, 1) := by decide +kernel
theorem dX10_giveUpRecording_15 : decode cX10_giveUpRecording 15 = .ok (.iastore, 1) := by decide +kernel
theorem dX10_giveUpRecording_16 : decode cX10_giveUpRecording 16 = .ok (.aload_n 0, 1) := by decide +kernel
theorem dX10_giveUpRecording_17 : decode cX10_giveUpRecording 17 = .ok (.getfield 47, 3) := by decide +kernel
theorem dX10_giveUpRecording_20 : decode cX10_giveUpRecording 20 = .ok (.invokevirtual 212, 3) := by decide +kernel
theorem dX10_giveUpRecording_23 : decode cX10_giveUpRecording 23 = .ok (.return_, 1) := by decide +kernel
theorem dX10_keepTrace_0 : decode cX10_keepTrace 0 = .ok (.aload_n 0, 1) := by decide +kernel
theorem dX10_keepTrace_1 : decode cX10_keepTrace 1 = .ok (.getfield 54, 3) := by decide +kernel
theorem dX10_keepTrace_4 : decode cX10_keepTrace 4 = .ok (.aload_n 0, 1) := by decide +kernel
theorem dX10_keepTrace_5 : decode cX10_keepTrace 5 = .ok (.getfield 60, 3) := by decide +kernel
theorem dX10_keepTrace_8 : decode cX10_keepTrace 8 = .ok (.aload_n 0, 1) := by decide +kernel
theorem dX10_keepTrace_9 : decode cX10_keepTrace 9 = .ok (.getfield 163, 3) := by decide +kernel
theorem dX10_keepTrace_12 : decode cX10_keepTrace 12 = .ok (.aaload, 1) := by decide +kernel
theorem dX10_keepTrace_13 : decode cX10_keepTrace 13 = .ok (.aload_n 0, 1) := by decide +kernel
theorem dX10_keepTrace_14 : decode cX10_keepTrace 14 = .ok (.getfield 12, 3) := by decide +kernel
theorem dX10_keepTrace_17 : decode cX10_keepTrace 17 = .ok (.aload_n 0, 1) := by decide +kernel
theorem dX10_keepTrace_18 : decode cX10_keepTrace 18 = .ok (.getfield 47, 3) := by decide +kernel
theorem dX10_keepTrace_21 : decode cX10_keepTrace 21 = .ok (.invokevirtual 294, 3) := by decide +kernel
theorem dX10_keepTrace_24 : decode cX10_keepTrace 24 = .ok (.aload_n 0, 1) := by decide +kernel
theorem dX10_keepTrace_25 : decode cX10_keepTrace 25 = .ok (.getfield 40, 3) := by decide +kernel
theorem dX10_keepTrace_28 : decode cX10_keepTrace 28 = .ok (.getfield 176, 3) := by decide +kernel
theorem dX10_keepTrace_31 : decode cX10_keepTrace 31 = .ok (.aload_n 0, 1) := by decide +kernel
theorem dX10_keepTrace_32 : decode cX10_keepTrace 32 = .ok (.getfield 47, 3) := by decide +kernel
theorem dX10_keepTrace_35 : decode cX10_keepTrace 35 = .ok (.getfield 293, 3) := by decide +kernel
theorem dX10_keepTrace_38 : decode cX10_keepTrace 38 = .ok (.iconst 1, 1) := by decide +kernel
theorem dX10_keepTrace_39 : decode cX10_keepTrace 39 = .ok (.iastore, 1) := by decide +kernel
theorem dX10_keepTrace_40 : decode cX10_keepTrace 40 = .ok (.aload_n 0, 1) := by decide +kernel
theorem dX10_keepTrace_41 : decode cX10_keepTrace 41 = .ok (.getfield 40, 3) := by decide +kernel
theorem dX10_keepTrace_44 : decode cX10_keepTrace 44 = .ok (.getfield 215, 3) := by decide +kernel
theorem dX10_keepTrace_47 : decode cX10_keepTrace 47 = .ok (.aload_n 0, 1) := by decide +kernel
theorem dX10_keepTrace_48 : decode cX10_keepTrace 48 = .ok (.getfield 47, 3) := by decide +kernel
theorem dX10_keepTrace_51 : decode cX10_keepTrace 51 = .ok (.getfield 293, 3) := by decide +kernel
theorem dX10_keepTrace_54 : decode cX10_keepTrace 54 = .ok (.aload_n 0, 1) := by decide +kernel
theorem dX10_keepTrace_55 : decode cX10_keepTrace 55 = .ok (.getfield 163, 3) := by decide +kernel
theorem dX10_keepTrace_58 : decode cX10_keepTrace 58 = .ok (.iastore, 1) := by decide +kernel
theorem dX10_keepTrace_59 : decode cX10_keepTrace 59 = .ok (.aload_n 0, 1) := by decide +kernel
theorem dX10_keepTrace_60 : decode cX10_keepTrace 60 = .ok (.dup, 1) := by decide +kernel
theorem dX10_keepTrace_61 : decode cX10_keepTrace 61 = .ok (.getfield 163, 3) := by decide +kernel
theorem dX10_keepTrace_64 : decode cX10_keepTrace 64 = .ok (.iconst 1, 1) := by decide +kernel
theorem dX10_keepTrace_65 : decode cX10_keepTrace 65 = .ok (.iadd, 1) := by decide +kernel
theorem dX10_keepTrace_66 : decode cX10_keepTrace 66 = .ok (.putfield 163, 3) := by decide +kernel
theorem dX10_keepTrace_69 : decode cX10_keepTrace 69 = .ok (.aload_n 0, 1) := by decide +kernel
theorem dX10_keepTrace_70 : decode cX10_keepTrace 70 = .ok (.getfield 47, 3) := by decide +kernel
theorem dX10_keepTrace_73 : decode cX10_keepTrace 73 = .ok (.invokevirtual 212, 3) := by decide +kernel
theorem dX10_keepTrace_76 : decode cX10_keepTrace 76 = .ok (.return_, 1) := by decide +kernel
end
section
theorem dX11_init_0 : decode cX11_init 0 = .ok (.aload_n 0, 1) := by decide +kernel
theorem dX11_init_1 : decode cX11_init 1 = .ok (.invokespecial 1, 3) := by decide +kernel
theorem dX11_init_4 : decode cX11_init 4 = .ok (.aload_n 0, 1) := by decide +kernel
theorem dX11_init_5 : decode cX11_init 5 = .ok (.bipush 40, 2) := by decide +kernel
theorem dX11_init_7 : decode cX11_init 7 = .ok (.newarray .int, 2) := by decide +kernel
theorem dX11_init_9 : decode cX11_init 9 = .ok (.putfield 7, 3) := by decide +kernel
theorem dX11_init_12 : decode cX11_init 12 = .ok (.aload_n 0, 1) := by decide +kernel
theorem dX11_init_13 : decode cX11_init 13 = .ok (.bipush 40, 2) := by decide +kernel
theorem dX11_init_15 : decode cX11_init 15 = .ok (.newarray .int, 2) := by decide +kernel
theorem dX11_init_17 : decode cX11_init 17 = .ok (.putfield 13, 3) := by decide +kernel
theorem dX11_init_20 : decode cX11_init 20 = .ok (.aload_n 0, 1) := by decide +kernel
theorem dX11_init_21 : decode cX11_init 21 = .ok (.bipush 40, 2) := by decide +kernel
theorem dX11_init_23 : decode cX11_init 23 = .ok (.newarray .int, 2) := by decide +kernel
theorem dX11_init_25 : decode cX11_init 25 = .ok (.putfield 16, 3) := by decide +kernel
theorem dX11_init_28 : decode cX11_init 28 = .ok (.aload_n 0, 1) := by decide +kernel
theorem dX11_init_29 : decode cX11_init 29 = .ok (.iconst (-1), 1) := by decide +kernel
theorem dX11_init_30 : decode cX11_init 30 = .ok (.putfield 19, 3) := by decide +kernel
theorem dX11_init_33 : decode cX11_init 33 = .ok (.aload_n 0, 1) := by decide +kernel
theorem dX11_init_34 : decode cX11_init 34 = .ok (.bipush 6, 2) := by decide +kernel
theorem dX11_init_36 : decode cX11_init 36 = .ok (.newarray .int, 2) := by decide +kernel
theorem dX11_init_38 : decode cX11_init 38 = .ok (.putfield 23, 3) := by decide +kernel
theorem dX11_init_41 : decode cX11_init 41 = .ok (.aload_n 0, 1) := by decide +kernel
theorem dX11_init_42 : decode cX11_init 42 = .ok (.bipush 8, 2) := by decide +kernel
theorem dX11_init_44 : decode cX11_init 44 = .ok (.newarray .int, 2) := by decide +kernel
theorem dX11_init_46 : decode cX11_init 46 = .ok (.putfield 26, 3) := by decide +kernel
theorem dX11_init_49 : decode cX11_init 49 = .ok (.aload_n 0, 1) := by decide +kernel
theorem dX11_init_50 : decode cX11_init 50 = .ok (.bipush 30, 2) := by decide +kernel
theorem dX11_init_52 : decode cX11_init 52 = .ok (.newarray .int, 2) := by decide +kernel
theorem dX11_init_54 : decode cX11_init 54 = .ok (.putfield 29, 3) := by decide +kernel
theorem dX11_init_57 : decode cX11_init 57 = .ok (.aload_n 0, 1) := by decide +kernel
theorem dX11_init_58 : decode cX11_init 58 = .ok (.bipush 40, 2) := by decide +kernel
theorem dX11_init_60 : decode cX11_init 60 = .ok (.newarray .int, 2) := by decide +kernel
theorem dX11_init_62 : decode cX11_init 62 = .ok (.putfield 32, 3) := by decide +kernel
theorem dX11_init_65 : decode cX11_init 65 = .ok (.aload_n 0, 1) := by decide +kernel
theorem dX11_init_66 : decode cX11_init 66 = .ok (.bipush 40, 2) := by decide +kernel
theorem dX11_init_68 : decode cX11_init 68 = .ok (.newarray .int, 2) := by decide +kernel
theorem dX11_init_70 : decode cX11_init 70 = .ok (.putfield 35, 3) := by decide +kernel
theorem dX11_init_73 : decode cX11_init 73 = .ok (.aload_n 0, 1) := by decide +kernel
theorem dX11_init_74 : decode cX11_init 74 = .ok (.iconst (-1), 1) := by decide +kernel
theorem dX11_init_75 : decode cX11_init 75 = .ok (.putfield 38, 3) := by decide +kernel
theorem dX11_init_78 : decode cX11_init 78 = .ok (.aload_n 0, 1) := by decide +kernel
theorem dX11_init_79 : decode cX11_init 79 = .ok (.bipush 30, 2) := by decide +kernel
theorem dX11_init_81 : decode cX11_init 81 = .ok (.newarray .int, 2) := by decide +kernel
theorem dX11_init_83 : decode cX11_init 83 = .ok (.putfield 41, 3) := by decide +kernel
theorem dX11_init_86 : decode cX11_init 86 = .ok (.aload_n 0, 1) := by decide +kernel
theorem dX11_init_87 : decode cX11_init 87 = .ok (.bipush 30, 2) := by decide +kernel
theorem dX11_init_89 : decode cX11_init 89 = .ok (.newarray .boolean, 2) := by decide +kernel
theorem dX11_init_91 : decode cX11_init 91 = .ok (.putfield 44, 3) := by decide +kernel
theorem dX11_init_94 : decode cX11_init 94 = .ok (.aload_n 0, 1) := by decide +kernel
theorem dX11_init_95 : decode cX11_init 95 = .ok (.iconst (-1), 1) := by decide +kernel
theorem dX11_init_96 : decode cX11_init 96 = .ok (.putfield 48, 3) := by decide +kernel
theorem dX11_init_99 : decode cX11_init 99 = .ok (.aload_n 0, 1) := by decide +kernel
theorem dX11_init_100 : decode cX11_init 100 = .ok (.iconst 4, 1) := by decide +kernel
theorem dX11_init_101 : decode cX11_init 101 = .ok (.newarray .int, 2) := by decide +kernel
theorem dX11_init_103 : decode cX11_init 103 = .ok (.putfield 51, 3) := by decide +kernel
theorem dX11_init_106 : decode cX11_init 106 = .ok (.aload_n 0, 1) := by decide +kernel
theorem dX11_init_107 : decode cX11_init 107 = .ok (.iconst 4, 1) := by decide +kernel
theorem dX11_init_108 : decode cX11_init 108 = .ok (.newarray .int, 2) := by decide +kernel
theorem dX11_init_110 : decode cX11_init 110 = .ok (.putfield 54, 3) := by decide +kernel
theorem dX11_init_113 : decode cX11_init 113 = .ok (.aload_n 0, 1) := by decide +kernel
theorem dX11_init_114 : decode cX11_init 114 = .ok (.bipush 120, 2) := by decide +kernel
theorem dX11_init_116 : decode cX11_init 116 = .ok (.newarray .int, 2) := by decide +kernel
theorem dX11_init_118 : decode cX11_init 118 = .ok (.putfield 57, 3) := by decide +kernel
theorem dX11_init_121 : decode cX11_init 121 = .ok (.aload_n 0, 1) := by decide +kernel
theorem dX11_init_122 : decode cX11_init 122 = .ok (.bipush 120, 2) := by decide +kernel
theorem dX11_init_124 : decode cX11_init 124 = .ok (.newarray .boolean, 2) := by decide +kernel
theorem dX11_init_126 : decode cX11_init 126 = .ok (.putfield 60, 3) := by decide +kernel
theorem dX11_init_129 : decode cX11_init 129 = .ok (.aload_n 0, 1) := by decide +kernel
theorem dX11_init_130 : decode cX11_init 130 = .ok (.bipush 120, 2) := by decide +kernel
theorem dX11_init_132 : decode cX11_init 132 = .ok (.newarray .int, 2) := by decide +kernel
theorem dX11_init_134 : decode cX11_init 134 = .ok (.putfield 63, 3) := by decide +kernel
theorem dX11_init_137 : decode cX11_init 137 = .ok (.aload_n 0, 1) := by decide +kernel
theorem dX11_init_138 : decode cX11_init 138 = .ok (.iconst 4, 1) := by decide +kernel
theorem dX11_init_139 : decode cX11_init 139 = .ok (.newarray .int, 2) := by decide +kernel
theorem dX11_init_141 : decode cX11_init 141 = .ok (.putfield 66, 3) := by decide +kernel
theorem dX11_init_144 : decode cX11_init 144 = .ok (.aload_n 0, 1) := by decide +kernel
theorem dX11_init_145 : decode cX11_init 145 = .ok (.iconst 4, 1) := by decide +kernel
theorem dX11_init_146 : decode cX11_init 146 = .ok (.newarray .int, 2) := by decide +kernel
theorem dX11_init_148 : decode cX11_init 148 = .ok (.putfield 69, 3) := by decide +kernel
theorem dX11_init_151 : decode cX11_init 151 = .ok (.aload_n 0, 1) := by decide +kernel
theorem dX11_init_152 : decode cX11_init 152 = .ok (.iconst 4, 1) := by decide +kernel
theorem dX11_init_153 : decode cX11_init 153 = .ok (.newarray .int, 2) := by decide +kernel
theorem dX11_init_155 : decode cX11_init 155 = .ok (.putfield 72, 3) := by decide +kernel
theorem dX11_init_158 : decode cX11_init 158 = .ok (.aload_n 0, 1) := by decide +kernel
theorem dX11_init_159 : decode cX11_init 159 = .ok (.iconst 4, 1) := by decide +kernel
theorem dX11_init_160 : decode cX11_init 160 = .ok (.newarray .int, 2) := by decide +kernel
theorem dX11_init_162 : decode cX11_init 162 = .ok (.putfield 75, 3) := by decide +kernel
theorem dX11_init_165 : decode cX11_init 165 = .ok (.aload_n 0, 1) := by decide +kernel
theorem dX11_init_166 : decode cX11_init 166 = .ok (.iconst 4, 1) := by decide +kernel
theorem dX11_init_167 : decode cX11_init 167 = .ok (.newarray .int, 2) := by decide +kernel
theorem dX11_init_169 : decode cX11_init 169 = .ok (.putfield 78, 3) := by decide +kernel
theorem dX11_init_172 : decode cX11_init 172 = .ok (.aload_n 0, 1) := by decide +kernel
theorem dX11_init_173 : decode cX11_init 173 = .ok (.bipush 40, 2) := by decide +kernel
theorem dX11_init_175 : decode cX11_init 175 = .ok (.newarray .int, 2) := by decide +kernel
theorem dX11_init_177 : decode cX11_init 177 = .ok (.putfield 81, 3) := by decide +kernel
theorem dX11_init_180 : decode cX11_init 180 = .ok (.aload_n 0, 1) := by decide +kernel
theorem dX11_init_181 : decode cX11_init 181 = .ok (.bipush 40, 2) := by decide +kernel
theorem dX11_init_183 : decode cX11_init 183 = .ok (.newarray .int, 2) := by decide +kernel
theorem dX11_init_185 : decode cX11_init 185 = .ok (.putfield 84, 3) := by decide +kernel
theorem dX11_init_188 : decode cX11_init 188 = .ok (.aload_n 0, 1) := by decide +kernel
theorem dX11_init_189 : decode cX11_init 189 = .ok (.bipush 40, 2) := by decide +kernel
theorem dX11_init_191 : decode cX11_init 191 = .ok (.newarray .int, 2) := by decide +kernel
theorem dX11_init_193 : decode cX11_init 193 = .ok (.putfield 87, 3) := by decide +kernel
theorem dX11_init_196 : decode cX11_init 196 = .ok (.aload_n 0, 1) := by decide +kernel
theorem dX11_init_197 : decode cX11_init 197 = .ok (.bipush 40, 2) := by decide +kernel
theorem dX11_init_199 : decode cX11_init 199 = .ok (.newarray .int, 2) := by decide +kernel
theorem dX11_init_201 : decode cX11_init 201 = .ok (.putfield 90, 3) := by decide +kernel
theorem dX11_init_204 : decode cX11_init 204 = .ok (.aload_n 0, 1) := by decide +kernel
theorem dX11_init_205 : decode cX11_init 205 = .ok (.bipush 40, 2) := by decide +kernel
theorem dX11_init_207 : decode cX11_init 207 = .ok (.newarray .boolean, 2) := by decide +kernel
theorem dX11_init_209 : decode cX11_init 209 = .ok (.putfield 93, 3) := by decide +kernel
theorem dX11_init_212 : decode cX11_init 212 = .ok (.aload_n 0, 1) := by decide +kernel
theorem dX11_init_213 : decode cX11_init 213 = .ok (.bipush 40, 2) := by decide +kernel
theorem dX11_init_215 : decode cX11_init 215 = .ok (.newarray .boolean, 2) := by decide +kernel
theorem dX11_init_217 : decode cX11_init 217 = .ok (.putfield 96, 3) := by decide +kernel
theorem dX11_init_220 : decode cX11_init 220 = .ok (.aload_n 0, 1) := by decide +kernel
theorem dX11_init_221 : decode cX11_init 221 = .ok (.bipush 40, 2) := by decide +kernel
theorem dX11_init_223 : decode cX11_init 223 = .ok (.newarray .int, 2) := by decide +kernel
theorem dX11_init_225 : decode cX11_init 225 = .ok (.putfield 99, 3) := by decide +kernel
theorem dX11_init_228 : decode cX11_init 228 = .ok (.aload_n 0, 1) := by decide +kernel
theorem dX11_init_229 : decode cX11_init 229 = .ok (.bipush 6, 2) := by decide +kernel
theorem dX11_init_231 : decode cX11_init 231 = .ok (.newarray .int, 2) := by decide +kernel
theorem dX11_init_233 : decode cX11_init 233 = .ok (.putfield 102, 3) := by decide +kernel
theorem dX11_init_236 : decode cX11_init 236 = .ok (.aload_n 0, 1) := by decide +kernel
theorem dX11_init_237 : decode cX11_init 237 = .ok (.bipush 8, 2) := by decide +kernel
theorem dX11_init_239 : decode cX11_init 239 = .ok (.newarray .int, 2) := by decide +kernel
theorem dX11_init_241 : decode cX11_init 241 = .ok (.putfield 105, 3) := by decide +kernel
theorem dX11_init_244 : decode cX11_init 244 = .ok (.aload_n 0, 1) := by decide +kernel
theorem dX11_init_245 : decode cX11_init 245 = .ok (.bipush 30, 2) := by decide +kernel
theorem dX11_init_247 : decode cX11_init 247 = .ok (.newarray .int, 2) := by decide +kernel
theorem dX11_init_249 : decode cX11_init 249 = .ok (.putfield 108, 3) := by decide +kernel
theorem dX11_init_252 : decode cX11_init 252 = .ok (.return_, 1) := by decide +kernel
theorem dX11_thrown_0 : decode cX11_thrown 0 = .ok (.aload_n 0, 1) := by decide +kernel
theorem dX11_thrown_1 : decode cX11_thrown 1 = .ok (.getfield 111, 3) := by decide +kernel
theorem dX11_thrown_4 : decode cX11_thrown 4 = .ok (.ireturn, 1) := by decide +kernel
theorem dX11_fail_0 : decode cX11_fail 0 = .ok (.aload_n 0, 1) := by decide +kernel
theorem dX11_fail_1 : decode cX11_fail 1 = .ok (.iload_n 1, 1) := by decide +kernel
theorem dX11_fail_2 : decode cX11_fail 2 = .ok (.putfield 111, 3) := by decide +kernel
theorem dX11_fail_5 : decode cX11_fail 5 = .ok (.iconst 0, 1) := by decide +kernel
theorem dX11_fail_6 : decode cX11_fail 6 = .ok (.ireturn, 1) := by decide +kernel
theorem dX11_within_0 : decode cX11_within 0 = .ok (.iload_n 0, 1) := by decide +kernel
theorem dX11_within_1 : decode cX11_within 1 = .ok (.iload_n 1, 1) := by decide +kernel
theorem dX11_within_2 : decode cX11_within 2 = .ok (.if_icmp .lt 12, 3) := by decide +kernel
theorem dX11_within_5 : decode cX11_within 5 = .ok (.iload_n 0, 1) := by decide +kernel
theorem dX11_within_6 : decode cX11_within 6 = .ok (.iload_n 2, 1) := by decide +kernel
theorem dX11_within_7 : decode cX11_within 7 = .ok (.if_icmp .gt 7, 3) := by decide +kernel
theorem dX11_within_10 : decode cX11_within 10 = .ok (.iconst 1, 1) := by decide +kernel
theorem dX11_within_11 : decode cX11_within 11 = .ok (.goto 4, 3) := by decide +kernel
theorem dX11_within_14 : decode cX11_within 14 = .ok (.iconst 0, 1) := by decide +kernel
theorem dX11_within_15 : decode cX11_within 15 = .ok (.ireturn, 1) := by decide +kernel
theorem dX11_add_0 : decode cX11_add 0 = .ok (.aload_n 0, 1) := by decide +kernel
theorem dX11_add_1 : decode cX11_add 1 = .ok (.iconst 0, 1) := by decide +kernel
theorem dX11_add_2 : decode cX11_add 2 = .ok (.putfield 111, 3) := by decide +kernel
theorem dX11_add_5 : decode cX11_add 5 = .ok (.iload_n 1, 1) := by decide +kernel
theorem dX11_add_6 : decode cX11_add 6 = .ok (.iconst 0, 1) := by decide +kernel
theorem dX11_add_7 : decode cX11_add 7 = .ok (.bipush 15, 2) := by decide +kernel
theorem dX11_add_9 : decode cX11_add 9 = .ok (.invokestatic 114, 3) := by decide +kernel
theorem dX11_add_12 : decode cX11_add 12 = .ok (.ifCond .eq 65, 3) := by decide +kernel
theorem dX11_add_15 : decode cX11_add 15 = .ok (.iload_n 1, 1) := by decide +kernel
theorem dX11_add_16 : decode cX11_add 16 = .ok (.ifCond .ne 16, 3) := by decide +kernel
theorem dX11_add_19 : decode cX11_add 19 = .ok (.iload_n 2, 1) := by decide +kernel
theorem dX11_add_20 : decode cX11_add 20 = .ok (.sipush (-32768), 3) := by decide +kernel
theorem dX11_add_23 : decode cX11_add 23 = .ok (.sipush 32767, 3) := by decide +kernel
theorem dX11_add_26 : decode cX11_add 26 = .ok (.invokestatic 114, 3) := by decide +kernel
theorem dX11_add_29 : decode cX11_add 29 = .ok (.ifCond .eq 48, 3) := by decide +kernel
theorem dX11_add_32 : decode cX11_add 32 = .ok (.iload_n 1, 1) := by decide +kernel
theorem dX11_add_33 : decode cX11_add 33 = .ok (.iconst 1, 1) := by decide +kernel
theorem dX11_add_34 : decode cX11_add 34 = .ok (.if_icmp .eq 8, 3) := by decide +kernel
theorem dX11_add_37 : decode cX11_add 37 = .ok (.iload_n 1, 1) := by decide +kernel
theorem dX11_add_38 : decode cX11_add 38 = .ok (.iconst 2, 1) := by decide +kernel
theorem dX11_add_39 : decode cX11_add 39 = .ok (.if_icmp .ne 12, 3) := by decide +kernel
theorem dX11_add_42 : decode cX11_add 42 = .ok (.iload_n 2, 1) := by decide +kernel
theorem dX11_add_43 : decode cX11_add 43 = .ok (.iconst 0, 1) := by decide +kernel
theorem dX11_add_44 : decode cX11_add 44 = .ok (.iconst 5, 1) := by decide +kernel
theorem dX11_add_45 : decode cX11_add 45 = .ok (.invokestatic 114, 3) := by decide +kernel
theorem dX11_add_48 : decode cX11_add 48 = .ok (.ifCond .eq 29, 3) := by decide +kernel
theorem dX11_add_51 : decode cX11_add 51 = .ok (.iload_n 1, 1) := by decide +kernel
theorem dX11_add_52 : decode cX11_add 52 = .ok (.bipush 13, 2) := by decide +kernel
theorem dX11_add_54 : decode cX11_add 54 = .ok (.if_icmp .eq 9, 3) := by decide +kernel
theorem dX11_add_57 : decode cX11_add 57 = .ok (.iload_n 1, 1) := by decide +kernel
theorem dX11_add_58 : decode cX11_add 58 = .ok (.bipush 14, 2) := by decide +kernel
theorem dX11_add_60 : decode cX11_add 60 = .ok (.if_icmp .ne 13, 3) := by decide +kernel
theorem dX11_add_63 : decode cX11_add 63 = .ok (.iload_n 2, 1) := by decide +kernel
theorem dX11_add_64 : decode cX11_add 64 = .ok (.iconst 0, 1) := by decide +kernel
theorem dX11_add_65 : decode cX11_add 65 = .ok (.bipush 39, 2) := by decide +kernel
theorem dX11_add_67 : decode cX11_add 67 = .ok (.invokestatic 114, 3) := by decide +kernel
theorem dX11_add_70 : decode cX11_add 70 = .ok (.ifCond .eq 7, 3) := by decide +kernel
theorem dX11_add_73 : decode cX11_add 73 = .ok (.iconst 1, 1) := by decide +kernel
theorem dX11_add_74 : decode cX11_add 74 = .ok (.goto 4, 3) := by decide +kernel
theorem dX11_add_77 : decode cX11_add 77 = .ok (.iconst 0, 1) := by decide +kernel
theorem dX11_add_78 : decode cX11_add 78 = .ok (.istore_n 3, 1) := by decide +kernel
theorem dX11_add_79 : decode cX11_add 79 = .ok (.iload_n 3, 1) := by decide +kernel
theorem dX11_add_80 : decode cX11_add 80 = .ok (.ifCond .ne 9, 3) := by decide +kernel
theorem dX11_add_83 : decode cX11_add 83 = .ok (.aload_n 0, 1) := by decide +kernel
theorem dX11_add_84 : decode cX11_add 84 = .ok (.iconst 1, 1) := by decide +kernel
theorem dX11_add_85 : decode cX11_add 85 = .ok (.invokevirtual 118, 3) := by decide +kernel
theorem dX11_add_88 : decode cX11_add 88 = .ok (.ireturn, 1) := by decide +kernel
theorem dX11_add_89 : decode cX11_add 89 = .ok (.aload_n 0, 1) := by decide +kernel
theorem dX11_add_90 : decode cX11_add 90 = .ok (.getfield 122, 3) := by decide +kernel
theorem dX11_add_93 : decode cX11_add 93 = .ok (.bipush 40, 2) := by decide +kernel
theorem dX11_add_95 : decode cX11_add 95 = .ok (.if_icmp .eq 10, 3) := by decide +kernel
theorem dX11_add_98 : decode cX11_add 98 = .ok (.aload_n 0, 1) := by decide +kernel
theorem dX11_add_99 : decode cX11_add 99 = .ok (.getfield 125, 3) := by decide +kernel
theorem dX11_add_102 : decode cX11_add 102 = .ok (.ifCond .eq 9, 3) := by decide +kernel
theorem dX11_add_105 : decode cX11_add 105 = .ok (.aload_n 0, 1) := by decide +kernel
theorem dX11_add_106 : decode cX11_add 106 = .ok (.iconst 2, 1) := by decide +kernel
theorem dX11_add_107 : decode cX11_add 107 = .ok (.invokevirtual 118, 3) := by decide +kernel
theorem dX11_add_110 : decode cX11_add 110 = .ok (.ireturn, 1) := by decide +kernel
theorem dX11_add_111 : decode cX11_add 111 = .ok (.aload_n 0, 1) := by decide +kernel
theorem dX11_add_112 : decode cX11_add 112 = .ok (.getfield 7, 3) := by decide +kernel
theorem dX11_add_115 : decode cX11_add 115 = .ok (.aload_n 0, 1) := by decide +kernel
theorem dX11_add_116 : decode cX11_add 116 = .ok (.getfield 122, 3) := by decide +kernel
theorem dX11_add_119 : decode cX11_add 119 = .ok (.iload_n 1, 1) := by decide +kernel
theorem dX11_add_120 : decode cX11_add 120 = .ok (.iastore, 1) := by decide +kernel
theorem dX11_add_121 : decode cX11_add 121 = .ok (.aload_n 0, 1) := by decide +kernel
theorem dX11_add_122 : decode cX11_add 122 = .ok (.getfield 13, 3) := by decide +kernel
theorem dX11_add_125 : decode cX11_add 125 = .ok (.aload_n 0, 1) := by decide +kernel
theorem dX11_add_126 : decode cX11_add 126 = .ok (.getfield 122, 3) := by decide +kernel
theorem dX11_add_129 : decode cX11_add 129 = .ok (.iload_n 2, 1) := by decide +kernel
theorem dX11_add_130 : decode cX11_add 130 = .ok (.iastore, 1) := by decide +kernel
theorem dX11_add_131 : decode cX11_add 131 = .ok (.aload_n 0, 1) := by decide +kernel
theorem dX11_add_132 : decode cX11_add 132 = .ok (.dup, 1) := by decide +kernel
theorem dX11_add_133 : decode cX11_add 133 = .ok (.getfield 122, 3) := by decide +kernel
theorem dX11_add_136 : decode cX11_add 136 = .ok (.iconst 1, 1) := by decide +kernel
theorem dX11_add_137 : decode cX11_add 137 = .ok (.iadd, 1) := by decide +kernel
theorem dX11_add_138 : decode cX11_add 138 = .ok (.putfield 122, 3) := by decide +kernel
theorem dX11_add_141 : decode cX11_add 141 = .ok (.aload_n 0, 1) := by decide +kernel
theorem dX11_add_142 : decode cX11_add 142 = .ok (.getfield 122, 3) := by decide +kernel
theorem dX11_add_145 : decode cX11_add 145 = .ok (.ireturn, 1) := by decide +kernel
theorem dX11_takes_0 : decode cX11_takes 0 = .ok (.iload_n 0, 1) := by decide +kernel
theorem dX11_takes_1 : decode cX11_takes 1 = .ok (.ifCond .eq 20, 3) := by decide +kernel
theorem dX11_takes_4 : decode cX11_takes 4 = .ok (.iload_n 0, 1) := by decide +kernel
theorem dX11_takes_5 : decode cX11_takes 5 = .ok (.iconst 1, 1) := by decide +kernel
theorem dX11_takes_6 : decode cX11_takes 6 = .ok (.if_icmp .eq 15, 3) := by decide +kernel
theorem dX11_takes_9 : decode cX11_takes 9 = .ok (.iload_n 0, 1) := by decide +kernel
theorem dX11_takes_10 : decode cX11_takes 10 = .ok (.bipush 13, 2) := by decide +kernel
theorem dX11_takes_12 : decode cX11_takes 12 = .ok (.if_icmp .eq 9, 3) := by decide +kernel
theorem dX11_takes_15 : decode cX11_takes 15 = .ok (.iload_n 0, 1) := by decide +kernel
theorem dX11_takes_16 : decode cX11_takes 16 = .ok (.bipush 15, 2) := by decide +kernel
theorem dX11_takes_18 : decode cX11_takes 18 = .ok (.if_icmp .ne 5, 3) := by decide +kernel
theorem dX11_takes_21 : decode cX11_takes 21 = .ok (.iconst 0, 1) := by decide +kernel
theorem dX11_takes_22 : decode cX11_takes 22 = .ok (.ireturn, 1) := by decide +kernel
theorem dX11_takes_23 : decode cX11_takes 23 = .ok (.iload_n 0, 1) := by decide +kernel
theorem dX11_takes_24 : decode cX11_takes 24 = .ok (.iconst 3, 1) := by decide +kernel
theorem dX11_takes_25 : decode cX11_takes 25 = .ok (.bipush 8, 2) := by decide +kernel
theorem dX11_takes_27 : decode cX11_takes 27 = .ok (.invokestatic 114, 3) := by decide +kernel
theorem dX11_takes_30 : decode cX11_takes 30 = .ok (.ifCond .ne 9, 3) := by decide +kernel
theorem dX11_takes_33 : decode cX11_takes 33 = .ok (.iload_n 0, 1) := by decide +kernel
theorem dX11_takes_34 : decode cX11_takes 34 = .ok (.bipush 11, 2) := by decide +kernel
theorem dX11_takes_36 : decode cX11_takes 36 = .ok (.if_icmp .ne 7, 3) := by decide +kernel
theorem dX11_takes_39 : decode cX11_takes 39 = .ok (.iconst 2, 1) := by decide +kernel
theorem dX11_takes_40 : decode cX11_takes 40 = .ok (.goto 4, 3) := by decide +kernel
theorem dX11_takes_43 : decode cX11_takes 43 = .ok (.iconst 1, 1) := by decide +kernel
theorem dX11_takes_44 : decode cX11_takes 44 = .ok (.ireturn, 1) := by decide +kernel
theorem dX11_leaves_0 : decode cX11_leaves 0 = .ok (.iload_n 0, 1) := by decide +kernel
theorem dX11_leaves_1 : decode cX11_leaves 1 = .ok (.ifCond .eq 18, 3) := by decide +kernel
theorem dX11_leaves_4 : decode cX11_leaves 4 = .ok (.iload_n 0, 1) := by decide +kernel
theorem dX11_leaves_5 : decode cX11_leaves 5 = .ok (.iconst 1, 1) := by decide +kernel
theorem dX11_leaves_6 : decode cX11_leaves 6 = .ok (.if_icmp .eq 13, 3) := by decide +kernel
theorem dX11_leaves_9 : decode cX11_leaves 9 = .ok (.iload_n 0, 1) := by decide +kernel
theorem dX11_leaves_10 : decode cX11_leaves 10 = .ok (.iconst 3, 1) := by decide +kernel
theorem dX11_leaves_11 : decode cX11_leaves 11 = .ok (.bipush 8, 2) := by decide +kernel
theorem dX11_leaves_13 : decode cX11_leaves 13 = .ok (.invokestatic 114, 3) := by decide +kernel
theorem dX11_leaves_16 : decode cX11_leaves 16 = .ok (.ifCond .eq 5, 3) := by decide +kernel
theorem dX11_leaves_19 : decode cX11_leaves 19 = .ok (.iconst 1, 1) := by decide +kernel
theorem dX11_leaves_20 : decode cX11_leaves 20 = .ok (.ireturn, 1) := by decide +kernel
theorem dX11_leaves_21 : decode cX11_leaves 21 = .ok (.iload_n 0, 1) := by decide +kernel
theorem dX11_leaves_22 : decode cX11_leaves 22 = .ok (.bipush 9, 2) := by decide +kernel
theorem dX11_leaves_24 : decode cX11_leaves 24 = .ok (.if_icmp .eq 9, 3) := by decide +kernel
theorem dX11_leaves_27 : decode cX11_leaves 27 = .ok (.iload_n 0, 1) := by decide +kernel
theorem dX11_leaves_28 : decode cX11_leaves 28 = .ok (.bipush 11, 2) := by decide +kernel
theorem dX11_leaves_30 : decode cX11_leaves 30 = .ok (.if_icmp .ne 7, 3) := by decide +kernel
theorem dX11_leaves_33 : decode cX11_leaves 33 = .ok (.iconst 2, 1) := by decide +kernel
theorem dX11_leaves_34 : decode cX11_leaves 34 = .ok (.goto 4, 3) := by decide +kernel
theorem dX11_leaves_37 : decode cX11_leaves 37 = .ok (.iconst 0, 1) := by decide +kernel
theorem dX11_leaves_38 : decode cX11_leaves 38 = .ok (.ireturn, 1) := by decide +kernel
theorem dX11_leads_0 : decode cX11_leads 0 = .ok (.iload_n 1, 1) := by decide +kernel
theorem dX11_leads_1 : decode cX11_leads 1 = .ok (.aload_n 0, 1) := by decide +kernel
theorem dX11_leads_2 : decode cX11_leads 2 = .ok (.getfield 122, 3) := by decide +kernel
theorem dX11_leads_5 : decode cX11_leads 5 = .ok (.if_icmp .ge 22, 3) := by decide +kernel
theorem dX11_leads_8 : decode cX11_leads 8 = .ok (.aload_n 0, 1) := by decide +kernel
theorem dX11_leads_9 : decode cX11_leads 9 = .ok (.getfield 16, 3) := by decide +kernel
theorem dX11_leads_12 : decode cX11_leads 12 = .ok (.iload_n 1, 1) := by decide +kernel
theorem dX11_leads_13 : decode cX11_leads 13 = .ok (.iaload, 1) := by decide +kernel
theorem dX11_leads_14 : decode cX11_leads 14 = .ok (.ifCond .lt 15, 3) := by decide +kernel
theorem dX11_leads_17 : decode cX11_leads 17 = .ok (.aload_n 0, 1) := by decide +kernel
theorem dX11_leads_18 : decode cX11_leads 18 = .ok (.getfield 16, 3) := by decide +kernel
theorem dX11_leads_21 : decode cX11_leads 21 = .ok (.iload_n 1, 1) := by decide +kernel
theorem dX11_leads_22 : decode cX11_leads 22 = .ok (.iaload, 1) := by decide +kernel
theorem dX11_leads_23 : decode cX11_leads 23 = .ok (.iload_n 2, 1) := by decide +kernel
theorem dX11_leads_24 : decode cX11_leads 24 = .ok (.if_icmp .eq 5, 3) := by decide +kernel
theorem dX11_leads_27 : decode cX11_leads 27 = .ok (.iconst 0, 1) := by decide +kernel
theorem dX11_leads_28 : decode cX11_leads 28 = .ok (.ireturn, 1) := by decide +kernel
theorem dX11_leads_29 : decode cX11_leads 29 = .ok (.aload_n 0, 1) := by decide +kernel
theorem dX11_leads_30 : decode cX11_leads 30 = .ok (.getfield 16, 3) := by decide +kernel
theorem dX11_leads_33 : decode cX11_leads 33 = .ok (.iload_n 1, 1) := by decide +kernel
theorem dX11_leads_34 : decode cX11_leads 34 = .ok (.iload_n 2, 1) := by decide +kernel
theorem dX11_leads_35 : decode cX11_leads 35 = .ok (.iastore, 1) := by decide +kernel
theorem dX11_leads_36 : decode cX11_leads 36 = .ok (.iconst 1, 1) := by decide +kernel
theorem dX11_leads_37 : decode cX11_leads 37 = .ok (.ireturn, 1) := by decide +kernel
theorem dX11_sound_0 : decode cX11_sound 0 = .ok (.iconst 0, 1) := by decide +kernel
theorem dX11_sound_1 : decode cX11_sound 1 = .ok (.istore_n 1, 1) := by decide +kernel
theorem dX11_sound_2 : decode cX11_sound 2 = .ok (.iload_n 1, 1) := by decide +kernel
theorem dX11_sound_3 : decode cX11_sound 3 = .ok (.bipush 40, 2) := by decide +kernel
theorem dX11_sound_5 : decode cX11_sound 5 = .ok (.if_icmp .ge 16, 3) := by decide +kernel
theorem dX11_sound_8 : decode cX11_sound 8 = .ok (.aload_n 0, 1) := by decide +kernel
theorem dX11_sound_9 : decode cX11_sound 9 = .ok (.getfield 16, 3) := by decide +kernel
theorem dX11_sound_12 : decode cX11_sound 12 = .ok (.iload_n 1, 1) := by decide +kernel
theorem dX11_sound_13 : decode cX11_sound 13 = .ok (.iconst (-1), 1) := by decide +kernel
theorem dX11_sound_14 : decode cX11_sound 14 = .ok (.iastore, 1) := by decide +kernel
theorem dX11_sound_15 : decode cX11_sound 15 = .ok (.iinc 1 1, 3) := by decide +kernel
theorem dX11_sound_18 : decode cX11_sound 18 = .ok (.goto (-16), 3) := by decide +kernel
theorem dX11_sound_21 : decode cX11_sound 21 = .ok (.aload_n 0, 1) := by decide +kernel
theorem dX11_sound_22 : decode cX11_sound 22 = .ok (.iconst 0, 1) := by decide +kernel
theorem dX11_sound_23 : decode cX11_sound 23 = .ok (.iconst 0, 1) := by decide +kernel
theorem dX11_sound_24 : decode cX11_sound 24 = .ok (.invokevirtual 129, 3) := by decide +kernel
theorem dX11_sound_27 : decode cX11_sound 27 = .ok (.istore_n 1, 1) := by decide +kernel
theorem dX11_sound_28 : decode cX11_sound 28 = .ok (.iconst 0, 1) := by decide +kernel
theorem dX11_sound_29 : decode cX11_sound 29 = .ok (.istore_n 2, 1) := by decide +kernel
theorem dX11_sound_30 : decode cX11_sound 30 = .ok (.iload_n 2, 1) := by decide +kernel
theorem dX11_sound_31 : decode cX11_sound 31 = .ok (.aload_n 0, 1) := by decide +kernel
theorem dX11_sound_32 : decode cX11_sound 32 = .ok (.getfield 122, 3) := by decide +kernel
theorem dX11_sound_35 : decode cX11_sound 35 = .ok (.if_icmp .ge 152, 3) := by decide +kernel
theorem dX11_sound_38 : decode cX11_sound 38 = .ok (.iconst 0, 1) := by decide +kernel
theorem dX11_sound_39 : decode cX11_sound 39 = .ok (.istore_n 3, 1) := by decide +kernel
theorem dX11_sound_40 : decode cX11_sound 40 = .ok (.iload_n 3, 1) := by decide +kernel
theorem dX11_sound_41 : decode cX11_sound 41 = .ok (.aload_n 0, 1) := by decide +kernel
theorem dX11_sound_42 : decode cX11_sound 42 = .ok (.getfield 122, 3) := by decide +kernel
theorem dX11_sound_45 : decode cX11_sound 45 = .ok (.if_icmp .ge 136, 3) := by decide +kernel
theorem dX11_sound_48 : decode cX11_sound 48 = .ok (.iload_n 1, 1) := by decide +kernel
theorem dX11_sound_49 : decode cX11_sound 49 = .ok (.ifCond .eq 132, 3) := by decide +kernel
theorem dX11_sound_52 : decode cX11_sound 52 = .ok (.aload_n 0, 1) := by decide +kernel
theorem dX11_sound_53 : decode cX11_sound 53 = .ok (.getfield 7, 3) := by decide +kernel
theorem dX11_sound_56 : decode cX11_sound 56 = .ok (.iload_n 3, 1) := by decide +kernel
theorem dX11_sound_57 : decode cX11_sound 57 = .ok (.iaload, 1) := by decide +kernel
theorem dX11_sound_58 : decode cX11_sound 58 = .ok (.istore 4, 2) := by decide +kernel
theorem dX11_sound_60 : decode cX11_sound 60 = .ok (.aload_n 0, 1) := by decide +kernel
theorem dX11_sound_61 : decode cX11_sound 61 = .ok (.getfield 16, 3) := by decide +kernel
theorem dX11_sound_64 : decode cX11_sound 64 = .ok (.iload_n 3, 1) := by decide +kernel
theorem dX11_sound_65 : decode cX11_sound 65 = .ok (.iaload, 1) := by decide +kernel
theorem dX11_sound_66 : decode cX11_sound 66 = .ok (.iload 4, 2) := by decide +kernel
theorem dX11_sound_68 : decode cX11_sound 68 = .ok (.invokestatic 133, 3) := by decide +kernel
theorem dX11_sound_71 : decode cX11_sound 71 = .ok (.isub, 1) := by decide +kernel
theorem dX11_sound_72 : decode cX11_sound 72 = .ok (.iload 4, 2) := by decide +kernel
theorem dX11_sound_74 : decode cX11_sound 74 = .ok (.invokestatic 136, 3) := by decide +kernel
theorem dX11_sound_77 : decode cX11_sound 77 = .ok (.iadd, 1) := by decide +kernel
theorem dX11_sound_78 : decode cX11_sound 78 = .ok (.istore 5, 2) := by decide +kernel
theorem dX11_sound_80 : decode cX11_sound 80 = .ok (.aload_n 0, 1) := by decide +kernel
theorem dX11_sound_81 : decode cX11_sound 81 = .ok (.getfield 16, 3) := by decide +kernel
theorem dX11_sound_84 : decode cX11_sound 84 = .ok (.iload_n 3, 1) := by decide +kernel
theorem dX11_sound_85 : decode cX11_sound 85 = .ok (.iaload, 1) := by decide +kernel
theorem dX11_sound_86 : decode cX11_sound 86 = .ok (.ifCond .lt 89, 3) := by decide +kernel
theorem dX11_sound_89 : decode cX11_sound 89 = .ok (.aload_n 0, 1) := by decide +kernel
theorem dX11_sound_90 : decode cX11_sound 90 = .ok (.getfield 16, 3) := by decide +kernel
theorem dX11_sound_93 : decode cX11_sound 93 = .ok (.iload_n 3, 1) := by decide +kernel
theorem dX11_sound_94 : decode cX11_sound 94 = .ok (.iaload, 1) := by decide +kernel
theorem dX11_sound_95 : decode cX11_sound 95 = .ok (.iload 4, 2) := by decide +kernel
theorem dX11_sound_97 : decode cX11_sound 97 = .ok (.invokestatic 133, 3) := by decide +kernel
theorem dX11_sound_100 : decode cX11_sound 100 = .ok (.if_icmp .lt 14, 3) := by decide +kernel
theorem dX11_sound_103 : decode cX11_sound 103 = .ok (.iload 5, 2) := by decide +kernel
theorem dX11_sound_105 : decode cX11_sound 105 = .ok (.bipush 6, 2) := by decide +kernel
theorem dX11_sound_107 : decode cX11_sound 107 = .ok (.if_icmp .gt 7, 3) := by decide +kernel
theorem dX11_sound_110 : decode cX11_sound 110 = .ok (.iconst 1, 1) := by decide +kernel
theorem dX11_sound_111 : decode cX11_sound 111 = .ok (.goto 4, 3) := by decide +kernel
theorem dX11_sound_114 : decode cX11_sound 114 = .ok (.iconst 0, 1) := by decide +kernel
theorem dX11_sound_115 : decode cX11_sound 115 = .ok (.istore_n 1, 1) := by decide +kernel
theorem dX11_sound_116 : decode cX11_sound 116 = .ok (.iload_n 1, 1) := by decide +kernel
theorem dX11_sound_117 : decode cX11_sound 117 = .ok (.ifCond .eq 30, 3) := by decide +kernel
theorem dX11_sound_120 : decode cX11_sound 120 = .ok (.iload 4, 2) := by decide +kernel
theorem dX11_sound_122 : decode cX11_sound 122 = .ok (.bipush 13, 2) := by decide +kernel
theorem dX11_sound_124 : decode cX11_sound 124 = .ok (.if_icmp .eq 10, 3) := by decide +kernel
theorem dX11_sound_127 : decode cX11_sound 127 = .ok (.iload 4, 2) := by decide +kernel
theorem dX11_sound_129 : decode cX11_sound 129 = .ok (.bipush 14, 2) := by decide +kernel
theorem dX11_sound_131 : decode cX11_sound 131 = .ok (.if_icmp .ne 16, 3) := by decide +kernel
theorem dX11_sound_134 : decode cX11_sound 134 = .ok (.aload_n 0, 1) := by decide +kernel
theorem dX11_sound_135 : decode cX11_sound 135 = .ok (.aload_n 0, 1) := by decide +kernel
theorem dX11_sound_136 : decode cX11_sound 136 = .ok (.getfield 13, 3) := by decide +kernel
theorem dX11_sound_139 : decode cX11_sound 139 = .ok (.iload_n 3, 1) := by decide +kernel
theorem dX11_sound_140 : decode cX11_sound 140 = .ok (.iaload, 1) := by decide +kernel
theorem dX11_sound_141 : decode cX11_sound 141 = .ok (.iload 5, 2) := by decide +kernel
theorem dX11_sound_143 : decode cX11_sound 143 = .ok (.invokevirtual 129, 3) := by decide +kernel
theorem dX11_sound_146 : decode cX11_sound 146 = .ok (.istore_n 1, 1) := by decide +kernel
theorem dX11_sound_147 : decode cX11_sound 147 = .ok (.iload_n 1, 1) := by decide +kernel
theorem dX11_sound_148 : decode cX11_sound 148 = .ok (.ifCond .eq 27, 3) := by decide +kernel
theorem dX11_sound_151 : decode cX11_sound 151 = .ok (.iload 4, 2) := by decide +kernel
theorem dX11_sound_153 : decode cX11_sound 153 = .ok (.bipush 13, 2) := by decide +kernel
theorem dX11_sound_155 : decode cX11_sound 155 = .ok (.if_icmp .eq 20, 3) := by decide +kernel
theorem dX11_sound_158 : decode cX11_sound 158 = .ok (.iload 4, 2) := by decide +kernel
theorem dX11_sound_160 : decode cX11_sound 160 = .ok (.bipush 15, 2) := by decide +kernel
theorem dX11_sound_162 : decode cX11_sound 162 = .ok (.if_icmp .eq 13, 3) := by decide +kernel
theorem dX11_sound_165 : decode cX11_sound 165 = .ok (.aload_n 0, 1) := by decide +kernel
theorem dX11_sound_166 : decode cX11_sound 166 = .ok (.iload_n 3, 1) := by decide +kernel
theorem dX11_sound_167 : decode cX11_sound 167 = .ok (.iconst 1, 1) := by decide +kernel
theorem dX11_sound_168 : decode cX11_sound 168 = .ok (.iadd, 1) := by decide +kernel
theorem dX11_sound_169 : decode cX11_sound 169 = .ok (.iload 5, 2) := by decide +kernel
theorem dX11_sound_171 : decode cX11_sound 171 = .ok (.invokevirtual 129, 3) := by decide +kernel
theorem dX11_sound_174 : decode cX11_sound 174 = .ok (.istore_n 1, 1) := by decide +kernel
theorem dX11_sound_175 : decode cX11_sound 175 = .ok (.iinc 3 1, 3) := by decide +kernel
theorem dX11_sound_178 : decode cX11_sound 178 = .ok (.goto (-138), 3) := by decide +kernel
theorem dX11_sound_181 : decode cX11_sound 181 = .ok (.iinc 2 1, 3) := by decide +kernel
theorem dX11_sound_184 : decode cX11_sound 184 = .ok (.goto (-154), 3) := by decide +kernel
theorem dX11_sound_187 : decode cX11_sound 187 = .ok (.iload_n 1, 1) := by decide +kernel
theorem dX11_sound_188 : decode cX11_sound 188 = .ok (.ireturn, 1) := by decide +kernel
theorem dX11_fresh_0 : decode cX11_fresh 0 = .ok (.iconst 0, 1) := by decide +kernel
theorem dX11_fresh_1 : decode cX11_fresh 1 = .ok (.istore_n 1, 1) := by decide +kernel
theorem dX11_fresh_2 : decode cX11_fresh 2 = .ok (.iload_n 1, 1) := by decide +kernel
theorem dX11_fresh_3 : decode cX11_fresh 3 = .ok (.bipush 6, 2) := by decide +kernel
theorem dX11_fresh_5 : decode cX11_fresh 5 = .ok (.if_icmp .ge 16, 3) := by decide +kernel
theorem dX11_fresh_8 : decode cX11_fresh 8 = .ok (.aload_n 0, 1) := by decide +kernel
theorem dX11_fresh_9 : decode cX11_fresh 9 = .ok (.getfield 23, 3) := by decide +kernel
theorem dX11_fresh_12 : decode cX11_fresh 12 = .ok (.iload_n 1, 1) := by decide +kernel
theorem dX11_fresh_13 : decode cX11_fresh 13 = .ok (.iconst 0, 1) := by decide +kernel
theorem dX11_fresh_14 : decode cX11_fresh 14 = .ok (.iastore, 1) := by decide +kernel
theorem dX11_fresh_15 : decode cX11_fresh 15 = .ok (.iinc 1 1, 3) := by decide +kernel
theorem dX11_fresh_18 : decode cX11_fresh 18 = .ok (.goto (-16), 3) := by decide +kernel
theorem dX11_fresh_21 : decode cX11_fresh 21 = .ok (.aload_n 0, 1) := by decide +kernel
theorem dX11_fresh_22 : decode cX11_fresh 22 = .ok (.iconst 0, 1) := by decide +kernel
theorem dX11_fresh_23 : decode cX11_fresh 23 = .ok (.putfield 139, 3) := by decide +kernel
theorem dX11_fresh_26 : decode cX11_fresh 26 = .ok (.aload_n 0, 1) := by decide +kernel
theorem dX11_fresh_27 : decode cX11_fresh 27 = .ok (.iconst 0, 1) := by decide +kernel
theorem dX11_fresh_28 : decode cX11_fresh 28 = .ok (.putfield 142, 3) := by decide +kernel
theorem dX11_fresh_31 : decode cX11_fresh 31 = .ok (.iconst 0, 1) := by decide +kernel
theorem dX11_fresh_32 : decode cX11_fresh 32 = .ok (.istore_n 1, 1) := by decide +kernel
theorem dX11_fresh_33 : decode cX11_fresh 33 = .ok (.iload_n 1, 1) := by decide +kernel
theorem dX11_fresh_34 : decode cX11_fresh 34 = .ok (.bipush 40, 2) := by decide +kernel
theorem dX11_fresh_36 : decode cX11_fresh 36 = .ok (.if_icmp .ge 23, 3) := by decide +kernel
theorem dX11_fresh_39 : decode cX11_fresh 39 = .ok (.aload_n 0, 1) := by decide +kernel
theorem dX11_fresh_40 : decode cX11_fresh 40 = .ok (.getfield 32, 3) := by decide +kernel
theorem dX11_fresh_43 : decode cX11_fresh 43 = .ok (.iload_n 1, 1) := by decide +kernel
theorem dX11_fresh_44 : decode cX11_fresh 44 = .ok (.iconst 0, 1) := by decide +kernel
theorem dX11_fresh_45 : decode cX11_fresh 45 = .ok (.iastore, 1) := by decide +kernel
theorem dX11_fresh_46 : decode cX11_fresh 46 = .ok (.aload_n 0, 1) := by decide +kernel
theorem dX11_fresh_47 : decode cX11_fresh 47 = .ok (.getfield 35, 3) := by decide +kernel
theorem dX11_fresh_50 : decode cX11_fresh 50 = .ok (.iload_n 1, 1) := by decide +kernel
theorem dX11_fresh_51 : decode cX11_fresh 51 = .ok (.iconst 0, 1) := by decide +kernel
theorem dX11_fresh_52 : decode cX11_fresh 52 = .ok (.iastore, 1) := by decide +kernel
theorem dX11_fresh_53 : decode cX11_fresh 53 = .ok (.iinc 1 1, 3) := by decide +kernel
theorem dX11_fresh_56 : decode cX11_fresh 56 = .ok (.goto (-23), 3) := by decide +kernel
theorem dX11_fresh_59 : decode cX11_fresh 59 = .ok (.aload_n 0, 1) := by decide +kernel
theorem dX11_fresh_60 : decode cX11_fresh 60 = .ok (.iconst (-1), 1) := by decide +kernel
theorem dX11_fresh_61 : decode cX11_fresh 61 = .ok (.putfield 38, 3) := by decide +kernel
theorem dX11_fresh_64 : decode cX11_fresh 64 = .ok (.aload_n 0, 1) := by decide +kernel
theorem dX11_fresh_65 : decode cX11_fresh 65 = .ok (.iconst 0, 1) := by decide +kernel
theorem dX11_fresh_66 : decode cX11_fresh 66 = .ok (.putfield 145, 3) := by decide +kernel
theorem dX11_fresh_69 : decode cX11_fresh 69 = .ok (.aload_n 0, 1) := by decide +kernel
theorem dX11_fresh_70 : decode cX11_fresh 70 = .ok (.iconst (-1), 1) := by decide +kernel
theorem dX11_fresh_71 : decode cX11_fresh 71 = .ok (.putfield 48, 3) := by decide +kernel
theorem dX11_fresh_74 : decode cX11_fresh 74 = .ok (.aload_n 0, 1) := by decide +kernel
theorem dX11_fresh_75 : decode cX11_fresh 75 = .ok (.iconst 0, 1) := by decide +kernel
theorem dX11_fresh_76 : decode cX11_fresh 76 = .ok (.putfield 148, 3) := by decide +kernel
theorem dX11_fresh_79 : decode cX11_fresh 79 = .ok (.aload_n 0, 1) := by decide +kernel
theorem dX11_fresh_80 : decode cX11_fresh 80 = .ok (.iconst 0, 1) := by decide +kernel
theorem dX11_fresh_81 : decode cX11_fresh 81 = .ok (.putfield 151, 3) := by decide +kernel
theorem dX11_fresh_84 : decode cX11_fresh 84 = .ok (.aload_n 0, 1) := by decide +kernel
theorem dX11_fresh_85 : decode cX11_fresh 85 = .ok (.iconst 0, 1) := by decide +kernel
theorem dX11_fresh_86 : decode cX11_fresh 86 = .ok (.putfield 154, 3) := by decide +kernel
theorem dX11_fresh_89 : decode cX11_fresh 89 = .ok (.aload_n 0, 1) := by decide +kernel
theorem dX11_fresh_90 : decode cX11_fresh 90 = .ok (.iconst 0, 1) := by decide +kernel
theorem dX11_fresh_91 : decode cX11_fresh 91 = .ok (.putfield 157, 3) := by decide +kernel
theorem dX11_fresh_94 : decode cX11_fresh 94 = .ok (.return_, 1) := by decide +kernel
theorem dX11_begin_0 : decode cX11_begin 0 = .ok (.aload_n 0, 1) := by decide +kernel
theorem dX11_begin_1 : decode cX11_begin 1 = .ok (.iconst 0, 1) := by decide +kernel
theorem dX11_begin_2 : decode cX11_begin 2 = .ok (.putfield 111, 3) := by decide +kernel
theorem dX11_begin_5 : decode cX11_begin 5 = .ok (.aload_n 0, 1) := by decide +kernel
theorem dX11_begin_6 : decode cX11_begin 6 = .ok (.invokevirtual 160, 3) := by decide +kernel
theorem dX11_begin_9 : decode cX11_begin 9 = .ok (.ifCond .ne 17, 3) := by decide +kernel
theorem dX11_begin_12 : decode cX11_begin 12 = .ok (.aload_n 0, 1) := by decide +kernel
theorem dX11_begin_13 : decode cX11_begin 13 = .ok (.iconst 1, 1) := by decide +kernel
theorem dX11_begin_14 : decode cX11_begin 14 = .ok (.invokevirtual 118, 3) := by decide +kernel
theorem dX11_begin_17 : decode cX11_begin 17 = .ok (.ifCond .le 7, 3) := by decide +kernel
theorem dX11_begin_20 : decode cX11_begin 20 = .ok (.iconst 1, 1) := by decide +kernel
theorem dX11_begin_21 : decode cX11_begin 21 = .ok (.goto 4, 3) := by decide +kernel
theorem dX11_begin_24 : decode cX11_begin 24 = .ok (.iconst 0, 1) := by decide +kernel
theorem dX11_begin_25 : decode cX11_begin 25 = .ok (.ireturn, 1) := by decide +kernel
theorem dX11_begin_26 : decode cX11_begin 26 = .ok (.aload_n 0, 1) := by decide +kernel
theorem dX11_begin_27 : decode cX11_begin 27 = .ok (.getfield 125, 3) := by decide +kernel
theorem dX11_begin_30 : decode cX11_begin 30 = .ok (.istore 4, 2) := by decide +kernel
theorem dX11_begin_32 : decode cX11_begin 32 = .ok (.aload_n 0, 1) := by decide +kernel
theorem dX11_begin_33 : decode cX11_begin 33 = .ok (.invokevirtual 164, 3) := by decide +kernel
theorem dX11_begin_36 : decode cX11_begin 36 = .ok (.aload_n 0, 1) := by decide +kernel
theorem dX11_begin_37 : decode cX11_begin 37 = .ok (.getfield 23, 3) := by decide +kernel
theorem dX11_begin_40 : decode cX11_begin 40 = .ok (.iconst 0, 1) := by decide +kernel
theorem dX11_begin_41 : decode cX11_begin 41 = .ok (.iload_n 1, 1) := by decide +kernel
theorem dX11_begin_42 : decode cX11_begin 42 = .ok (.iastore, 1) := by decide +kernel
theorem dX11_begin_43 : decode cX11_begin 43 = .ok (.aload_n 0, 1) := by decide +kernel
theorem dX11_begin_44 : decode cX11_begin 44 = .ok (.getfield 23, 3) := by decide +kernel
theorem dX11_begin_47 : decode cX11_begin 47 = .ok (.iconst 1, 1) := by decide +kernel
theorem dX11_begin_48 : decode cX11_begin 48 = .ok (.iload_n 2, 1) := by decide +kernel
theorem dX11_begin_49 : decode cX11_begin 49 = .ok (.iastore, 1) := by decide +kernel
theorem dX11_begin_50 : decode cX11_begin 50 = .ok (.aload_n 0, 1) := by decide +kernel
theorem dX11_begin_51 : decode cX11_begin 51 = .ok (.iconst 0, 1) := by decide +kernel
theorem dX11_begin_52 : decode cX11_begin 52 = .ok (.putfield 19, 3) := by decide +kernel
theorem dX11_begin_55 : decode cX11_begin 55 = .ok (.aload_n 0, 1) := by decide +kernel
theorem dX11_begin_56 : decode cX11_begin 56 = .ok (.iload_n 3, 1) := by decide +kernel
theorem dX11_begin_57 : decode cX11_begin 57 = .ok (.putfield 167, 3) := by decide +kernel
theorem dX11_begin_60 : decode cX11_begin 60 = .ok (.aload_n 0, 1) := by decide +kernel
theorem dX11_begin_61 : decode cX11_begin 61 = .ok (.iconst 1, 1) := by decide +kernel
theorem dX11_begin_62 : decode cX11_begin 62 = .ok (.putfield 125, 3) := by decide +kernel
theorem dX11_begin_65 : decode cX11_begin 65 = .ok (.iload 4, 2) := by decide +kernel
theorem dX11_begin_67 : decode cX11_begin 67 = .ok (.ireturn, 1) := by decide +kernel
theorem dX11_clear_0 : decode cX11_clear 0 = .ok (.aload_n 0, 1) := by decide +kernel
theorem dX11_clear_1 : decode cX11_clear 1 = .ok (.iconst 0, 1) := by decide +kernel
theorem dX11_clear_2 : decode cX11_clear 2 = .ok (.putfield 111, 3) := by decide +kernel
theorem dX11_clear_5 : decode cX11_clear 5 = .ok (.aload_n 0, 1) := by decide +kernel
theorem dX11_clear_6 : decode cX11_clear 6 = .ok (.getfield 122, 3) := by decide +kernel
theorem dX11_clear_9 : decode cX11_clear 9 = .ok (.istore_n 1, 1) := by decide +kernel
theorem dX11_clear_10 : decode cX11_clear 10 = .ok (.aload_n 0, 1) := by decide +kernel
theorem dX11_clear_11 : decode cX11_clear 11 = .ok (.iconst 0, 1) := by decide +kernel
theorem dX11_clear_12 : decode cX11_clear 12 = .ok (.putfield 122, 3) := by decide +kernel
theorem dX11_clear_15 : decode cX11_clear 15 = .ok (.aload_n 0, 1) := by decide +kernel
theorem dX11_clear_16 : decode cX11_clear 16 = .ok (.invokevirtual 164, 3) := by decide +kernel
theorem dX11_clear_19 : decode cX11_clear 19 = .ok (.aload_n 0, 1) := by decide +kernel
theorem dX11_clear_20 : decode cX11_clear 20 = .ok (.iconst (-1), 1) := by decide +kernel
theorem dX11_clear_21 : decode cX11_clear 21 = .ok (.putfield 19, 3) := by decide +kernel
theorem dX11_clear_24 : decode cX11_clear 24 = .ok (.aload_n 0, 1) := by decide +kernel
theorem dX11_clear_25 : decode cX11_clear 25 = .ok (.iconst 0, 1) := by decide +kernel
theorem dX11_clear_26 : decode cX11_clear 26 = .ok (.putfield 125, 3) := by decide +kernel
theorem dX11_clear_29 : decode cX11_clear 29 = .ok (.iload_n 1, 1) := by decide +kernel
theorem dX11_clear_30 : decode cX11_clear 30 = .ok (.ireturn, 1) := by decide +kernel
theorem dX11_push_0 : decode cX11_push 0 = .ok (.aload_n 0, 1) := by decide +kernel
theorem dX11_push_1 : decode cX11_push 1 = .ok (.getfield 26, 3) := by decide +kernel
theorem dX11_push_4 : decode cX11_push 4 = .ok (.aload_n 0, 1) := by decide +kernel
theorem dX11_push_5 : decode cX11_push 5 = .ok (.getfield 139, 3) := by decide +kernel
theorem dX11_push_8 : decode cX11_push 8 = .ok (.iload_n 1, 1) := by decide +kernel
theorem dX11_push_9 : decode cX11_push 9 = .ok (.iastore, 1) := by decide +kernel
theorem dX11_push_10 : decode cX11_push 10 = .ok (.aload_n 0, 1) := by decide +kernel
theorem dX11_push_11 : decode cX11_push 11 = .ok (.dup, 1) := by decide +kernel
theorem dX11_push_12 : decode cX11_push 12 = .ok (.getfield 139, 3) := by decide +kernel
theorem dX11_push_15 : decode cX11_push 15 = .ok (.iconst 1, 1) := by decide +kernel
theorem dX11_push_16 : decode cX11_push 16 = .ok (.iadd, 1) := by decide +kernel
theorem dX11_push_17 : decode cX11_push 17 = .ok (.putfield 139, 3) := by decide +kernel
theorem dX11_push_20 : decode cX11_push 20 = .ok (.return_, 1) := by decide +kernel
theorem dX11_pop_0 : decode cX11_pop 0 = .ok (.aload_n 0, 1) := by decide +kernel
theorem dX11_pop_1 : decode cX11_pop 1 = .ok (.dup, 1) := by decide +kernel
theorem dX11_pop_2 : decode cX11_pop 2 = .ok (.getfield 139, 3) := by decide +kernel
theorem dX11_pop_5 : decode cX11_pop 5 = .ok (.iconst 1, 1) := by decide +kernel
theorem dX11_pop_6 : decode cX11_pop 6 = .ok (.isub, 1) := by decide +kernel
theorem dX11_pop_7 : decode cX11_pop 7 = .ok (.putfield 139, 3) := by decide +kernel
theorem dX11_pop_10 : decode cX11_pop 10 = .ok (.aload_n 0, 1) := by decide +kernel
theorem dX11_pop_11 : decode cX11_pop 11 = .ok (.getfield 26, 3) := by decide +kernel
theorem dX11_pop_14 : decode cX11_pop 14 = .ok (.aload_n 0, 1) := by decide +kernel
theorem dX11_pop_15 : decode cX11_pop 15 = .ok (.getfield 139, 3) := by decide +kernel
theorem dX11_pop_18 : decode cX11_pop 18 = .ok (.iaload, 1) := by decide +kernel
theorem dX11_pop_19 : decode cX11_pop 19 = .ok (.ireturn, 1) := by decide +kernel
theorem dX11_worked_0 : decode cX11_worked 0 = .ok (.iload_n 0, 1) := by decide +kernel
theorem dX11_worked_1 : decode cX11_worked 1 = .ok (.bipush 6, 2) := by decide +kernel
theorem dX11_worked_3 : decode cX11_worked 3 = .ok (.if_icmp .ge 29, 3) := by decide +kernel
theorem dX11_worked_6 : decode cX11_worked 6 = .ok (.iload_n 0, 1) := by decide +kernel
theorem dX11_worked_7 : decode cX11_worked 7 = .ok (.iconst 3, 1) := by decide +kernel
theorem dX11_worked_8 : decode cX11_worked 8 = .ok (.if_icmp .ne 9, 3) := by decide +kernel
theorem dX11_worked_11 : decode cX11_worked 11 = .ok (.iload_n 1, 1) := by decide +kernel
theorem dX11_worked_12 : decode cX11_worked 12 = .ok (.iload_n 2, 1) := by decide +kernel
theorem dX11_worked_13 : decode cX11_worked 13 = .ok (.iadd, 1) := by decide +kernel
theorem dX11_worked_14 : decode cX11_worked 14 = .ok (.goto 17, 3) := by decide +kernel
theorem dX11_worked_17 : decode cX11_worked 17 = .ok (.iload_n 0, 1) := by decide +kernel
theorem dX11_worked_18 : decode cX11_worked 18 = .ok (.iconst 4, 1) := by decide +kernel
theorem dX11_worked_19 : decode cX11_worked 19 = .ok (.if_icmp .ne 9, 3) := by decide +kernel
theorem dX11_worked_22 : decode cX11_worked 22 = .ok (.iload_n 1, 1) := by decide +kernel
theorem dX11_worked_23 : decode cX11_worked 23 = .ok (.iload_n 2, 1) := by decide +kernel
theorem dX11_worked_24 : decode cX11_worked 24 = .ok (.isub, 1) := by decide +kernel
theorem dX11_worked_25 : decode cX11_worked 25 = .ok (.goto 6, 3) := by decide +kernel
theorem dX11_worked_28 : decode cX11_worked 28 = .ok (.iload_n 1, 1) := by decide +kernel
theorem dX11_worked_29 : decode cX11_worked 29 = .ok (.iload_n 2, 1) := by decide +kernel
theorem dX11_worked_30 : decode cX11_worked 30 = .ok (.imul, 1) := by decide +kernel
theorem dX11_worked_31 : decode cX11_worked 31 = .ok (.ireturn, 1) := by decide +kernel
theorem dX11_worked_32 : decode cX11_worked 32 = .ok (.iload_n 0, 1) := by decide +kernel
theorem dX11_worked_33 : decode cX11_worked 33 = .ok (.bipush 6, 2) := by decide +kernel
theorem dX11_worked_35 : decode cX11_worked 35 = .ok (.if_icmp .ne 9, 3) := by decide +kernel
theorem dX11_worked_38 : decode cX11_worked 38 = .ok (.iload_n 1, 1) := by decide +kernel
theorem dX11_worked_39 : decode cX11_worked 39 = .ok (.iload_n 2, 1) := by decide +kernel
theorem dX11_worked_40 : decode cX11_worked 40 = .ok (.iand, 1) := by decide +kernel
theorem dX11_worked_41 : decode cX11_worked 41 = .ok (.goto 32, 3) := by decide +kernel
theorem dX11_worked_44 : decode cX11_worked 44 = .ok (.iload_n 0, 1) := by decide +kernel
theorem dX11_worked_45 : decode cX11_worked 45 = .ok (.bipush 7, 2) := by decide +kernel
theorem dX11_worked_47 : decode cX11_worked 47 = .ok (.if_icmp .ne 16, 3) := by decide +kernel
theorem dX11_worked_50 : decode cX11_worked 50 = .ok (.iload_n 1, 1) := by decide +kernel
theorem dX11_worked_51 : decode cX11_worked 51 = .ok (.iload_n 2, 1) := by decide +kernel
theorem dX11_worked_52 : decode cX11_worked 52 = .ok (.if_icmp .ge 7, 3) := by decide +kernel
theorem dX11_worked_55 : decode cX11_worked 55 = .ok (.iconst 1, 1) := by decide +kernel
theorem dX11_worked_56 : decode cX11_worked 56 = .ok (.goto 17, 3) := by decide +kernel
theorem dX11_worked_59 : decode cX11_worked 59 = .ok (.iconst 0, 1) := by decide +kernel
theorem dX11_worked_60 : decode cX11_worked 60 = .ok (.goto 13, 3) := by decide +kernel
theorem dX11_worked_63 : decode cX11_worked 63 = .ok (.iload_n 1, 1) := by decide +kernel
theorem dX11_worked_64 : decode cX11_worked 64 = .ok (.iload_n 2, 1) := by decide +kernel
theorem dX11_worked_65 : decode cX11_worked 65 = .ok (.if_icmp .ne 7, 3) := by decide +kernel
theorem dX11_worked_68 : decode cX11_worked 68 = .ok (.iconst 1, 1) := by decide +kernel
theorem dX11_worked_69 : decode cX11_worked 69 = .ok (.goto 4, 3) := by decide +kernel
theorem dX11_worked_72 : decode cX11_worked 72 = .ok (.iconst 0, 1) := by decide +kernel
theorem dX11_worked_73 : decode cX11_worked 73 = .ok (.ireturn, 1) := by decide +kernel
theorem dX11_give_0 : decode cX11_give 0 = .ok (.bipush 29, 2) := by decide +kernel
theorem dX11_give_2 : decode cX11_give 2 = .ok (.istore_n 2, 1) := by decide +kernel
theorem dX11_give_3 : decode cX11_give 3 = .ok (.iload_n 2, 1) := by decide +kernel
theorem dX11_give_4 : decode cX11_give 4 = .ok (.ifCond .le 23, 3) := by decide +kernel
theorem dX11_give_7 : decode cX11_give 7 = .ok (.aload_n 0, 1) := by decide +kernel
theorem dX11_give_8 : decode cX11_give 8 = .ok (.getfield 29, 3) := by decide +kernel
theorem dX11_give_11 : decode cX11_give 11 = .ok (.iload_n 2, 1) := by decide +kernel
theorem dX11_give_12 : decode cX11_give 12 = .ok (.aload_n 0, 1) := by decide +kernel
theorem dX11_give_13 : decode cX11_give 13 = .ok (.getfield 29, 3) := by decide +kernel
theorem dX11_give_16 : decode cX11_give 16 = .ok (.iload_n 2, 1) := by decide +kernel
theorem dX11_give_17 : decode cX11_give 17 = .ok (.iconst 1, 1) := by decide +kernel
theorem dX11_give_18 : decode cX11_give 18 = .ok (.isub, 1) := by decide +kernel
theorem dX11_give_19 : decode cX11_give 19 = .ok (.iaload, 1) := by decide +kernel
theorem dX11_give_20 : decode cX11_give 20 = .ok (.iastore, 1) := by decide +kernel
theorem dX11_give_21 : decode cX11_give 21 = .ok (.iinc 2 (-1), 3) := by decide +kernel
theorem dX11_give_24 : decode cX11_give 24 = .ok (.goto (-21), 3) := by decide +kernel
theorem dX11_give_27 : decode cX11_give 27 = .ok (.aload_n 0, 1) := by decide +kernel
theorem dX11_give_28 : decode cX11_give 28 = .ok (.getfield 29, 3) := by decide +kernel
theorem dX11_give_31 : decode cX11_give 31 = .ok (.iconst 0, 1) := by decide +kernel
theorem dX11_give_32 : decode cX11_give 32 = .ok (.iload_n 1, 1) := by decide +kernel
theorem dX11_give_33 : decode cX11_give 33 = .ok (.iastore, 1) := by decide +kernel
theorem dX11_give_34 : decode cX11_give 34 = .ok (.aload_n 0, 1) := by decide +kernel
theorem dX11_give_35 : decode cX11_give 35 = .ok (.dup, 1) := by decide +kernel
theorem dX11_give_36 : decode cX11_give 36 = .ok (.getfield 142, 3) := by decide +kernel
theorem dX11_give_39 : decode cX11_give 39 = .ok (.iconst 1, 1) := by decide +kernel
theorem dX11_give_40 : decode cX11_give 40 = .ok (.iadd, 1) := by decide +kernel
theorem dX11_give_41 : decode cX11_give 41 = .ok (.putfield 142, 3) := by decide +kernel
theorem dX11_give_44 : decode cX11_give 44 = .ok (.return_, 1) := by decide +kernel
theorem dX11_does_0 : decode cX11_does 0 = .ok (.aload_n 0, 1) := by decide +kernel
theorem dX11_does_1 : decode cX11_does 1 = .ok (.getfield 7, 3) := by decide +kernel
theorem dX11_does_4 : decode cX11_does 4 = .ok (.iload_n 1, 1) := by decide +kernel
theorem dX11_does_5 : decode cX11_does 5 = .ok (.iaload, 1) := by decide +kernel
theorem dX11_does_6 : decode cX11_does 6 = .ok (.istore_n 2, 1) := by decide +kernel
theorem dX11_does_7 : decode cX11_does 7 = .ok (.iload_n 2, 1) := by decide +kernel
theorem dX11_does_8 : decode cX11_does 8 = .ok (.ifCond .ne 13, 3) := by decide +kernel
theorem dX11_does_11 : decode cX11_does 11 = .ok (.aload_n 0, 1) := by decide +kernel
theorem dX11_does_12 : decode cX11_does 12 = .ok (.aload_n 0, 1) := by decide +kernel
theorem dX11_does_13 : decode cX11_does 13 = .ok (.getfield 13, 3) := by decide +kernel
theorem dX11_does_16 : decode cX11_does 16 = .ok (.iload_n 1, 1) := by decide +kernel
theorem dX11_does_17 : decode cX11_does 17 = .ok (.iaload, 1) := by decide +kernel
theorem dX11_does_18 : decode cX11_does 18 = .ok (.invokevirtual 170, 3) := by decide +kernel
theorem dX11_does_21 : decode cX11_does 21 = .ok (.iload_n 2, 1) := by decide +kernel
theorem dX11_does_22 : decode cX11_does 22 = .ok (.iconst 1, 1) := by decide +kernel
theorem dX11_does_23 : decode cX11_does 23 = .ok (.if_icmp .ne 18, 3) := by decide +kernel
theorem dX11_does_26 : decode cX11_does 26 = .ok (.aload_n 0, 1) := by decide +kernel
theorem dX11_does_27 : decode cX11_does 27 = .ok (.aload_n 0, 1) := by decide +kernel
theorem dX11_does_28 : decode cX11_does 28 = .ok (.getfield 23, 3) := by decide +kernel
theorem dX11_does_31 : decode cX11_does 31 = .ok (.aload_n 0, 1) := by decide +kernel
theorem dX11_does_32 : decode cX11_does 32 = .ok (.getfield 13, 3) := by decide +kernel
theorem dX11_does_35 : decode cX11_does 35 = .ok (.iload_n 1, 1) := by decide +kernel
theorem dX11_does_36 : decode cX11_does 36 = .ok (.iaload, 1) := by decide +kernel
theorem dX11_does_37 : decode cX11_does 37 = .ok (.iaload, 1) := by decide +kernel
theorem dX11_does_38 : decode cX11_does 38 = .ok (.invokevirtual 170, 3) := by decide +kernel
theorem dX11_does_41 : decode cX11_does 41 = .ok (.iload_n 2, 1) := by decide +kernel
theorem dX11_does_42 : decode cX11_does 42 = .ok (.iconst 2, 1) := by decide +kernel
theorem dX11_does_43 : decode cX11_does 43 = .ok (.if_icmp .ne 18, 3) := by decide +kernel
theorem dX11_does_46 : decode cX11_does 46 = .ok (.aload_n 0, 1) := by decide +kernel
theorem dX11_does_47 : decode cX11_does 47 = .ok (.getfield 23, 3) := by decide +kernel
theorem dX11_does_50 : decode cX11_does 50 = .ok (.aload_n 0, 1) := by decide +kernel
theorem dX11_does_51 : decode cX11_does 51 = .ok (.getfield 13, 3) := by decide +kernel
theorem dX11_does_54 : decode cX11_does 54 = .ok (.iload_n 1, 1) := by decide +kernel
theorem dX11_does_55 : decode cX11_does 55 = .ok (.iaload, 1) := by decide +kernel
theorem dX11_does_56 : decode cX11_does 56 = .ok (.aload_n 0, 1) := by decide +kernel
theorem dX11_does_57 : decode cX11_does 57 = .ok (.invokevirtual 174, 3) := by decide +kernel
theorem dX11_does_60 : decode cX11_does 60 = .ok (.iastore, 1) := by decide +kernel
theorem dX11_does_61 : decode cX11_does 61 = .ok (.iload_n 2, 1) := by decide +kernel
theorem dX11_does_62 : decode cX11_does 62 = .ok (.iconst 3, 1) := by decide +kernel
theorem dX11_does_63 : decode cX11_does 63 = .ok (.bipush 8, 2) := by decide +kernel
theorem dX11_does_65 : decode cX11_does 65 = .ok (.invokestatic 114, 3) := by decide +kernel
theorem dX11_does_68 : decode cX11_does 68 = .ok (.ifCond .eq 25, 3) := by decide +kernel
theorem dX11_does_71 : decode cX11_does 71 = .ok (.aload_n 0, 1) := by decide +kernel
theorem dX11_does_72 : decode cX11_does 72 = .ok (.invokevirtual 174, 3) := by decide +kernel
theorem dX11_does_75 : decode cX11_does 75 = .ok (.istore_n 3, 1) := by decide +kernel
theorem dX11_does_76 : decode cX11_does 76 = .ok (.aload_n 0, 1) := by decide +kernel
theorem dX11_does_77 : decode cX11_does 77 = .ok (.invokevirtual 174, 3) := by decide +kernel
theorem dX11_does_80 : decode cX11_does 80 = .ok (.istore 4, 2) := by decide +kernel
theorem dX11_does_82 : decode cX11_does 82 = .ok (.aload_n 0, 1) := by decide +kernel
theorem dX11_does_83 : decode cX11_does 83 = .ok (.iload_n 2, 1) := by decide +kernel
theorem dX11_does_84 : decode cX11_does 84 = .ok (.iload 4, 2) := by decide +kernel
theorem dX11_does_86 : decode cX11_does 86 = .ok (.iload_n 3, 1) := by decide +kernel
theorem dX11_does_87 : decode cX11_does 87 = .ok (.invokestatic 178, 3) := by decide +kernel
theorem dX11_does_90 : decode cX11_does 90 = .ok (.invokevirtual 170, 3) := by decide +kernel
theorem dX11_does_93 : decode cX11_does 93 = .ok (.iload_n 2, 1) := by decide +kernel
theorem dX11_does_94 : decode cX11_does 94 = .ok (.bipush 9, 2) := by decide +kernel
theorem dX11_does_96 : decode cX11_does 96 = .ok (.if_icmp .ne 18, 3) := by decide +kernel
theorem dX11_does_99 : decode cX11_does 99 = .ok (.aload_n 0, 1) := by decide +kernel
theorem dX11_does_100 : decode cX11_does 100 = .ok (.aload_n 0, 1) := by decide +kernel
theorem dX11_does_101 : decode cX11_does 101 = .ok (.getfield 26, 3) := by decide +kernel
theorem dX11_does_104 : decode cX11_does 104 = .ok (.aload_n 0, 1) := by decide +kernel
theorem dX11_does_105 : decode cX11_does 105 = .ok (.getfield 139, 3) := by decide +kernel
theorem dX11_does_108 : decode cX11_does 108 = .ok (.iconst 1, 1) := by decide +kernel
theorem dX11_does_109 : decode cX11_does 109 = .ok (.isub, 1) := by decide +kernel
theorem dX11_does_110 : decode cX11_does 110 = .ok (.iaload, 1) := by decide +kernel
theorem dX11_does_111 : decode cX11_does 111 = .ok (.invokevirtual 170, 3) := by decide +kernel
theorem dX11_does_114 : decode cX11_does 114 = .ok (.iload_n 2, 1) := by decide +kernel
theorem dX11_does_115 : decode cX11_does 115 = .ok (.bipush 10, 2) := by decide +kernel
theorem dX11_does_117 : decode cX11_does 117 = .ok (.if_icmp .ne 8, 3) := by decide +kernel
theorem dX11_does_120 : decode cX11_does 120 = .ok (.aload_n 0, 1) := by decide +kernel
theorem dX11_does_121 : decode cX11_does 121 = .ok (.invokevirtual 174, 3) := by decide +kernel
theorem dX11_does_124 : decode cX11_does 124 = .ok (.pop, 1) := by decide +kernel
theorem dX11_does_125 : decode cX11_does 125 = .ok (.iload_n 2, 1) := by decide +kernel
theorem dX11_does_126 : decode cX11_does 126 = .ok (.bipush 11, 2) := by decide +kernel
theorem dX11_does_128 : decode cX11_does 128 = .ok (.if_icmp .ne 25, 3) := by decide +kernel
theorem dX11_does_131 : decode cX11_does 131 = .ok (.aload_n 0, 1) := by decide +kernel
theorem dX11_does_132 : decode cX11_does 132 = .ok (.invokevirtual 174, 3) := by decide +kernel
theorem dX11_does_135 : decode cX11_does 135 = .ok (.istore_n 3, 1) := by decide +kernel
theorem dX11_does_136 : decode cX11_does 136 = .ok (.aload_n 0, 1) := by decide +kernel
theorem dX11_does_137 : decode cX11_does 137 = .ok (.invokevirtual 174, 3) := by decide +kernel
theorem dX11_does_140 : decode cX11_does 140 = .ok (.istore 4, 2) := by decide +kernel
theorem dX11_does_142 : decode cX11_does 142 = .ok (.aload_n 0, 1) := by decide +kernel
theorem dX11_does_143 : decode cX11_does 143 = .ok (.iload_n 3, 1) := by decide +kernel
end
section
theorem dX11_does_144 : decode cX11_does 144 = .ok (.invokevirtual 170, 3) := by decide +kernel
theorem dX11_does_147 : decode cX11_does 147 = .ok (.aload_n 0, 1) := by decide +kernel
theorem dX11_does_148 : decode cX11_does 148 = .ok (.iload 4, 2) := by decide +kernel
theorem dX11_does_150 : decode cX11_does 150 = .ok (.invokevirtual 170, 3) := by decide +kernel
theorem dX11_does_153 : decode cX11_does 153 = .ok (.iload_n 2, 1) := by decide +kernel
theorem dX11_does_154 : decode cX11_does 154 = .ok (.bipush 12, 2) := by decide +kernel
theorem dX11_does_156 : decode cX11_does 156 = .ok (.if_icmp .ne 11, 3) := by decide +kernel
theorem dX11_does_159 : decode cX11_does 159 = .ok (.aload_n 0, 1) := by decide +kernel
theorem dX11_does_160 : decode cX11_does 160 = .ok (.aload_n 0, 1) := by decide +kernel
theorem dX11_does_161 : decode cX11_does 161 = .ok (.invokevirtual 174, 3) := by decide +kernel
theorem dX11_does_164 : decode cX11_does 164 = .ok (.invokevirtual 182, 3) := by decide +kernel
theorem dX11_does_167 : decode cX11_does 167 = .ok (.iload_n 2, 1) := by decide +kernel
theorem dX11_does_168 : decode cX11_does 168 = .ok (.bipush 13, 2) := by decide +kernel
theorem dX11_does_170 : decode cX11_does 170 = .ok (.if_icmp .ne 10, 3) := by decide +kernel
theorem dX11_does_173 : decode cX11_does 173 = .ok (.aload_n 0, 1) := by decide +kernel
theorem dX11_does_174 : decode cX11_does 174 = .ok (.getfield 13, 3) := by decide +kernel
theorem dX11_does_177 : decode cX11_does 177 = .ok (.iload_n 1, 1) := by decide +kernel
theorem dX11_does_178 : decode cX11_does 178 = .ok (.iaload, 1) := by decide +kernel
theorem dX11_does_179 : decode cX11_does 179 = .ok (.ireturn, 1) := by decide +kernel
theorem dX11_does_180 : decode cX11_does 180 = .ok (.iload_n 2, 1) := by decide +kernel
theorem dX11_does_181 : decode cX11_does 181 = .ok (.bipush 14, 2) := by decide +kernel
theorem dX11_does_183 : decode cX11_does 183 = .ok (.if_icmp .ne 23, 3) := by decide +kernel
theorem dX11_does_186 : decode cX11_does 186 = .ok (.aload_n 0, 1) := by decide +kernel
theorem dX11_does_187 : decode cX11_does 187 = .ok (.invokevirtual 174, 3) := by decide +kernel
theorem dX11_does_190 : decode cX11_does 190 = .ok (.ifCond .eq 12, 3) := by decide +kernel
theorem dX11_does_193 : decode cX11_does 193 = .ok (.aload_n 0, 1) := by decide +kernel
theorem dX11_does_194 : decode cX11_does 194 = .ok (.getfield 13, 3) := by decide +kernel
theorem dX11_does_197 : decode cX11_does 197 = .ok (.iload_n 1, 1) := by decide +kernel
theorem dX11_does_198 : decode cX11_does 198 = .ok (.iaload, 1) := by decide +kernel
theorem dX11_does_199 : decode cX11_does 199 = .ok (.goto 6, 3) := by decide +kernel
theorem dX11_does_202 : decode cX11_does 202 = .ok (.iload_n 1, 1) := by decide +kernel
theorem dX11_does_203 : decode cX11_does 203 = .ok (.iconst 1, 1) := by decide +kernel
theorem dX11_does_204 : decode cX11_does 204 = .ok (.iadd, 1) := by decide +kernel
theorem dX11_does_205 : decode cX11_does 205 = .ok (.ireturn, 1) := by decide +kernel
theorem dX11_does_206 : decode cX11_does 206 = .ok (.iload_n 2, 1) := by decide +kernel
theorem dX11_does_207 : decode cX11_does 207 = .ok (.bipush 15, 2) := by decide +kernel
theorem dX11_does_209 : decode cX11_does 209 = .ok (.if_icmp .ne 7, 3) := by decide +kernel
theorem dX11_does_212 : decode cX11_does 212 = .ok (.iconst (-1), 1) := by decide +kernel
theorem dX11_does_213 : decode cX11_does 213 = .ok (.goto 6, 3) := by decide +kernel
theorem dX11_does_216 : decode cX11_does 216 = .ok (.iload_n 1, 1) := by decide +kernel
theorem dX11_does_217 : decode cX11_does 217 = .ok (.iconst 1, 1) := by decide +kernel
theorem dX11_does_218 : decode cX11_does 218 = .ok (.iadd, 1) := by decide +kernel
theorem dX11_does_219 : decode cX11_does 219 = .ok (.ireturn, 1) := by decide +kernel
theorem dX11_giveUp_0 : decode cX11_giveUp 0 = .ok (.aload_n 0, 1) := by decide +kernel
theorem dX11_giveUp_1 : decode cX11_giveUp 1 = .ok (.getfield 35, 3) := by decide +kernel
theorem dX11_giveUp_4 : decode cX11_giveUp 4 = .ok (.iload_n 1, 1) := by decide +kernel
theorem dX11_giveUp_5 : decode cX11_giveUp 5 = .ok (.iconst 2, 1) := by decide +kernel
theorem dX11_giveUp_6 : decode cX11_giveUp 6 = .ok (.iastore, 1) := by decide +kernel
theorem dX11_giveUp_7 : decode cX11_giveUp 7 = .ok (.aload_n 0, 1) := by decide +kernel
theorem dX11_giveUp_8 : decode cX11_giveUp 8 = .ok (.iconst (-1), 1) := by decide +kernel
theorem dX11_giveUp_9 : decode cX11_giveUp 9 = .ok (.putfield 38, 3) := by decide +kernel
theorem dX11_giveUp_12 : decode cX11_giveUp 12 = .ok (.return_, 1) := by decide +kernel
theorem dX11_hot_0 : decode cX11_hot 0 = .ok (.aload_n 0, 1) := by decide +kernel
theorem dX11_hot_1 : decode cX11_hot 1 = .ok (.getfield 167, 3) := by decide +kernel
theorem dX11_hot_4 : decode cX11_hot 4 = .ok (.ifCond .eq 19, 3) := by decide +kernel
theorem dX11_hot_7 : decode cX11_hot 7 = .ok (.aload_n 0, 1) := by decide +kernel
theorem dX11_hot_8 : decode cX11_hot 8 = .ok (.getfield 35, 3) := by decide +kernel
theorem dX11_hot_11 : decode cX11_hot 11 = .ok (.iload_n 1, 1) := by decide +kernel
theorem dX11_hot_12 : decode cX11_hot 12 = .ok (.iaload, 1) := by decide +kernel
theorem dX11_hot_13 : decode cX11_hot 13 = .ok (.ifCond .ne 10, 3) := by decide +kernel
theorem dX11_hot_16 : decode cX11_hot 16 = .ok (.aload_n 0, 1) := by decide +kernel
theorem dX11_hot_17 : decode cX11_hot 17 = .ok (.getfield 38, 3) := by decide +kernel
theorem dX11_hot_20 : decode cX11_hot 20 = .ok (.ifCond .lt 4, 3) := by decide +kernel
theorem dX11_hot_23 : decode cX11_hot 23 = .ok (.return_, 1) := by decide +kernel
theorem dX11_hot_24 : decode cX11_hot 24 = .ok (.aload_n 0, 1) := by decide +kernel
theorem dX11_hot_25 : decode cX11_hot 25 = .ok (.getfield 32, 3) := by decide +kernel
theorem dX11_hot_28 : decode cX11_hot 28 = .ok (.iload_n 1, 1) := by decide +kernel
theorem dX11_hot_29 : decode cX11_hot 29 = .ok (.dup2, 1) := by decide +kernel
theorem dX11_hot_30 : decode cX11_hot 30 = .ok (.iaload, 1) := by decide +kernel
theorem dX11_hot_31 : decode cX11_hot 31 = .ok (.iconst 1, 1) := by decide +kernel
theorem dX11_hot_32 : decode cX11_hot 32 = .ok (.iadd, 1) := by decide +kernel
theorem dX11_hot_33 : decode cX11_hot 33 = .ok (.iastore, 1) := by decide +kernel
theorem dX11_hot_34 : decode cX11_hot 34 = .ok (.aload_n 0, 1) := by decide +kernel
theorem dX11_hot_35 : decode cX11_hot 35 = .ok (.getfield 32, 3) := by decide +kernel
theorem dX11_hot_38 : decode cX11_hot 38 = .ok (.iload_n 1, 1) := by decide +kernel
theorem dX11_hot_39 : decode cX11_hot 39 = .ok (.iaload, 1) := by decide +kernel
theorem dX11_hot_40 : decode cX11_hot 40 = .ok (.iconst 3, 1) := by decide +kernel
theorem dX11_hot_41 : decode cX11_hot 41 = .ok (.if_icmp .ge 4, 3) := by decide +kernel
theorem dX11_hot_44 : decode cX11_hot 44 = .ok (.return_, 1) := by decide +kernel
theorem dX11_hot_45 : decode cX11_hot 45 = .ok (.aload_n 0, 1) := by decide +kernel
theorem dX11_hot_46 : decode cX11_hot 46 = .ok (.getfield 145, 3) := by decide +kernel
theorem dX11_hot_49 : decode cX11_hot 49 = .ok (.iconst 4, 1) := by decide +kernel
theorem dX11_hot_50 : decode cX11_hot 50 = .ok (.if_icmp .eq 10, 3) := by decide +kernel
theorem dX11_hot_53 : decode cX11_hot 53 = .ok (.aload_n 0, 1) := by decide +kernel
theorem dX11_hot_54 : decode cX11_hot 54 = .ok (.getfield 139, 3) := by decide +kernel
theorem dX11_hot_57 : decode cX11_hot 57 = .ok (.ifCond .le 13, 3) := by decide +kernel
theorem dX11_hot_60 : decode cX11_hot 60 = .ok (.aload_n 0, 1) := by decide +kernel
theorem dX11_hot_61 : decode cX11_hot 61 = .ok (.getfield 35, 3) := by decide +kernel
theorem dX11_hot_64 : decode cX11_hot 64 = .ok (.iload_n 1, 1) := by decide +kernel
theorem dX11_hot_65 : decode cX11_hot 65 = .ok (.iconst 2, 1) := by decide +kernel
theorem dX11_hot_66 : decode cX11_hot 66 = .ok (.iastore, 1) := by decide +kernel
theorem dX11_hot_67 : decode cX11_hot 67 = .ok (.goto 13, 3) := by decide +kernel
theorem dX11_hot_70 : decode cX11_hot 70 = .ok (.aload_n 0, 1) := by decide +kernel
theorem dX11_hot_71 : decode cX11_hot 71 = .ok (.iload_n 1, 1) := by decide +kernel
theorem dX11_hot_72 : decode cX11_hot 72 = .ok (.putfield 38, 3) := by decide +kernel
theorem dX11_hot_75 : decode cX11_hot 75 = .ok (.aload_n 0, 1) := by decide +kernel
theorem dX11_hot_76 : decode cX11_hot 76 = .ok (.iconst 0, 1) := by decide +kernel
theorem dX11_hot_77 : decode cX11_hot 77 = .ok (.putfield 185, 3) := by decide +kernel
theorem dX11_hot_80 : decode cX11_hot 80 = .ok (.return_, 1) := by decide +kernel
theorem dX11_interpret_0 : decode cX11_interpret 0 = .ok (.aload_n 0, 1) := by decide +kernel
theorem dX11_interpret_1 : decode cX11_interpret 1 = .ok (.getfield 19, 3) := by decide +kernel
theorem dX11_interpret_4 : decode cX11_interpret 4 = .ok (.istore_n 1, 1) := by decide +kernel
theorem dX11_interpret_5 : decode cX11_interpret 5 = .ok (.aload_n 0, 1) := by decide +kernel
theorem dX11_interpret_6 : decode cX11_interpret 6 = .ok (.getfield 38, 3) := by decide +kernel
theorem dX11_interpret_9 : decode cX11_interpret 9 = .ok (.ifCond .lt 7, 3) := by decide +kernel
theorem dX11_interpret_12 : decode cX11_interpret 12 = .ok (.iconst 1, 1) := by decide +kernel
theorem dX11_interpret_13 : decode cX11_interpret 13 = .ok (.goto 4, 3) := by decide +kernel
theorem dX11_interpret_16 : decode cX11_interpret 16 = .ok (.iconst 0, 1) := by decide +kernel
theorem dX11_interpret_17 : decode cX11_interpret 17 = .ok (.istore_n 2, 1) := by decide +kernel
theorem dX11_interpret_18 : decode cX11_interpret 18 = .ok (.aload_n 0, 1) := by decide +kernel
theorem dX11_interpret_19 : decode cX11_interpret 19 = .ok (.getfield 7, 3) := by decide +kernel
theorem dX11_interpret_22 : decode cX11_interpret 22 = .ok (.iload_n 1, 1) := by decide +kernel
theorem dX11_interpret_23 : decode cX11_interpret 23 = .ok (.iaload, 1) := by decide +kernel
theorem dX11_interpret_24 : decode cX11_interpret 24 = .ok (.bipush 13, 2) := by decide +kernel
theorem dX11_interpret_26 : decode cX11_interpret 26 = .ok (.if_icmp .eq 28, 3) := by decide +kernel
theorem dX11_interpret_29 : decode cX11_interpret 29 = .ok (.aload_n 0, 1) := by decide +kernel
theorem dX11_interpret_30 : decode cX11_interpret 30 = .ok (.getfield 7, 3) := by decide +kernel
theorem dX11_interpret_33 : decode cX11_interpret 33 = .ok (.iload_n 1, 1) := by decide +kernel
theorem dX11_interpret_34 : decode cX11_interpret 34 = .ok (.iaload, 1) := by decide +kernel
theorem dX11_interpret_35 : decode cX11_interpret 35 = .ok (.bipush 14, 2) := by decide +kernel
theorem dX11_interpret_37 : decode cX11_interpret 37 = .ok (.if_icmp .ne 21, 3) := by decide +kernel
theorem dX11_interpret_40 : decode cX11_interpret 40 = .ok (.aload_n 0, 1) := by decide +kernel
theorem dX11_interpret_41 : decode cX11_interpret 41 = .ok (.getfield 26, 3) := by decide +kernel
theorem dX11_interpret_44 : decode cX11_interpret 44 = .ok (.aload_n 0, 1) := by decide +kernel
theorem dX11_interpret_45 : decode cX11_interpret 45 = .ok (.getfield 139, 3) := by decide +kernel
theorem dX11_interpret_48 : decode cX11_interpret 48 = .ok (.iconst 1, 1) := by decide +kernel
theorem dX11_interpret_49 : decode cX11_interpret 49 = .ok (.isub, 1) := by decide +kernel
theorem dX11_interpret_50 : decode cX11_interpret 50 = .ok (.iaload, 1) := by decide +kernel
theorem dX11_interpret_51 : decode cX11_interpret 51 = .ok (.ifCond .eq 7, 3) := by decide +kernel
theorem dX11_interpret_54 : decode cX11_interpret 54 = .ok (.iconst 1, 1) := by decide +kernel
theorem dX11_interpret_55 : decode cX11_interpret 55 = .ok (.goto 4, 3) := by decide +kernel
theorem dX11_interpret_58 : decode cX11_interpret 58 = .ok (.iconst 0, 1) := by decide +kernel
theorem dX11_interpret_59 : decode cX11_interpret 59 = .ok (.istore_n 3, 1) := by decide +kernel
theorem dX11_interpret_60 : decode cX11_interpret 60 = .ok (.aload_n 0, 1) := by decide +kernel
theorem dX11_interpret_61 : decode cX11_interpret 61 = .ok (.iload_n 1, 1) := by decide +kernel
theorem dX11_interpret_62 : decode cX11_interpret 62 = .ok (.invokevirtual 188, 3) := by decide +kernel
theorem dX11_interpret_65 : decode cX11_interpret 65 = .ok (.istore 4, 2) := by decide +kernel
theorem dX11_interpret_67 : decode cX11_interpret 67 = .ok (.aload_n 0, 1) := by decide +kernel
theorem dX11_interpret_68 : decode cX11_interpret 68 = .ok (.dup, 1) := by decide +kernel
theorem dX11_interpret_69 : decode cX11_interpret 69 = .ok (.getfield 148, 3) := by decide +kernel
theorem dX11_interpret_72 : decode cX11_interpret 72 = .ok (.iconst 1, 1) := by decide +kernel
theorem dX11_interpret_73 : decode cX11_interpret 73 = .ok (.iadd, 1) := by decide +kernel
theorem dX11_interpret_74 : decode cX11_interpret 74 = .ok (.putfield 148, 3) := by decide +kernel
theorem dX11_interpret_77 : decode cX11_interpret 77 = .ok (.aload_n 0, 1) := by decide +kernel
theorem dX11_interpret_78 : decode cX11_interpret 78 = .ok (.iconst (-1), 1) := by decide +kernel
theorem dX11_interpret_79 : decode cX11_interpret 79 = .ok (.putfield 48, 3) := by decide +kernel
theorem dX11_interpret_82 : decode cX11_interpret 82 = .ok (.iload_n 2, 1) := by decide +kernel
theorem dX11_interpret_83 : decode cX11_interpret 83 = .ok (.ifCond .eq 47, 3) := by decide +kernel
theorem dX11_interpret_86 : decode cX11_interpret 86 = .ok (.aload_n 0, 1) := by decide +kernel
theorem dX11_interpret_87 : decode cX11_interpret 87 = .ok (.getfield 41, 3) := by decide +kernel
theorem dX11_interpret_90 : decode cX11_interpret 90 = .ok (.aload_n 0, 1) := by decide +kernel
theorem dX11_interpret_91 : decode cX11_interpret 91 = .ok (.getfield 185, 3) := by decide +kernel
theorem dX11_interpret_94 : decode cX11_interpret 94 = .ok (.iload_n 1, 1) := by decide +kernel
theorem dX11_interpret_95 : decode cX11_interpret 95 = .ok (.iastore, 1) := by decide +kernel
theorem dX11_interpret_96 : decode cX11_interpret 96 = .ok (.aload_n 0, 1) := by decide +kernel
theorem dX11_interpret_97 : decode cX11_interpret 97 = .ok (.getfield 44, 3) := by decide +kernel
theorem dX11_interpret_100 : decode cX11_interpret 100 = .ok (.aload_n 0, 1) := by decide +kernel
theorem dX11_interpret_101 : decode cX11_interpret 101 = .ok (.getfield 185, 3) := by decide +kernel
theorem dX11_interpret_104 : decode cX11_interpret 104 = .ok (.iload_n 3, 1) := by decide +kernel
theorem dX11_interpret_105 : decode cX11_interpret 105 = .ok (.bastore, 1) := by decide +kernel
theorem dX11_interpret_106 : decode cX11_interpret 106 = .ok (.aload_n 0, 1) := by decide +kernel
theorem dX11_interpret_107 : decode cX11_interpret 107 = .ok (.dup, 1) := by decide +kernel
theorem dX11_interpret_108 : decode cX11_interpret 108 = .ok (.getfield 185, 3) := by decide +kernel
theorem dX11_interpret_111 : decode cX11_interpret 111 = .ok (.iconst 1, 1) := by decide +kernel
theorem dX11_interpret_112 : decode cX11_interpret 112 = .ok (.iadd, 1) := by decide +kernel
theorem dX11_interpret_113 : decode cX11_interpret 113 = .ok (.putfield 185, 3) := by decide +kernel
theorem dX11_interpret_116 : decode cX11_interpret 116 = .ok (.iload 4, 2) := by decide +kernel
theorem dX11_interpret_118 : decode cX11_interpret 118 = .ok (.iconst (-1), 1) := by decide +kernel
theorem dX11_interpret_119 : decode cX11_interpret 119 = .ok (.if_icmp .ne 11, 3) := by decide +kernel
theorem dX11_interpret_122 : decode cX11_interpret 122 = .ok (.aload_n 0, 1) := by decide +kernel
theorem dX11_interpret_123 : decode cX11_interpret 123 = .ok (.aload_n 0, 1) := by decide +kernel
theorem dX11_interpret_124 : decode cX11_interpret 124 = .ok (.getfield 38, 3) := by decide +kernel
theorem dX11_interpret_127 : decode cX11_interpret 127 = .ok (.invokevirtual 191, 3) := by decide +kernel
theorem dX11_interpret_130 : decode cX11_interpret 130 = .ok (.aload_n 0, 1) := by decide +kernel
theorem dX11_interpret_131 : decode cX11_interpret 131 = .ok (.iload 4, 2) := by decide +kernel
theorem dX11_interpret_133 : decode cX11_interpret 133 = .ok (.putfield 19, 3) := by decide +kernel
theorem dX11_interpret_136 : decode cX11_interpret 136 = .ok (.iload_n 3, 1) := by decide +kernel
theorem dX11_interpret_137 : decode cX11_interpret 137 = .ok (.ifCond .eq 15, 3) := by decide +kernel
theorem dX11_interpret_140 : decode cX11_interpret 140 = .ok (.iload 4, 2) := by decide +kernel
theorem dX11_interpret_142 : decode cX11_interpret 142 = .ok (.iload_n 1, 1) := by decide +kernel
theorem dX11_interpret_143 : decode cX11_interpret 143 = .ok (.if_icmp .gt 9, 3) := by decide +kernel
theorem dX11_interpret_146 : decode cX11_interpret 146 = .ok (.aload_n 0, 1) := by decide +kernel
theorem dX11_interpret_147 : decode cX11_interpret 147 = .ok (.iload 4, 2) := by decide +kernel
theorem dX11_interpret_149 : decode cX11_interpret 149 = .ok (.invokevirtual 194, 3) := by decide +kernel
theorem dX11_interpret_152 : decode cX11_interpret 152 = .ok (.iload_n 2, 1) := by decide +kernel
theorem dX11_interpret_153 : decode cX11_interpret 153 = .ok (.ifCond .eq 23, 3) := by decide +kernel
theorem dX11_interpret_156 : decode cX11_interpret 156 = .ok (.aload_n 0, 1) := by decide +kernel
theorem dX11_interpret_157 : decode cX11_interpret 157 = .ok (.getfield 38, 3) := by decide +kernel
theorem dX11_interpret_160 : decode cX11_interpret 160 = .ok (.ifCond .lt 16, 3) := by decide +kernel
theorem dX11_interpret_163 : decode cX11_interpret 163 = .ok (.iload 4, 2) := by decide +kernel
theorem dX11_interpret_165 : decode cX11_interpret 165 = .ok (.aload_n 0, 1) := by decide +kernel
theorem dX11_interpret_166 : decode cX11_interpret 166 = .ok (.getfield 38, 3) := by decide +kernel
theorem dX11_interpret_169 : decode cX11_interpret 169 = .ok (.if_icmp .ne 7, 3) := by decide +kernel
theorem dX11_interpret_172 : decode cX11_interpret 172 = .ok (.aload_n 0, 1) := by decide +kernel
theorem dX11_interpret_173 : decode cX11_interpret 173 = .ok (.invokevirtual 197, 3) := by decide +kernel
theorem dX11_interpret_176 : decode cX11_interpret 176 = .ok (.return_, 1) := by decide +kernel
theorem dX11_run_0 : decode cX11_run 0 = .ok (.aload_n 0, 1) := by decide +kernel
theorem dX11_run_1 : decode cX11_run 1 = .ok (.iconst 0, 1) := by decide +kernel
theorem dX11_run_2 : decode cX11_run 2 = .ok (.putfield 111, 3) := by decide +kernel
theorem dX11_run_5 : decode cX11_run 5 = .ok (.iload_n 1, 1) := by decide +kernel
theorem dX11_run_6 : decode cX11_run 6 = .ok (.iconst 1, 1) := by decide +kernel
theorem dX11_run_7 : decode cX11_run 7 = .ok (.sipush 500, 3) := by decide +kernel
theorem dX11_run_10 : decode cX11_run 10 = .ok (.invokestatic 114, 3) := by decide +kernel
theorem dX11_run_13 : decode cX11_run 13 = .ok (.ifCond .ne 9, 3) := by decide +kernel
theorem dX11_run_16 : decode cX11_run 16 = .ok (.aload_n 0, 1) := by decide +kernel
theorem dX11_run_17 : decode cX11_run 17 = .ok (.iconst 1, 1) := by decide +kernel
theorem dX11_run_18 : decode cX11_run 18 = .ok (.invokevirtual 118, 3) := by decide +kernel
theorem dX11_run_21 : decode cX11_run 21 = .ok (.ireturn, 1) := by decide +kernel
theorem dX11_run_22 : decode cX11_run 22 = .ok (.aload_n 0, 1) := by decide +kernel
theorem dX11_run_23 : decode cX11_run 23 = .ok (.getfield 125, 3) := by decide +kernel
theorem dX11_run_26 : decode cX11_run 26 = .ok (.ifCond .ne 9, 3) := by decide +kernel
theorem dX11_run_29 : decode cX11_run 29 = .ok (.aload_n 0, 1) := by decide +kernel
theorem dX11_run_30 : decode cX11_run 30 = .ok (.iconst 2, 1) := by decide +kernel
theorem dX11_run_31 : decode cX11_run 31 = .ok (.invokevirtual 118, 3) := by decide +kernel
theorem dX11_run_34 : decode cX11_run 34 = .ok (.ireturn, 1) := by decide +kernel
theorem dX11_run_35 : decode cX11_run 35 = .ok (.iconst 0, 1) := by decide +kernel
theorem dX11_run_36 : decode cX11_run 36 = .ok (.istore_n 2, 1) := by decide +kernel
theorem dX11_run_37 : decode cX11_run 37 = .ok (.iload_n 2, 1) := by decide +kernel
theorem dX11_run_38 : decode cX11_run 38 = .ok (.iload_n 1, 1) := by decide +kernel
theorem dX11_run_39 : decode cX11_run 39 = .ok (.if_icmp .ge 76, 3) := by decide +kernel
theorem dX11_run_42 : decode cX11_run 42 = .ok (.aload_n 0, 1) := by decide +kernel
theorem dX11_run_43 : decode cX11_run 43 = .ok (.getfield 19, 3) := by decide +kernel
theorem dX11_run_46 : decode cX11_run 46 = .ok (.ifCond .lt 69, 3) := by decide +kernel
theorem dX11_run_49 : decode cX11_run 49 = .ok (.aload_n 0, 1) := by decide +kernel
theorem dX11_run_50 : decode cX11_run 50 = .ok (.getfield 38, 3) := by decide +kernel
theorem dX11_run_53 : decode cX11_run 53 = .ok (.ifCond .lt 20, 3) := by decide +kernel
theorem dX11_run_56 : decode cX11_run 56 = .ok (.aload_n 0, 1) := by decide +kernel
theorem dX11_run_57 : decode cX11_run 57 = .ok (.getfield 185, 3) := by decide +kernel
theorem dX11_run_60 : decode cX11_run 60 = .ok (.bipush 30, 2) := by decide +kernel
theorem dX11_run_62 : decode cX11_run 62 = .ok (.if_icmp .ne 11, 3) := by decide +kernel
theorem dX11_run_65 : decode cX11_run 65 = .ok (.aload_n 0, 1) := by decide +kernel
theorem dX11_run_66 : decode cX11_run 66 = .ok (.aload_n 0, 1) := by decide +kernel
theorem dX11_run_67 : decode cX11_run 67 = .ok (.getfield 38, 3) := by decide +kernel
theorem dX11_run_70 : decode cX11_run 70 = .ok (.invokevirtual 191, 3) := by decide +kernel
theorem dX11_run_73 : decode cX11_run 73 = .ok (.aload_n 0, 1) := by decide +kernel
theorem dX11_run_74 : decode cX11_run 74 = .ok (.getfield 38, 3) := by decide +kernel
theorem dX11_run_77 : decode cX11_run 77 = .ok (.ifCond .ge 14, 3) := by decide +kernel
theorem dX11_run_80 : decode cX11_run 80 = .ok (.aload_n 0, 1) := by decide +kernel
theorem dX11_run_81 : decode cX11_run 81 = .ok (.aload_n 0, 1) := by decide +kernel
theorem dX11_run_82 : decode cX11_run 82 = .ok (.getfield 19, 3) := by decide +kernel
theorem dX11_run_85 : decode cX11_run 85 = .ok (.invokevirtual 200, 3) := by decide +kernel
theorem dX11_run_88 : decode cX11_run 88 = .ok (.goto 4, 3) := by decide +kernel
theorem dX11_run_91 : decode cX11_run 91 = .ok (.iconst (-1), 1) := by decide +kernel
theorem dX11_run_92 : decode cX11_run 92 = .ok (.istore_n 3, 1) := by decide +kernel
theorem dX11_run_93 : decode cX11_run 93 = .ok (.iload_n 3, 1) := by decide +kernel
theorem dX11_run_94 : decode cX11_run 94 = .ok (.ifCond .lt 11, 3) := by decide +kernel
theorem dX11_run_97 : decode cX11_run 97 = .ok (.aload_n 0, 1) := by decide +kernel
theorem dX11_run_98 : decode cX11_run 98 = .ok (.iload_n 3, 1) := by decide +kernel
theorem dX11_run_99 : decode cX11_run 99 = .ok (.invokevirtual 203, 3) := by decide +kernel
theorem dX11_run_102 : decode cX11_run 102 = .ok (.goto 7, 3) := by decide +kernel
theorem dX11_run_105 : decode cX11_run 105 = .ok (.aload_n 0, 1) := by decide +kernel
theorem dX11_run_106 : decode cX11_run 106 = .ok (.invokevirtual 206, 3) := by decide +kernel
theorem dX11_run_109 : decode cX11_run 109 = .ok (.iinc 2 1, 3) := by decide +kernel
theorem dX11_run_112 : decode cX11_run 112 = .ok (.goto (-75), 3) := by decide +kernel
theorem dX11_run_115 : decode cX11_run 115 = .ok (.iload_n 2, 1) := by decide +kernel
theorem dX11_run_116 : decode cX11_run 116 = .ok (.ireturn, 1) := by decide +kernel
theorem dX11_traceOf_0 : decode cX11_traceOf 0 = .ok (.iconst (-1), 1) := by decide +kernel
theorem dX11_traceOf_1 : decode cX11_traceOf 1 = .ok (.istore_n 2, 1) := by decide +kernel
theorem dX11_traceOf_2 : decode cX11_traceOf 2 = .ok (.iconst 0, 1) := by decide +kernel
theorem dX11_traceOf_3 : decode cX11_traceOf 3 = .ok (.istore_n 3, 1) := by decide +kernel
theorem dX11_traceOf_4 : decode cX11_traceOf 4 = .ok (.iload_n 3, 1) := by decide +kernel
theorem dX11_traceOf_5 : decode cX11_traceOf 5 = .ok (.aload_n 0, 1) := by decide +kernel
theorem dX11_traceOf_6 : decode cX11_traceOf 6 = .ok (.getfield 145, 3) := by decide +kernel
theorem dX11_traceOf_9 : decode cX11_traceOf 9 = .ok (.if_icmp .ge 25, 3) := by decide +kernel
theorem dX11_traceOf_12 : decode cX11_traceOf 12 = .ok (.aload_n 0, 1) := by decide +kernel
theorem dX11_traceOf_13 : decode cX11_traceOf 13 = .ok (.getfield 51, 3) := by decide +kernel
theorem dX11_traceOf_16 : decode cX11_traceOf 16 = .ok (.iload_n 3, 1) := by decide +kernel
theorem dX11_traceOf_17 : decode cX11_traceOf 17 = .ok (.iaload, 1) := by decide +kernel
theorem dX11_traceOf_18 : decode cX11_traceOf 18 = .ok (.iload_n 1, 1) := by decide +kernel
theorem dX11_traceOf_19 : decode cX11_traceOf 19 = .ok (.if_icmp .ne 7, 3) := by decide +kernel
theorem dX11_traceOf_22 : decode cX11_traceOf 22 = .ok (.iload_n 3, 1) := by decide +kernel
theorem dX11_traceOf_23 : decode cX11_traceOf 23 = .ok (.goto 4, 3) := by decide +kernel
theorem dX11_traceOf_26 : decode cX11_traceOf 26 = .ok (.iload_n 2, 1) := by decide +kernel
theorem dX11_traceOf_27 : decode cX11_traceOf 27 = .ok (.istore_n 2, 1) := by decide +kernel
theorem dX11_traceOf_28 : decode cX11_traceOf 28 = .ok (.iinc 3 1, 3) := by decide +kernel
theorem dX11_traceOf_31 : decode cX11_traceOf 31 = .ok (.goto (-27), 3) := by decide +kernel
theorem dX11_traceOf_34 : decode cX11_traceOf 34 = .ok (.iload_n 2, 1) := by decide +kernel
theorem dX11_traceOf_35 : decode cX11_traceOf 35 = .ok (.ireturn, 1) := by decide +kernel
theorem dX11_turn_0 : decode cX11_turn 0 = .ok (.bipush 30, 2) := by decide +kernel
theorem dX11_turn_2 : decode cX11_turn 2 = .ok (.iload_n 1, 1) := by decide +kernel
theorem dX11_turn_3 : decode cX11_turn 3 = .ok (.imul, 1) := by decide +kernel
theorem dX11_turn_4 : decode cX11_turn 4 = .ok (.istore_n 2, 1) := by decide +kernel
theorem dX11_turn_5 : decode cX11_turn 5 = .ok (.aload_n 0, 1) := by decide +kernel
theorem dX11_turn_6 : decode cX11_turn 6 = .ok (.getfield 48, 3) := by decide +kernel
theorem dX11_turn_9 : decode cX11_turn 9 = .ok (.iload_n 1, 1) := by decide +kernel
theorem dX11_turn_10 : decode cX11_turn 10 = .ok (.if_icmp .eq 18, 3) := by decide +kernel
theorem dX11_turn_13 : decode cX11_turn 13 = .ok (.aload_n 0, 1) := by decide +kernel
theorem dX11_turn_14 : decode cX11_turn 14 = .ok (.dup, 1) := by decide +kernel
theorem dX11_turn_15 : decode cX11_turn 15 = .ok (.getfield 157, 3) := by decide +kernel
theorem dX11_turn_18 : decode cX11_turn 18 = .ok (.aload_n 0, 1) := by decide +kernel
theorem dX11_turn_19 : decode cX11_turn 19 = .ok (.getfield 66, 3) := by decide +kernel
theorem dX11_turn_22 : decode cX11_turn 22 = .ok (.iload_n 1, 1) := by decide +kernel
theorem dX11_turn_23 : decode cX11_turn 23 = .ok (.iaload, 1) := by decide +kernel
theorem dX11_turn_24 : decode cX11_turn 24 = .ok (.iadd, 1) := by decide +kernel
theorem dX11_turn_25 : decode cX11_turn 25 = .ok (.putfield 157, 3) := by decide +kernel
theorem dX11_turn_28 : decode cX11_turn 28 = .ok (.aload_n 0, 1) := by decide +kernel
theorem dX11_turn_29 : decode cX11_turn 29 = .ok (.iconst (-1), 1) := by decide +kernel
theorem dX11_turn_30 : decode cX11_turn 30 = .ok (.putfield 48, 3) := by decide +kernel
theorem dX11_turn_33 : decode cX11_turn 33 = .ok (.iconst 0, 1) := by decide +kernel
theorem dX11_turn_34 : decode cX11_turn 34 = .ok (.istore_n 3, 1) := by decide +kernel
theorem dX11_turn_35 : decode cX11_turn 35 = .ok (.iload_n 3, 1) := by decide +kernel
theorem dX11_turn_36 : decode cX11_turn 36 = .ok (.aload_n 0, 1) := by decide +kernel
theorem dX11_turn_37 : decode cX11_turn 37 = .ok (.getfield 54, 3) := by decide +kernel
theorem dX11_turn_40 : decode cX11_turn 40 = .ok (.iload_n 1, 1) := by decide +kernel
theorem dX11_turn_41 : decode cX11_turn 41 = .ok (.iaload, 1) := by decide +kernel
theorem dX11_turn_42 : decode cX11_turn 42 = .ok (.if_icmp .ge 119, 3) := by decide +kernel
theorem dX11_turn_45 : decode cX11_turn 45 = .ok (.aload_n 0, 1) := by decide +kernel
theorem dX11_turn_46 : decode cX11_turn 46 = .ok (.getfield 57, 3) := by decide +kernel
theorem dX11_turn_49 : decode cX11_turn 49 = .ok (.iload_n 2, 1) := by decide +kernel
theorem dX11_turn_50 : decode cX11_turn 50 = .ok (.iload_n 3, 1) := by decide +kernel
theorem dX11_turn_51 : decode cX11_turn 51 = .ok (.iadd, 1) := by decide +kernel
theorem dX11_turn_52 : decode cX11_turn 52 = .ok (.iaload, 1) := by decide +kernel
theorem dX11_turn_53 : decode cX11_turn 53 = .ok (.istore 4, 2) := by decide +kernel
theorem dX11_turn_55 : decode cX11_turn 55 = .ok (.aload_n 0, 1) := by decide +kernel
theorem dX11_turn_56 : decode cX11_turn 56 = .ok (.getfield 7, 3) := by decide +kernel
theorem dX11_turn_59 : decode cX11_turn 59 = .ok (.iload 4, 2) := by decide +kernel
theorem dX11_turn_61 : decode cX11_turn 61 = .ok (.iaload, 1) := by decide +kernel
theorem dX11_turn_62 : decode cX11_turn 62 = .ok (.bipush 14, 2) := by decide +kernel
theorem dX11_turn_64 : decode cX11_turn 64 = .ok (.if_icmp .ne 21, 3) := by decide +kernel
theorem dX11_turn_67 : decode cX11_turn 67 = .ok (.aload_n 0, 1) := by decide +kernel
theorem dX11_turn_68 : decode cX11_turn 68 = .ok (.getfield 26, 3) := by decide +kernel
theorem dX11_turn_71 : decode cX11_turn 71 = .ok (.aload_n 0, 1) := by decide +kernel
theorem dX11_turn_72 : decode cX11_turn 72 = .ok (.getfield 139, 3) := by decide +kernel
theorem dX11_turn_75 : decode cX11_turn 75 = .ok (.iconst 1, 1) := by decide +kernel
theorem dX11_turn_76 : decode cX11_turn 76 = .ok (.isub, 1) := by decide +kernel
theorem dX11_turn_77 : decode cX11_turn 77 = .ok (.iaload, 1) := by decide +kernel
theorem dX11_turn_78 : decode cX11_turn 78 = .ok (.ifCond .eq 7, 3) := by decide +kernel
theorem dX11_turn_81 : decode cX11_turn 81 = .ok (.iconst 1, 1) := by decide +kernel
theorem dX11_turn_82 : decode cX11_turn 82 = .ok (.goto 4, 3) := by decide +kernel
theorem dX11_turn_85 : decode cX11_turn 85 = .ok (.iconst 0, 1) := by decide +kernel
theorem dX11_turn_86 : decode cX11_turn 86 = .ok (.istore 5, 2) := by decide +kernel
theorem dX11_turn_88 : decode cX11_turn 88 = .ok (.aload_n 0, 1) := by decide +kernel
theorem dX11_turn_89 : decode cX11_turn 89 = .ok (.iload 4, 2) := by decide +kernel
theorem dX11_turn_91 : decode cX11_turn 91 = .ok (.invokevirtual 188, 3) := by decide +kernel
theorem dX11_turn_94 : decode cX11_turn 94 = .ok (.istore 6, 2) := by decide +kernel
theorem dX11_turn_96 : decode cX11_turn 96 = .ok (.aload_n 0, 1) := by decide +kernel
theorem dX11_turn_97 : decode cX11_turn 97 = .ok (.getfield 7, 3) := by decide +kernel
theorem dX11_turn_100 : decode cX11_turn 100 = .ok (.iload 4, 2) := by decide +kernel
theorem dX11_turn_102 : decode cX11_turn 102 = .ok (.iaload, 1) := by decide +kernel
theorem dX11_turn_103 : decode cX11_turn 103 = .ok (.bipush 14, 2) := by decide +kernel
theorem dX11_turn_105 : decode cX11_turn 105 = .ok (.if_icmp .ne 50, 3) := by decide +kernel
theorem dX11_turn_108 : decode cX11_turn 108 = .ok (.iload 5, 2) := by decide +kernel
theorem dX11_turn_110 : decode cX11_turn 110 = .ok (.aload_n 0, 1) := by decide +kernel
theorem dX11_turn_111 : decode cX11_turn 111 = .ok (.getfield 60, 3) := by decide +kernel
theorem dX11_turn_114 : decode cX11_turn 114 = .ok (.iload_n 2, 1) := by decide +kernel
theorem dX11_turn_115 : decode cX11_turn 115 = .ok (.iload_n 3, 1) := by decide +kernel
theorem dX11_turn_116 : decode cX11_turn 116 = .ok (.iadd, 1) := by decide +kernel
theorem dX11_turn_117 : decode cX11_turn 117 = .ok (.baload, 1) := by decide +kernel
theorem dX11_turn_118 : decode cX11_turn 118 = .ok (.if_icmp .eq 37, 3) := by decide +kernel
theorem dX11_turn_121 : decode cX11_turn 121 = .ok (.aload_n 0, 1) := by decide +kernel
theorem dX11_turn_122 : decode cX11_turn 122 = .ok (.dup, 1) := by decide +kernel
theorem dX11_turn_123 : decode cX11_turn 123 = .ok (.getfield 157, 3) := by decide +kernel
theorem dX11_turn_126 : decode cX11_turn 126 = .ok (.aload_n 0, 1) := by decide +kernel
theorem dX11_turn_127 : decode cX11_turn 127 = .ok (.getfield 63, 3) := by decide +kernel
theorem dX11_turn_130 : decode cX11_turn 130 = .ok (.iload_n 2, 1) := by decide +kernel
theorem dX11_turn_131 : decode cX11_turn 131 = .ok (.iload_n 3, 1) := by decide +kernel
theorem dX11_turn_132 : decode cX11_turn 132 = .ok (.iadd, 1) := by decide +kernel
theorem dX11_turn_133 : decode cX11_turn 133 = .ok (.iaload, 1) := by decide +kernel
theorem dX11_turn_134 : decode cX11_turn 134 = .ok (.iadd, 1) := by decide +kernel
theorem dX11_turn_135 : decode cX11_turn 135 = .ok (.putfield 157, 3) := by decide +kernel
theorem dX11_turn_138 : decode cX11_turn 138 = .ok (.aload_n 0, 1) := by decide +kernel
theorem dX11_turn_139 : decode cX11_turn 139 = .ok (.dup, 1) := by decide +kernel
theorem dX11_turn_140 : decode cX11_turn 140 = .ok (.getfield 154, 3) := by decide +kernel
theorem dX11_turn_143 : decode cX11_turn 143 = .ok (.iconst 1, 1) := by decide +kernel
theorem dX11_turn_144 : decode cX11_turn 144 = .ok (.iadd, 1) := by decide +kernel
theorem dX11_turn_145 : decode cX11_turn 145 = .ok (.putfield 154, 3) := by decide +kernel
theorem dX11_turn_148 : decode cX11_turn 148 = .ok (.aload_n 0, 1) := by decide +kernel
theorem dX11_turn_149 : decode cX11_turn 149 = .ok (.iload 6, 2) := by decide +kernel
theorem dX11_turn_151 : decode cX11_turn 151 = .ok (.putfield 19, 3) := by decide +kernel
theorem dX11_turn_154 : decode cX11_turn 154 = .ok (.return_, 1) := by decide +kernel
theorem dX11_turn_155 : decode cX11_turn 155 = .ok (.iinc 3 1, 3) := by decide +kernel
theorem dX11_turn_158 : decode cX11_turn 158 = .ok (.goto (-123), 3) := by decide +kernel
theorem dX11_turn_161 : decode cX11_turn 161 = .ok (.aload_n 0, 1) := by decide +kernel
theorem dX11_turn_162 : decode cX11_turn 162 = .ok (.dup, 1) := by decide +kernel
theorem dX11_turn_163 : decode cX11_turn 163 = .ok (.getfield 157, 3) := by decide +kernel
theorem dX11_turn_166 : decode cX11_turn 166 = .ok (.aload_n 0, 1) := by decide +kernel
theorem dX11_turn_167 : decode cX11_turn 167 = .ok (.getfield 63, 3) := by decide +kernel
theorem dX11_turn_170 : decode cX11_turn 170 = .ok (.iload_n 2, 1) := by decide +kernel
theorem dX11_turn_171 : decode cX11_turn 171 = .ok (.aload_n 0, 1) := by decide +kernel
theorem dX11_turn_172 : decode cX11_turn 172 = .ok (.getfield 54, 3) := by decide +kernel
theorem dX11_turn_175 : decode cX11_turn 175 = .ok (.iload_n 1, 1) := by decide +kernel
theorem dX11_turn_176 : decode cX11_turn 176 = .ok (.iaload, 1) := by decide +kernel
theorem dX11_turn_177 : decode cX11_turn 177 = .ok (.iadd, 1) := by decide +kernel
theorem dX11_turn_178 : decode cX11_turn 178 = .ok (.iconst 1, 1) := by decide +kernel
theorem dX11_turn_179 : decode cX11_turn 179 = .ok (.isub, 1) := by decide +kernel
theorem dX11_turn_180 : decode cX11_turn 180 = .ok (.iaload, 1) := by decide +kernel
theorem dX11_turn_181 : decode cX11_turn 181 = .ok (.iadd, 1) := by decide +kernel
theorem dX11_turn_182 : decode cX11_turn 182 = .ok (.putfield 157, 3) := by decide +kernel
theorem dX11_turn_185 : decode cX11_turn 185 = .ok (.aload_n 0, 1) := by decide +kernel
theorem dX11_turn_186 : decode cX11_turn 186 = .ok (.dup, 1) := by decide +kernel
theorem dX11_turn_187 : decode cX11_turn 187 = .ok (.getfield 151, 3) := by decide +kernel
theorem dX11_turn_190 : decode cX11_turn 190 = .ok (.iconst 1, 1) := by decide +kernel
theorem dX11_turn_191 : decode cX11_turn 191 = .ok (.iadd, 1) := by decide +kernel
theorem dX11_turn_192 : decode cX11_turn 192 = .ok (.putfield 151, 3) := by decide +kernel
theorem dX11_turn_195 : decode cX11_turn 195 = .ok (.aload_n 0, 1) := by decide +kernel
theorem dX11_turn_196 : decode cX11_turn 196 = .ok (.iload_n 1, 1) := by decide +kernel
theorem dX11_turn_197 : decode cX11_turn 197 = .ok (.putfield 48, 3) := by decide +kernel
theorem dX11_turn_200 : decode cX11_turn 200 = .ok (.aload_n 0, 1) := by decide +kernel
theorem dX11_turn_201 : decode cX11_turn 201 = .ok (.aload_n 0, 1) := by decide +kernel
theorem dX11_turn_202 : decode cX11_turn 202 = .ok (.getfield 51, 3) := by decide +kernel
theorem dX11_turn_205 : decode cX11_turn 205 = .ok (.iload_n 1, 1) := by decide +kernel
theorem dX11_turn_206 : decode cX11_turn 206 = .ok (.iaload, 1) := by decide +kernel
theorem dX11_turn_207 : decode cX11_turn 207 = .ok (.putfield 19, 3) := by decide +kernel
theorem dX11_turn_210 : decode cX11_turn 210 = .ok (.return_, 1) := by decide +kernel
theorem dX11_valueOf_0 : decode cX11_valueOf 0 = .ok (.iconst 0, 1) := by decide +kernel
theorem dX11_valueOf_1 : decode cX11_valueOf 1 = .ok (.istore 5, 2) := by decide +kernel
theorem dX11_valueOf_3 : decode cX11_valueOf 3 = .ok (.iload 5, 2) := by decide +kernel
theorem dX11_valueOf_5 : decode cX11_valueOf 5 = .ok (.aload_n 0, 1) := by decide +kernel
theorem dX11_valueOf_6 : decode cX11_valueOf 6 = .ok (.getfield 209, 3) := by decide +kernel
theorem dX11_valueOf_9 : decode cX11_valueOf 9 = .ok (.if_icmp .ge 57, 3) := by decide +kernel
theorem dX11_valueOf_12 : decode cX11_valueOf 12 = .ok (.aload_n 0, 1) := by decide +kernel
theorem dX11_valueOf_13 : decode cX11_valueOf 13 = .ok (.getfield 81, 3) := by decide +kernel
theorem dX11_valueOf_16 : decode cX11_valueOf 16 = .ok (.iload 5, 2) := by decide +kernel
theorem dX11_valueOf_18 : decode cX11_valueOf 18 = .ok (.iaload, 1) := by decide +kernel
theorem dX11_valueOf_19 : decode cX11_valueOf 19 = .ok (.iload_n 1, 1) := by decide +kernel
theorem dX11_valueOf_20 : decode cX11_valueOf 20 = .ok (.if_icmp .ne 40, 3) := by decide +kernel
theorem dX11_valueOf_23 : decode cX11_valueOf 23 = .ok (.aload_n 0, 1) := by decide +kernel
theorem dX11_valueOf_24 : decode cX11_valueOf 24 = .ok (.getfield 84, 3) := by decide +kernel
theorem dX11_valueOf_27 : decode cX11_valueOf 27 = .ok (.iload 5, 2) := by decide +kernel
theorem dX11_valueOf_29 : decode cX11_valueOf 29 = .ok (.iaload, 1) := by decide +kernel
theorem dX11_valueOf_30 : decode cX11_valueOf 30 = .ok (.iload_n 2, 1) := by decide +kernel
theorem dX11_valueOf_31 : decode cX11_valueOf 31 = .ok (.if_icmp .ne 29, 3) := by decide +kernel
theorem dX11_valueOf_34 : decode cX11_valueOf 34 = .ok (.aload_n 0, 1) := by decide +kernel
theorem dX11_valueOf_35 : decode cX11_valueOf 35 = .ok (.getfield 87, 3) := by decide +kernel
theorem dX11_valueOf_38 : decode cX11_valueOf 38 = .ok (.iload 5, 2) := by decide +kernel
theorem dX11_valueOf_40 : decode cX11_valueOf 40 = .ok (.iaload, 1) := by decide +kernel
theorem dX11_valueOf_41 : decode cX11_valueOf 41 = .ok (.iload_n 3, 1) := by decide +kernel
theorem dX11_valueOf_42 : decode cX11_valueOf 42 = .ok (.if_icmp .ne 18, 3) := by decide +kernel
theorem dX11_valueOf_45 : decode cX11_valueOf 45 = .ok (.aload_n 0, 1) := by decide +kernel
theorem dX11_valueOf_46 : decode cX11_valueOf 46 = .ok (.getfield 90, 3) := by decide +kernel
theorem dX11_valueOf_49 : decode cX11_valueOf 49 = .ok (.iload 5, 2) := by decide +kernel
theorem dX11_valueOf_51 : decode cX11_valueOf 51 = .ok (.iaload, 1) := by decide +kernel
theorem dX11_valueOf_52 : decode cX11_valueOf 52 = .ok (.iload 4, 2) := by decide +kernel
theorem dX11_valueOf_54 : decode cX11_valueOf 54 = .ok (.if_icmp .ne 6, 3) := by decide +kernel
theorem dX11_valueOf_57 : decode cX11_valueOf 57 = .ok (.iload 5, 2) := by decide +kernel
theorem dX11_valueOf_59 : decode cX11_valueOf 59 = .ok (.ireturn, 1) := by decide +kernel
theorem dX11_valueOf_60 : decode cX11_valueOf 60 = .ok (.iinc 5 1, 3) := by decide +kernel
theorem dX11_valueOf_63 : decode cX11_valueOf 63 = .ok (.goto (-60), 3) := by decide +kernel
theorem dX11_valueOf_66 : decode cX11_valueOf 66 = .ok (.aload_n 0, 1) := by decide +kernel
theorem dX11_valueOf_67 : decode cX11_valueOf 67 = .ok (.getfield 81, 3) := by decide +kernel
theorem dX11_valueOf_70 : decode cX11_valueOf 70 = .ok (.aload_n 0, 1) := by decide +kernel
theorem dX11_valueOf_71 : decode cX11_valueOf 71 = .ok (.getfield 209, 3) := by decide +kernel
theorem dX11_valueOf_74 : decode cX11_valueOf 74 = .ok (.iload_n 1, 1) := by decide +kernel
theorem dX11_valueOf_75 : decode cX11_valueOf 75 = .ok (.iastore, 1) := by decide +kernel
theorem dX11_valueOf_76 : decode cX11_valueOf 76 = .ok (.aload_n 0, 1) := by decide +kernel
theorem dX11_valueOf_77 : decode cX11_valueOf 77 = .ok (.getfield 84, 3) := by decide +kernel
theorem dX11_valueOf_80 : decode cX11_valueOf 80 = .ok (.aload_n 0, 1) := by decide +kernel
theorem dX11_valueOf_81 : decode cX11_valueOf 81 = .ok (.getfield 209, 3) := by decide +kernel
theorem dX11_valueOf_84 : decode cX11_valueOf 84 = .ok (.iload_n 2, 1) := by decide +kernel
theorem dX11_valueOf_85 : decode cX11_valueOf 85 = .ok (.iastore, 1) := by decide +kernel
theorem dX11_valueOf_86 : decode cX11_valueOf 86 = .ok (.aload_n 0, 1) := by decide +kernel
theorem dX11_valueOf_87 : decode cX11_valueOf 87 = .ok (.getfield 87, 3) := by decide +kernel
theorem dX11_valueOf_90 : decode cX11_valueOf 90 = .ok (.aload_n 0, 1) := by decide +kernel
theorem dX11_valueOf_91 : decode cX11_valueOf 91 = .ok (.getfield 209, 3) := by decide +kernel
theorem dX11_valueOf_94 : decode cX11_valueOf 94 = .ok (.iload_n 3, 1) := by decide +kernel
theorem dX11_valueOf_95 : decode cX11_valueOf 95 = .ok (.iastore, 1) := by decide +kernel
theorem dX11_valueOf_96 : decode cX11_valueOf 96 = .ok (.aload_n 0, 1) := by decide +kernel
theorem dX11_valueOf_97 : decode cX11_valueOf 97 = .ok (.getfield 90, 3) := by decide +kernel
theorem dX11_valueOf_100 : decode cX11_valueOf 100 = .ok (.aload_n 0, 1) := by decide +kernel
theorem dX11_valueOf_101 : decode cX11_valueOf 101 = .ok (.getfield 209, 3) := by decide +kernel
theorem dX11_valueOf_104 : decode cX11_valueOf 104 = .ok (.iload 4, 2) := by decide +kernel
theorem dX11_valueOf_106 : decode cX11_valueOf 106 = .ok (.iastore, 1) := by decide +kernel
theorem dX11_valueOf_107 : decode cX11_valueOf 107 = .ok (.aload_n 0, 1) := by decide +kernel
theorem dX11_valueOf_108 : decode cX11_valueOf 108 = .ok (.getfield 93, 3) := by decide +kernel
theorem dX11_valueOf_111 : decode cX11_valueOf 111 = .ok (.aload_n 0, 1) := by decide +kernel
theorem dX11_valueOf_112 : decode cX11_valueOf 112 = .ok (.getfield 209, 3) := by decide +kernel
theorem dX11_valueOf_115 : decode cX11_valueOf 115 = .ok (.iconst 0, 1) := by decide +kernel
theorem dX11_valueOf_116 : decode cX11_valueOf 116 = .ok (.bastore, 1) := by decide +kernel
theorem dX11_valueOf_117 : decode cX11_valueOf 117 = .ok (.aload_n 0, 1) := by decide +kernel
theorem dX11_valueOf_118 : decode cX11_valueOf 118 = .ok (.getfield 96, 3) := by decide +kernel
theorem dX11_valueOf_121 : decode cX11_valueOf 121 = .ok (.aload_n 0, 1) := by decide +kernel
theorem dX11_valueOf_122 : decode cX11_valueOf 122 = .ok (.getfield 209, 3) := by decide +kernel
theorem dX11_valueOf_125 : decode cX11_valueOf 125 = .ok (.iconst 0, 1) := by decide +kernel
theorem dX11_valueOf_126 : decode cX11_valueOf 126 = .ok (.bastore, 1) := by decide +kernel
theorem dX11_valueOf_127 : decode cX11_valueOf 127 = .ok (.aload_n 0, 1) := by decide +kernel
theorem dX11_valueOf_128 : decode cX11_valueOf 128 = .ok (.getfield 99, 3) := by decide +kernel
theorem dX11_valueOf_131 : decode cX11_valueOf 131 = .ok (.aload_n 0, 1) := by decide +kernel
theorem dX11_valueOf_132 : decode cX11_valueOf 132 = .ok (.getfield 209, 3) := by decide +kernel
theorem dX11_valueOf_135 : decode cX11_valueOf 135 = .ok (.iconst 0, 1) := by decide +kernel
theorem dX11_valueOf_136 : decode cX11_valueOf 136 = .ok (.iastore, 1) := by decide +kernel
theorem dX11_valueOf_137 : decode cX11_valueOf 137 = .ok (.aload_n 0, 1) := by decide +kernel
theorem dX11_valueOf_138 : decode cX11_valueOf 138 = .ok (.dup, 1) := by decide +kernel
theorem dX11_valueOf_139 : decode cX11_valueOf 139 = .ok (.getfield 209, 3) := by decide +kernel
theorem dX11_valueOf_142 : decode cX11_valueOf 142 = .ok (.iconst 1, 1) := by decide +kernel
theorem dX11_valueOf_143 : decode cX11_valueOf 143 = .ok (.iadd, 1) := by decide +kernel
theorem dX11_valueOf_144 : decode cX11_valueOf 144 = .ok (.putfield 209, 3) := by decide +kernel
theorem dX11_valueOf_147 : decode cX11_valueOf 147 = .ok (.aload_n 0, 1) := by decide +kernel
theorem dX11_valueOf_148 : decode cX11_valueOf 148 = .ok (.getfield 209, 3) := by decide +kernel
theorem dX11_valueOf_151 : decode cX11_valueOf 151 = .ok (.iconst 1, 1) := by decide +kernel
theorem dX11_valueOf_152 : decode cX11_valueOf 152 = .ok (.isub, 1) := by decide +kernel
theorem dX11_valueOf_153 : decode cX11_valueOf 153 = .ok (.ireturn, 1) := by decide +kernel
theorem dX11_calculated_0 : decode cX11_calculated 0 = .ok (.aload_n 0, 1) := by decide +kernel
theorem dX11_calculated_1 : decode cX11_calculated 1 = .ok (.getfield 81, 3) := by decide +kernel
theorem dX11_calculated_4 : decode cX11_calculated 4 = .ok (.iload_n 2, 1) := by decide +kernel
theorem dX11_calculated_5 : decode cX11_calculated 5 = .ok (.iaload, 1) := by decide +kernel
theorem dX11_calculated_6 : decode cX11_calculated 6 = .ok (.ifCond .ne 38, 3) := by decide +kernel
theorem dX11_calculated_9 : decode cX11_calculated 9 = .ok (.aload_n 0, 1) := by decide +kernel
theorem dX11_calculated_10 : decode cX11_calculated 10 = .ok (.getfield 81, 3) := by decide +kernel
theorem dX11_calculated_13 : decode cX11_calculated 13 = .ok (.iload_n 3, 1) := by decide +kernel
theorem dX11_calculated_14 : decode cX11_calculated 14 = .ok (.iaload, 1) := by decide +kernel
theorem dX11_calculated_15 : decode cX11_calculated 15 = .ok (.ifCond .ne 29, 3) := by decide +kernel
theorem dX11_calculated_18 : decode cX11_calculated 18 = .ok (.aload_n 0, 1) := by decide +kernel
theorem dX11_calculated_19 : decode cX11_calculated 19 = .ok (.iconst 0, 1) := by decide +kernel
theorem dX11_calculated_20 : decode cX11_calculated 20 = .ok (.iload_n 1, 1) := by decide +kernel
theorem dX11_calculated_21 : decode cX11_calculated 21 = .ok (.aload_n 0, 1) := by decide +kernel
theorem dX11_calculated_22 : decode cX11_calculated 22 = .ok (.getfield 84, 3) := by decide +kernel
theorem dX11_calculated_25 : decode cX11_calculated 25 = .ok (.iload_n 2, 1) := by decide +kernel
theorem dX11_calculated_26 : decode cX11_calculated 26 = .ok (.iaload, 1) := by decide +kernel
theorem dX11_calculated_27 : decode cX11_calculated 27 = .ok (.aload_n 0, 1) := by decide +kernel
theorem dX11_calculated_28 : decode cX11_calculated 28 = .ok (.getfield 84, 3) := by decide +kernel
theorem dX11_calculated_31 : decode cX11_calculated 31 = .ok (.iload_n 3, 1) := by decide +kernel
theorem dX11_calculated_32 : decode cX11_calculated 32 = .ok (.iaload, 1) := by decide +kernel
theorem dX11_calculated_33 : decode cX11_calculated 33 = .ok (.invokestatic 178, 3) := by decide +kernel
theorem dX11_calculated_36 : decode cX11_calculated 36 = .ok (.iconst 0, 1) := by decide +kernel
theorem dX11_calculated_37 : decode cX11_calculated 37 = .ok (.iconst 0, 1) := by decide +kernel
theorem dX11_calculated_38 : decode cX11_calculated 38 = .ok (.invokevirtual 212, 3) := by decide +kernel
theorem dX11_calculated_41 : decode cX11_calculated 41 = .ok (.goto 11, 3) := by decide +kernel
theorem dX11_calculated_44 : decode cX11_calculated 44 = .ok (.aload_n 0, 1) := by decide +kernel
theorem dX11_calculated_45 : decode cX11_calculated 45 = .ok (.iconst 2, 1) := by decide +kernel
theorem dX11_calculated_46 : decode cX11_calculated 46 = .ok (.iload_n 1, 1) := by decide +kernel
theorem dX11_calculated_47 : decode cX11_calculated 47 = .ok (.iload_n 2, 1) := by decide +kernel
theorem dX11_calculated_48 : decode cX11_calculated 48 = .ok (.iload_n 3, 1) := by decide +kernel
theorem dX11_calculated_49 : decode cX11_calculated 49 = .ok (.invokevirtual 212, 3) := by decide +kernel
theorem dX11_calculated_52 : decode cX11_calculated 52 = .ok (.ireturn, 1) := by decide +kernel
theorem dX11_picture_0 : decode cX11_picture 0 = .ok (.iconst 0, 1) := by decide +kernel
theorem dX11_picture_1 : decode cX11_picture 1 = .ok (.istore_n 1, 1) := by decide +kernel
theorem dX11_picture_2 : decode cX11_picture 2 = .ok (.iload_n 1, 1) := by decide +kernel
theorem dX11_picture_3 : decode cX11_picture 3 = .ok (.bipush 6, 2) := by decide +kernel
theorem dX11_picture_5 : decode cX11_picture 5 = .ok (.if_icmp .ge 21, 3) := by decide +kernel
theorem dX11_picture_8 : decode cX11_picture 8 = .ok (.aload_n 0, 1) := by decide +kernel
theorem dX11_picture_9 : decode cX11_picture 9 = .ok (.getfield 93, 3) := by decide +kernel
theorem dX11_picture_12 : decode cX11_picture 12 = .ok (.aload_n 0, 1) := by decide +kernel
theorem dX11_picture_13 : decode cX11_picture 13 = .ok (.getfield 102, 3) := by decide +kernel
theorem dX11_picture_16 : decode cX11_picture 16 = .ok (.iload_n 1, 1) := by decide +kernel
theorem dX11_picture_17 : decode cX11_picture 17 = .ok (.iaload, 1) := by decide +kernel
theorem dX11_picture_18 : decode cX11_picture 18 = .ok (.iconst 1, 1) := by decide +kernel
theorem dX11_picture_19 : decode cX11_picture 19 = .ok (.bastore, 1) := by decide +kernel
theorem dX11_picture_20 : decode cX11_picture 20 = .ok (.iinc 1 1, 3) := by decide +kernel
theorem dX11_picture_23 : decode cX11_picture 23 = .ok (.goto (-21), 3) := by decide +kernel
theorem dX11_picture_26 : decode cX11_picture 26 = .ok (.iconst 0, 1) := by decide +kernel
theorem dX11_picture_27 : decode cX11_picture 27 = .ok (.istore_n 1, 1) := by decide +kernel
theorem dX11_picture_28 : decode cX11_picture 28 = .ok (.iload_n 1, 1) := by decide +kernel
theorem dX11_picture_29 : decode cX11_picture 29 = .ok (.aload_n 0, 1) := by decide +kernel
theorem dX11_picture_30 : decode cX11_picture 30 = .ok (.getfield 216, 3) := by decide +kernel
theorem dX11_picture_33 : decode cX11_picture 33 = .ok (.if_icmp .ge 21, 3) := by decide +kernel
theorem dX11_picture_36 : decode cX11_picture 36 = .ok (.aload_n 0, 1) := by decide +kernel
theorem dX11_picture_37 : decode cX11_picture 37 = .ok (.getfield 93, 3) := by decide +kernel
theorem dX11_picture_40 : decode cX11_picture 40 = .ok (.aload_n 0, 1) := by decide +kernel
theorem dX11_picture_41 : decode cX11_picture 41 = .ok (.getfield 105, 3) := by decide +kernel
theorem dX11_picture_44 : decode cX11_picture 44 = .ok (.iload_n 1, 1) := by decide +kernel
theorem dX11_picture_45 : decode cX11_picture 45 = .ok (.iaload, 1) := by decide +kernel
theorem dX11_picture_46 : decode cX11_picture 46 = .ok (.iconst 1, 1) := by decide +kernel
theorem dX11_picture_47 : decode cX11_picture 47 = .ok (.bastore, 1) := by decide +kernel
theorem dX11_picture_48 : decode cX11_picture 48 = .ok (.iinc 1 1, 3) := by decide +kernel
theorem dX11_picture_51 : decode cX11_picture 51 = .ok (.goto (-23), 3) := by decide +kernel
theorem dX11_picture_54 : decode cX11_picture 54 = .ok (.return_, 1) := by decide +kernel
theorem dX11_through_0 : decode cX11_through 0 = .ok (.aload_n 0, 1) := by decide +kernel
theorem dX11_through_1 : decode cX11_through 1 = .ok (.getfield 41, 3) := by decide +kernel
theorem dX11_through_4 : decode cX11_through 4 = .ok (.iload_n 1, 1) := by decide +kernel
theorem dX11_through_5 : decode cX11_through 5 = .ok (.iaload, 1) := by decide +kernel
theorem dX11_through_6 : decode cX11_through 6 = .ok (.istore_n 2, 1) := by decide +kernel
theorem dX11_through_7 : decode cX11_through 7 = .ok (.aload_n 0, 1) := by decide +kernel
theorem dX11_through_8 : decode cX11_through 8 = .ok (.getfield 7, 3) := by decide +kernel
theorem dX11_through_11 : decode cX11_through 11 = .ok (.iload_n 2, 1) := by decide +kernel
theorem dX11_through_12 : decode cX11_through 12 = .ok (.iaload, 1) := by decide +kernel
theorem dX11_through_13 : decode cX11_through 13 = .ok (.istore_n 3, 1) := by decide +kernel
theorem dX11_through_14 : decode cX11_through 14 = .ok (.aload_n 0, 1) := by decide +kernel
theorem dX11_through_15 : decode cX11_through 15 = .ok (.getfield 209, 3) := by decide +kernel
theorem dX11_through_18 : decode cX11_through 18 = .ok (.istore 4, 2) := by decide +kernel
theorem dX11_through_20 : decode cX11_through 20 = .ok (.iload_n 3, 1) := by decide +kernel
theorem dX11_through_21 : decode cX11_through 21 = .ok (.invokestatic 133, 3) := by decide +kernel
theorem dX11_through_24 : decode cX11_through 24 = .ok (.ifCond .le 17, 3) := by decide +kernel
theorem dX11_through_27 : decode cX11_through 27 = .ok (.aload_n 0, 1) := by decide +kernel
theorem dX11_through_28 : decode cX11_through 28 = .ok (.getfield 105, 3) := by decide +kernel
theorem dX11_through_31 : decode cX11_through 31 = .ok (.aload_n 0, 1) := by decide +kernel
theorem dX11_through_32 : decode cX11_through 32 = .ok (.getfield 216, 3) := by decide +kernel
theorem dX11_through_35 : decode cX11_through 35 = .ok (.iconst 1, 1) := by decide +kernel
theorem dX11_through_36 : decode cX11_through 36 = .ok (.isub, 1) := by decide +kernel
theorem dX11_through_37 : decode cX11_through 37 = .ok (.iaload, 1) := by decide +kernel
theorem dX11_through_38 : decode cX11_through 38 = .ok (.goto 4, 3) := by decide +kernel
theorem dX11_through_41 : decode cX11_through 41 = .ok (.iconst 0, 1) := by decide +kernel
theorem dX11_through_42 : decode cX11_through 42 = .ok (.istore 5, 2) := by decide +kernel
theorem dX11_through_44 : decode cX11_through 44 = .ok (.iload_n 3, 1) := by decide +kernel
theorem dX11_through_45 : decode cX11_through 45 = .ok (.invokestatic 133, 3) := by decide +kernel
theorem dX11_through_48 : decode cX11_through 48 = .ok (.iconst 1, 1) := by decide +kernel
theorem dX11_through_49 : decode cX11_through 49 = .ok (.if_icmp .le 17, 3) := by decide +kernel
theorem dX11_through_52 : decode cX11_through 52 = .ok (.aload_n 0, 1) := by decide +kernel
theorem dX11_through_53 : decode cX11_through 53 = .ok (.getfield 105, 3) := by decide +kernel
theorem dX11_through_56 : decode cX11_through 56 = .ok (.aload_n 0, 1) := by decide +kernel
theorem dX11_through_57 : decode cX11_through 57 = .ok (.getfield 216, 3) := by decide +kernel
theorem dX11_through_60 : decode cX11_through 60 = .ok (.iconst 2, 1) := by decide +kernel
theorem dX11_through_61 : decode cX11_through 61 = .ok (.isub, 1) := by decide +kernel
theorem dX11_through_62 : decode cX11_through 62 = .ok (.iaload, 1) := by decide +kernel
theorem dX11_through_63 : decode cX11_through 63 = .ok (.goto 4, 3) := by decide +kernel
theorem dX11_through_66 : decode cX11_through 66 = .ok (.iconst 0, 1) := by decide +kernel
theorem dX11_through_67 : decode cX11_through 67 = .ok (.istore 6, 2) := by decide +kernel
theorem dX11_through_69 : decode cX11_through 69 = .ok (.aload_n 0, 1) := by decide +kernel
theorem dX11_through_70 : decode cX11_through 70 = .ok (.dup, 1) := by decide +kernel
theorem dX11_through_71 : decode cX11_through 71 = .ok (.getfield 216, 3) := by decide +kernel
theorem dX11_through_74 : decode cX11_through 74 = .ok (.iload_n 3, 1) := by decide +kernel
theorem dX11_through_75 : decode cX11_through 75 = .ok (.invokestatic 133, 3) := by decide +kernel
theorem dX11_through_78 : decode cX11_through 78 = .ok (.isub, 1) := by decide +kernel
theorem dX11_through_79 : decode cX11_through 79 = .ok (.putfield 216, 3) := by decide +kernel
theorem dX11_through_82 : decode cX11_through 82 = .ok (.iload_n 3, 1) := by decide +kernel
theorem dX11_through_83 : decode cX11_through 83 = .ok (.ifCond .ne 25, 3) := by decide +kernel
theorem dX11_through_86 : decode cX11_through 86 = .ok (.aload_n 0, 1) := by decide +kernel
theorem dX11_through_87 : decode cX11_through 87 = .ok (.getfield 105, 3) := by decide +kernel
theorem dX11_through_90 : decode cX11_through 90 = .ok (.aload_n 0, 1) := by decide +kernel
theorem dX11_through_91 : decode cX11_through 91 = .ok (.getfield 216, 3) := by decide +kernel
theorem dX11_through_94 : decode cX11_through 94 = .ok (.aload_n 0, 1) := by decide +kernel
theorem dX11_through_95 : decode cX11_through 95 = .ok (.iconst 0, 1) := by decide +kernel
theorem dX11_through_96 : decode cX11_through 96 = .ok (.aload_n 0, 1) := by decide +kernel
theorem dX11_through_97 : decode cX11_through 97 = .ok (.getfield 13, 3) := by decide +kernel
theorem dX11_through_100 : decode cX11_through 100 = .ok (.iload_n 2, 1) := by decide +kernel
theorem dX11_through_101 : decode cX11_through 101 = .ok (.iaload, 1) := by decide +kernel
theorem dX11_through_102 : decode cX11_through 102 = .ok (.iconst 0, 1) := by decide +kernel
theorem dX11_through_103 : decode cX11_through 103 = .ok (.iconst 0, 1) := by decide +kernel
theorem dX11_through_104 : decode cX11_through 104 = .ok (.invokevirtual 212, 3) := by decide +kernel
theorem dX11_through_107 : decode cX11_through 107 = .ok (.iastore, 1) := by decide +kernel
theorem dX11_through_108 : decode cX11_through 108 = .ok (.iload_n 3, 1) := by decide +kernel
theorem dX11_through_109 : decode cX11_through 109 = .ok (.iconst 1, 1) := by decide +kernel
theorem dX11_through_110 : decode cX11_through 110 = .ok (.if_icmp .ne 23, 3) := by decide +kernel
theorem dX11_through_113 : decode cX11_through 113 = .ok (.aload_n 0, 1) := by decide +kernel
theorem dX11_through_114 : decode cX11_through 114 = .ok (.getfield 105, 3) := by decide +kernel
theorem dX11_through_117 : decode cX11_through 117 = .ok (.aload_n 0, 1) := by decide +kernel
theorem dX11_through_118 : decode cX11_through 118 = .ok (.getfield 216, 3) := by decide +kernel
theorem dX11_through_121 : decode cX11_through 121 = .ok (.aload_n 0, 1) := by decide +kernel
theorem dX11_through_122 : decode cX11_through 122 = .ok (.getfield 102, 3) := by decide +kernel
theorem dX11_through_125 : decode cX11_through 125 = .ok (.aload_n 0, 1) := by decide +kernel
theorem dX11_through_126 : decode cX11_through 126 = .ok (.getfield 13, 3) := by decide +kernel
theorem dX11_through_129 : decode cX11_through 129 = .ok (.iload_n 2, 1) := by decide +kernel
theorem dX11_through_130 : decode cX11_through 130 = .ok (.iaload, 1) := by decide +kernel
theorem dX11_through_131 : decode cX11_through 131 = .ok (.iaload, 1) := by decide +kernel
theorem dX11_through_132 : decode cX11_through 132 = .ok (.iastore, 1) := by decide +kernel
theorem dX11_through_133 : decode cX11_through 133 = .ok (.iload_n 3, 1) := by decide +kernel
theorem dX11_through_134 : decode cX11_through 134 = .ok (.iconst 2, 1) := by decide +kernel
theorem dX11_through_135 : decode cX11_through 135 = .ok (.if_icmp .ne 16, 3) := by decide +kernel
theorem dX11_through_138 : decode cX11_through 138 = .ok (.aload_n 0, 1) := by decide +kernel
theorem dX11_through_139 : decode cX11_through 139 = .ok (.getfield 102, 3) := by decide +kernel
theorem dX11_through_142 : decode cX11_through 142 = .ok (.aload_n 0, 1) := by decide +kernel
theorem dX11_through_143 : decode cX11_through 143 = .ok (.getfield 13, 3) := by decide +kernel
theorem dX11_through_146 : decode cX11_through 146 = .ok (.iload_n 2, 1) := by decide +kernel
theorem dX11_through_147 : decode cX11_through 147 = .ok (.iaload, 1) := by decide +kernel
theorem dX11_through_148 : decode cX11_through 148 = .ok (.iload 5, 2) := by decide +kernel
theorem dX11_through_150 : decode cX11_through 150 = .ok (.iastore, 1) := by decide +kernel
theorem dX11_through_151 : decode cX11_through 151 = .ok (.iload_n 3, 1) := by decide +kernel
theorem dX11_through_152 : decode cX11_through 152 = .ok (.iconst 3, 1) := by decide +kernel
theorem dX11_through_153 : decode cX11_through 153 = .ok (.bipush 8, 2) := by decide +kernel
theorem dX11_through_155 : decode cX11_through 155 = .ok (.invokestatic 114, 3) := by decide +kernel
theorem dX11_through_158 : decode cX11_through 158 = .ok (.ifCond .eq 21, 3) := by decide +kernel
theorem dX11_through_161 : decode cX11_through 161 = .ok (.aload_n 0, 1) := by decide +kernel
theorem dX11_through_162 : decode cX11_through 162 = .ok (.getfield 105, 3) := by decide +kernel
theorem dX11_through_165 : decode cX11_through 165 = .ok (.aload_n 0, 1) := by decide +kernel
theorem dX11_through_166 : decode cX11_through 166 = .ok (.getfield 216, 3) := by decide +kernel
theorem dX11_through_169 : decode cX11_through 169 = .ok (.aload_n 0, 1) := by decide +kernel
theorem dX11_through_170 : decode cX11_through 170 = .ok (.iload_n 3, 1) := by decide +kernel
theorem dX11_through_171 : decode cX11_through 171 = .ok (.iload 6, 2) := by decide +kernel
theorem dX11_through_173 : decode cX11_through 173 = .ok (.iload 5, 2) := by decide +kernel
theorem dX11_through_175 : decode cX11_through 175 = .ok (.invokevirtual 219, 3) := by decide +kernel
theorem dX11_through_178 : decode cX11_through 178 = .ok (.iastore, 1) := by decide +kernel
theorem dX11_through_179 : decode cX11_through 179 = .ok (.iload_n 3, 1) := by decide +kernel
theorem dX11_through_180 : decode cX11_through 180 = .ok (.bipush 9, 2) := by decide +kernel
theorem dX11_through_182 : decode cX11_through 182 = .ok (.if_icmp .eq 9, 3) := by decide +kernel
theorem dX11_through_185 : decode cX11_through 185 = .ok (.iload_n 3, 1) := by decide +kernel
theorem dX11_through_186 : decode cX11_through 186 = .ok (.bipush 11, 2) := by decide +kernel
theorem dX11_through_188 : decode cX11_through 188 = .ok (.if_icmp .ne 38, 3) := by decide +kernel
theorem dX11_through_191 : decode cX11_through 191 = .ok (.aload_n 0, 1) := by decide +kernel
theorem dX11_through_192 : decode cX11_through 192 = .ok (.getfield 105, 3) := by decide +kernel
theorem dX11_through_195 : decode cX11_through 195 = .ok (.aload_n 0, 1) := by decide +kernel
theorem dX11_through_196 : decode cX11_through 196 = .ok (.getfield 216, 3) := by decide +kernel
theorem dX11_through_199 : decode cX11_through 199 = .ok (.iload 5, 2) := by decide +kernel
theorem dX11_through_201 : decode cX11_through 201 = .ok (.iastore, 1) := by decide +kernel
theorem dX11_through_202 : decode cX11_through 202 = .ok (.aload_n 0, 1) := by decide +kernel
theorem dX11_through_203 : decode cX11_through 203 = .ok (.getfield 105, 3) := by decide +kernel
theorem dX11_through_206 : decode cX11_through 206 = .ok (.aload_n 0, 1) := by decide +kernel
theorem dX11_through_207 : decode cX11_through 207 = .ok (.getfield 216, 3) := by decide +kernel
theorem dX11_through_210 : decode cX11_through 210 = .ok (.iconst 1, 1) := by decide +kernel
theorem dX11_through_211 : decode cX11_through 211 = .ok (.iadd, 1) := by decide +kernel
theorem dX11_through_212 : decode cX11_through 212 = .ok (.iload_n 3, 1) := by decide +kernel
theorem dX11_through_213 : decode cX11_through 213 = .ok (.bipush 9, 2) := by decide +kernel
theorem dX11_through_215 : decode cX11_through 215 = .ok (.if_icmp .ne 8, 3) := by decide +kernel
theorem dX11_through_218 : decode cX11_through 218 = .ok (.iload 5, 2) := by decide +kernel
theorem dX11_through_220 : decode cX11_through 220 = .ok (.goto 5, 3) := by decide +kernel
theorem dX11_through_223 : decode cX11_through 223 = .ok (.iload 6, 2) := by decide +kernel
theorem dX11_through_225 : decode cX11_through 225 = .ok (.iastore, 1) := by decide +kernel
theorem dX11_through_226 : decode cX11_through 226 = .ok (.aload_n 0, 1) := by decide +kernel
theorem dX11_through_227 : decode cX11_through 227 = .ok (.dup, 1) := by decide +kernel
theorem dX11_through_228 : decode cX11_through 228 = .ok (.getfield 216, 3) := by decide +kernel
theorem dX11_through_231 : decode cX11_through 231 = .ok (.iload_n 3, 1) := by decide +kernel
theorem dX11_through_232 : decode cX11_through 232 = .ok (.invokestatic 136, 3) := by decide +kernel
theorem dX11_through_235 : decode cX11_through 235 = .ok (.iadd, 1) := by decide +kernel
theorem dX11_through_236 : decode cX11_through 236 = .ok (.putfield 216, 3) := by decide +kernel
theorem dX11_through_239 : decode cX11_through 239 = .ok (.aload_n 0, 1) := by decide +kernel
theorem dX11_through_240 : decode cX11_through 240 = .ok (.getfield 44, 3) := by decide +kernel
theorem dX11_through_243 : decode cX11_through 243 = .ok (.iload_n 1, 1) := by decide +kernel
theorem dX11_through_244 : decode cX11_through 244 = .ok (.baload, 1) := by decide +kernel
theorem dX11_through_245 : decode cX11_through 245 = .ok (.ifCond .eq 7, 3) := by decide +kernel
theorem dX11_through_248 : decode cX11_through 248 = .ok (.iconst 2, 1) := by decide +kernel
theorem dX11_through_249 : decode cX11_through 249 = .ok (.goto 4, 3) := by decide +kernel
theorem dX11_through_252 : decode cX11_through 252 = .ok (.iconst 1, 1) := by decide +kernel
end
section
theorem dX11_through_253 : decode cX11_through 253 = .ok (.istore 7, 2) := by decide +kernel
theorem dX11_through_255 : decode cX11_through 255 = .ok (.iload_n 3, 1) := by decide +kernel
theorem dX11_through_256 : decode cX11_through 256 = .ok (.bipush 14, 2) := by decide +kernel
theorem dX11_through_258 : decode cX11_through 258 = .ok (.if_icmp .ne 52, 3) := by decide +kernel
theorem dX11_through_261 : decode cX11_through 261 = .ok (.aload_n 0, 1) := by decide +kernel
theorem dX11_through_262 : decode cX11_through 262 = .ok (.getfield 81, 3) := by decide +kernel
theorem dX11_through_265 : decode cX11_through 265 = .ok (.iload 5, 2) := by decide +kernel
theorem dX11_through_267 : decode cX11_through 267 = .ok (.iaload, 1) := by decide +kernel
theorem dX11_through_268 : decode cX11_through 268 = .ok (.ifCond .le 42, 3) := by decide +kernel
theorem dX11_through_271 : decode cX11_through 271 = .ok (.aload_n 0, 1) := by decide +kernel
theorem dX11_through_272 : decode cX11_through 272 = .ok (.getfield 99, 3) := by decide +kernel
theorem dX11_through_275 : decode cX11_through 275 = .ok (.iload 5, 2) := by decide +kernel
theorem dX11_through_277 : decode cX11_through 277 = .ok (.iaload, 1) := by decide +kernel
theorem dX11_through_278 : decode cX11_through 278 = .ok (.iload 7, 2) := by decide +kernel
theorem dX11_through_280 : decode cX11_through 280 = .ok (.iand, 1) := by decide +kernel
theorem dX11_through_281 : decode cX11_through 281 = .ok (.ifCond .ne 29, 3) := by decide +kernel
theorem dX11_through_284 : decode cX11_through 284 = .ok (.aload_n 0, 1) := by decide +kernel
theorem dX11_through_285 : decode cX11_through 285 = .ok (.getfield 99, 3) := by decide +kernel
theorem dX11_through_288 : decode cX11_through 288 = .ok (.iload 5, 2) := by decide +kernel
theorem dX11_through_290 : decode cX11_through 290 = .ok (.dup2, 1) := by decide +kernel
theorem dX11_through_291 : decode cX11_through 291 = .ok (.iaload, 1) := by decide +kernel
theorem dX11_through_292 : decode cX11_through 292 = .ok (.iload 7, 2) := by decide +kernel
theorem dX11_through_294 : decode cX11_through 294 = .ok (.ior, 1) := by decide +kernel
theorem dX11_through_295 : decode cX11_through 295 = .ok (.iastore, 1) := by decide +kernel
theorem dX11_through_296 : decode cX11_through 296 = .ok (.aload_n 0, 1) := by decide +kernel
theorem dX11_through_297 : decode cX11_through 297 = .ok (.getfield 93, 3) := by decide +kernel
theorem dX11_through_300 : decode cX11_through 300 = .ok (.iload 5, 2) := by decide +kernel
theorem dX11_through_302 : decode cX11_through 302 = .ok (.iconst 1, 1) := by decide +kernel
theorem dX11_through_303 : decode cX11_through 303 = .ok (.bastore, 1) := by decide +kernel
theorem dX11_through_304 : decode cX11_through 304 = .ok (.aload_n 0, 1) := by decide +kernel
theorem dX11_through_305 : decode cX11_through 305 = .ok (.invokevirtual 222, 3) := by decide +kernel
theorem dX11_through_308 : decode cX11_through 308 = .ok (.iconst 1, 1) := by decide +kernel
theorem dX11_through_309 : decode cX11_through 309 = .ok (.ireturn, 1) := by decide +kernel
theorem dX11_through_310 : decode cX11_through 310 = .ok (.iload_n 3, 1) := by decide +kernel
theorem dX11_through_311 : decode cX11_through 311 = .ok (.bipush 12, 2) := by decide +kernel
theorem dX11_through_313 : decode cX11_through 313 = .ok (.if_icmp .ne 13, 3) := by decide +kernel
theorem dX11_through_316 : decode cX11_through 316 = .ok (.aload_n 0, 1) := by decide +kernel
theorem dX11_through_317 : decode cX11_through 317 = .ok (.getfield 93, 3) := by decide +kernel
theorem dX11_through_320 : decode cX11_through 320 = .ok (.iload 5, 2) := by decide +kernel
theorem dX11_through_322 : decode cX11_through 322 = .ok (.iconst 1, 1) := by decide +kernel
theorem dX11_through_323 : decode cX11_through 323 = .ok (.bastore, 1) := by decide +kernel
theorem dX11_through_324 : decode cX11_through 324 = .ok (.iconst 2, 1) := by decide +kernel
theorem dX11_through_325 : decode cX11_through 325 = .ok (.ireturn, 1) := by decide +kernel
theorem dX11_through_326 : decode cX11_through 326 = .ok (.iload_n 3, 1) := by decide +kernel
theorem dX11_through_327 : decode cX11_through 327 = .ok (.iconst 3, 1) := by decide +kernel
theorem dX11_through_328 : decode cX11_through 328 = .ok (.bipush 8, 2) := by decide +kernel
theorem dX11_through_330 : decode cX11_through 330 = .ok (.invokestatic 114, 3) := by decide +kernel
theorem dX11_through_333 : decode cX11_through 333 = .ok (.ifCond .eq 39, 3) := by decide +kernel
theorem dX11_through_336 : decode cX11_through 336 = .ok (.aload_n 0, 1) := by decide +kernel
theorem dX11_through_337 : decode cX11_through 337 = .ok (.getfield 209, 3) := by decide +kernel
theorem dX11_through_340 : decode cX11_through 340 = .ok (.iload 4, 2) := by decide +kernel
theorem dX11_through_342 : decode cX11_through 342 = .ok (.if_icmp .le 30, 3) := by decide +kernel
theorem dX11_through_345 : decode cX11_through 345 = .ok (.aload_n 0, 1) := by decide +kernel
theorem dX11_through_346 : decode cX11_through 346 = .ok (.getfield 81, 3) := by decide +kernel
theorem dX11_through_349 : decode cX11_through 349 = .ok (.aload_n 0, 1) := by decide +kernel
theorem dX11_through_350 : decode cX11_through 350 = .ok (.getfield 209, 3) := by decide +kernel
theorem dX11_through_353 : decode cX11_through 353 = .ok (.iconst 1, 1) := by decide +kernel
theorem dX11_through_354 : decode cX11_through 354 = .ok (.isub, 1) := by decide +kernel
theorem dX11_through_355 : decode cX11_through 355 = .ok (.iaload, 1) := by decide +kernel
theorem dX11_through_356 : decode cX11_through 356 = .ok (.iconst 2, 1) := by decide +kernel
theorem dX11_through_357 : decode cX11_through 357 = .ok (.if_icmp .ne 15, 3) := by decide +kernel
theorem dX11_through_360 : decode cX11_through 360 = .ok (.bipush (-3), 2) := by decide +kernel
theorem dX11_through_362 : decode cX11_through 362 = .ok (.aload_n 0, 1) := by decide +kernel
theorem dX11_through_363 : decode cX11_through 363 = .ok (.getfield 209, 3) := by decide +kernel
theorem dX11_through_366 : decode cX11_through 366 = .ok (.iconst 1, 1) := by decide +kernel
theorem dX11_through_367 : decode cX11_through 367 = .ok (.isub, 1) := by decide +kernel
theorem dX11_through_368 : decode cX11_through 368 = .ok (.isub, 1) := by decide +kernel
theorem dX11_through_369 : decode cX11_through 369 = .ok (.goto 4, 3) := by decide +kernel
theorem dX11_through_372 : decode cX11_through 372 = .ok (.iconst 0, 1) := by decide +kernel
theorem dX11_through_373 : decode cX11_through 373 = .ok (.ireturn, 1) := by decide +kernel
theorem dX11_makeTrace_0 : decode cX11_makeTrace 0 = .ok (.aload_n 0, 1) := by decide +kernel
theorem dX11_makeTrace_1 : decode cX11_makeTrace 1 = .ok (.iconst 0, 1) := by decide +kernel
theorem dX11_makeTrace_2 : decode cX11_makeTrace 2 = .ok (.putfield 209, 3) := by decide +kernel
theorem dX11_makeTrace_5 : decode cX11_makeTrace 5 = .ok (.aload_n 0, 1) := by decide +kernel
theorem dX11_makeTrace_6 : decode cX11_makeTrace 6 = .ok (.iconst 0, 1) := by decide +kernel
theorem dX11_makeTrace_7 : decode cX11_makeTrace 7 = .ok (.putfield 216, 3) := by decide +kernel
theorem dX11_makeTrace_10 : decode cX11_makeTrace 10 = .ok (.iconst 0, 1) := by decide +kernel
theorem dX11_makeTrace_11 : decode cX11_makeTrace 11 = .ok (.istore_n 1, 1) := by decide +kernel
theorem dX11_makeTrace_12 : decode cX11_makeTrace 12 = .ok (.iload_n 1, 1) := by decide +kernel
theorem dX11_makeTrace_13 : decode cX11_makeTrace 13 = .ok (.bipush 6, 2) := by decide +kernel
theorem dX11_makeTrace_15 : decode cX11_makeTrace 15 = .ok (.if_icmp .ge 23, 3) := by decide +kernel
theorem dX11_makeTrace_18 : decode cX11_makeTrace 18 = .ok (.aload_n 0, 1) := by decide +kernel
theorem dX11_makeTrace_19 : decode cX11_makeTrace 19 = .ok (.getfield 102, 3) := by decide +kernel
theorem dX11_makeTrace_22 : decode cX11_makeTrace 22 = .ok (.iload_n 1, 1) := by decide +kernel
theorem dX11_makeTrace_23 : decode cX11_makeTrace 23 = .ok (.aload_n 0, 1) := by decide +kernel
theorem dX11_makeTrace_24 : decode cX11_makeTrace 24 = .ok (.iconst 1, 1) := by decide +kernel
theorem dX11_makeTrace_25 : decode cX11_makeTrace 25 = .ok (.iload_n 1, 1) := by decide +kernel
theorem dX11_makeTrace_26 : decode cX11_makeTrace 26 = .ok (.iconst 0, 1) := by decide +kernel
theorem dX11_makeTrace_27 : decode cX11_makeTrace 27 = .ok (.iconst 0, 1) := by decide +kernel
theorem dX11_makeTrace_28 : decode cX11_makeTrace 28 = .ok (.invokevirtual 212, 3) := by decide +kernel
theorem dX11_makeTrace_31 : decode cX11_makeTrace 31 = .ok (.iastore, 1) := by decide +kernel
theorem dX11_makeTrace_32 : decode cX11_makeTrace 32 = .ok (.iinc 1 1, 3) := by decide +kernel
theorem dX11_makeTrace_35 : decode cX11_makeTrace 35 = .ok (.goto (-23), 3) := by decide +kernel
theorem dX11_makeTrace_38 : decode cX11_makeTrace 38 = .ok (.iconst 0, 1) := by decide +kernel
theorem dX11_makeTrace_39 : decode cX11_makeTrace 39 = .ok (.istore_n 1, 1) := by decide +kernel
theorem dX11_makeTrace_40 : decode cX11_makeTrace 40 = .ok (.iload_n 1, 1) := by decide +kernel
theorem dX11_makeTrace_41 : decode cX11_makeTrace 41 = .ok (.aload_n 0, 1) := by decide +kernel
theorem dX11_makeTrace_42 : decode cX11_makeTrace 42 = .ok (.getfield 185, 3) := by decide +kernel
theorem dX11_makeTrace_45 : decode cX11_makeTrace 45 = .ok (.if_icmp .ge 20, 3) := by decide +kernel
theorem dX11_makeTrace_48 : decode cX11_makeTrace 48 = .ok (.aload_n 0, 1) := by decide +kernel
theorem dX11_makeTrace_49 : decode cX11_makeTrace 49 = .ok (.getfield 108, 3) := by decide +kernel
theorem dX11_makeTrace_52 : decode cX11_makeTrace 52 = .ok (.iload_n 1, 1) := by decide +kernel
theorem dX11_makeTrace_53 : decode cX11_makeTrace 53 = .ok (.aload_n 0, 1) := by decide +kernel
theorem dX11_makeTrace_54 : decode cX11_makeTrace 54 = .ok (.iload_n 1, 1) := by decide +kernel
theorem dX11_makeTrace_55 : decode cX11_makeTrace 55 = .ok (.invokevirtual 225, 3) := by decide +kernel
theorem dX11_makeTrace_58 : decode cX11_makeTrace 58 = .ok (.iastore, 1) := by decide +kernel
theorem dX11_makeTrace_59 : decode cX11_makeTrace 59 = .ok (.iinc 1 1, 3) := by decide +kernel
theorem dX11_makeTrace_62 : decode cX11_makeTrace 62 = .ok (.goto (-22), 3) := by decide +kernel
theorem dX11_makeTrace_65 : decode cX11_makeTrace 65 = .ok (.aload_n 0, 1) := by decide +kernel
theorem dX11_makeTrace_66 : decode cX11_makeTrace 66 = .ok (.getfield 145, 3) := by decide +kernel
theorem dX11_makeTrace_69 : decode cX11_makeTrace 69 = .ok (.istore_n 1, 1) := by decide +kernel
theorem dX11_makeTrace_70 : decode cX11_makeTrace 70 = .ok (.aload_n 0, 1) := by decide +kernel
theorem dX11_makeTrace_71 : decode cX11_makeTrace 71 = .ok (.getfield 78, 3) := by decide +kernel
theorem dX11_makeTrace_74 : decode cX11_makeTrace 74 = .ok (.iload_n 1, 1) := by decide +kernel
theorem dX11_makeTrace_75 : decode cX11_makeTrace 75 = .ok (.iconst 0, 1) := by decide +kernel
theorem dX11_makeTrace_76 : decode cX11_makeTrace 76 = .ok (.iastore, 1) := by decide +kernel
theorem dX11_makeTrace_77 : decode cX11_makeTrace 77 = .ok (.iconst 0, 1) := by decide +kernel
theorem dX11_makeTrace_78 : decode cX11_makeTrace 78 = .ok (.istore_n 2, 1) := by decide +kernel
theorem dX11_makeTrace_79 : decode cX11_makeTrace 79 = .ok (.iload_n 2, 1) := by decide +kernel
theorem dX11_makeTrace_80 : decode cX11_makeTrace 80 = .ok (.bipush 6, 2) := by decide +kernel
theorem dX11_makeTrace_82 : decode cX11_makeTrace 82 = .ok (.if_icmp .ge 66, 3) := by decide +kernel
theorem dX11_makeTrace_85 : decode cX11_makeTrace 85 = .ok (.aload_n 0, 1) := by decide +kernel
theorem dX11_makeTrace_86 : decode cX11_makeTrace 86 = .ok (.getfield 93, 3) := by decide +kernel
theorem dX11_makeTrace_89 : decode cX11_makeTrace 89 = .ok (.aload_n 0, 1) := by decide +kernel
theorem dX11_makeTrace_90 : decode cX11_makeTrace 90 = .ok (.getfield 102, 3) := by decide +kernel
theorem dX11_makeTrace_93 : decode cX11_makeTrace 93 = .ok (.iload_n 2, 1) := by decide +kernel
theorem dX11_makeTrace_94 : decode cX11_makeTrace 94 = .ok (.iaload, 1) := by decide +kernel
theorem dX11_makeTrace_95 : decode cX11_makeTrace 95 = .ok (.iconst 1, 1) := by decide +kernel
theorem dX11_makeTrace_96 : decode cX11_makeTrace 96 = .ok (.bastore, 1) := by decide +kernel
theorem dX11_makeTrace_97 : decode cX11_makeTrace 97 = .ok (.aload_n 0, 1) := by decide +kernel
theorem dX11_makeTrace_98 : decode cX11_makeTrace 98 = .ok (.getfield 96, 3) := by decide +kernel
theorem dX11_makeTrace_101 : decode cX11_makeTrace 101 = .ok (.iload_n 2, 1) := by decide +kernel
theorem dX11_makeTrace_102 : decode cX11_makeTrace 102 = .ok (.aload_n 0, 1) := by decide +kernel
theorem dX11_makeTrace_103 : decode cX11_makeTrace 103 = .ok (.getfield 102, 3) := by decide +kernel
theorem dX11_makeTrace_106 : decode cX11_makeTrace 106 = .ok (.iload_n 2, 1) := by decide +kernel
theorem dX11_makeTrace_107 : decode cX11_makeTrace 107 = .ok (.iaload, 1) := by decide +kernel
theorem dX11_makeTrace_108 : decode cX11_makeTrace 108 = .ok (.iload_n 2, 1) := by decide +kernel
theorem dX11_makeTrace_109 : decode cX11_makeTrace 109 = .ok (.if_icmp .ne 7, 3) := by decide +kernel
theorem dX11_makeTrace_112 : decode cX11_makeTrace 112 = .ok (.iconst 1, 1) := by decide +kernel
theorem dX11_makeTrace_113 : decode cX11_makeTrace 113 = .ok (.goto 4, 3) := by decide +kernel
theorem dX11_makeTrace_116 : decode cX11_makeTrace 116 = .ok (.iconst 0, 1) := by decide +kernel
theorem dX11_makeTrace_117 : decode cX11_makeTrace 117 = .ok (.bastore, 1) := by decide +kernel
theorem dX11_makeTrace_118 : decode cX11_makeTrace 118 = .ok (.aload_n 0, 1) := by decide +kernel
theorem dX11_makeTrace_119 : decode cX11_makeTrace 119 = .ok (.getfield 78, 3) := by decide +kernel
theorem dX11_makeTrace_122 : decode cX11_makeTrace 122 = .ok (.iload_n 1, 1) := by decide +kernel
theorem dX11_makeTrace_123 : decode cX11_makeTrace 123 = .ok (.dup2, 1) := by decide +kernel
theorem dX11_makeTrace_124 : decode cX11_makeTrace 124 = .ok (.iaload, 1) := by decide +kernel
theorem dX11_makeTrace_125 : decode cX11_makeTrace 125 = .ok (.aload_n 0, 1) := by decide +kernel
theorem dX11_makeTrace_126 : decode cX11_makeTrace 126 = .ok (.getfield 102, 3) := by decide +kernel
theorem dX11_makeTrace_129 : decode cX11_makeTrace 129 = .ok (.iload_n 2, 1) := by decide +kernel
theorem dX11_makeTrace_130 : decode cX11_makeTrace 130 = .ok (.iaload, 1) := by decide +kernel
theorem dX11_makeTrace_131 : decode cX11_makeTrace 131 = .ok (.iload_n 2, 1) := by decide +kernel
theorem dX11_makeTrace_132 : decode cX11_makeTrace 132 = .ok (.if_icmp .ne 7, 3) := by decide +kernel
theorem dX11_makeTrace_135 : decode cX11_makeTrace 135 = .ok (.iconst 1, 1) := by decide +kernel
theorem dX11_makeTrace_136 : decode cX11_makeTrace 136 = .ok (.goto 4, 3) := by decide +kernel
theorem dX11_makeTrace_139 : decode cX11_makeTrace 139 = .ok (.iconst 0, 1) := by decide +kernel
theorem dX11_makeTrace_140 : decode cX11_makeTrace 140 = .ok (.iadd, 1) := by decide +kernel
theorem dX11_makeTrace_141 : decode cX11_makeTrace 141 = .ok (.iastore, 1) := by decide +kernel
theorem dX11_makeTrace_142 : decode cX11_makeTrace 142 = .ok (.iinc 2 1, 3) := by decide +kernel
theorem dX11_makeTrace_145 : decode cX11_makeTrace 145 = .ok (.goto (-66), 3) := by decide +kernel
theorem dX11_makeTrace_148 : decode cX11_makeTrace 148 = .ok (.aload_n 0, 1) := by decide +kernel
theorem dX11_makeTrace_149 : decode cX11_makeTrace 149 = .ok (.getfield 209, 3) := by decide +kernel
theorem dX11_makeTrace_152 : decode cX11_makeTrace 152 = .ok (.iconst 1, 1) := by decide +kernel
theorem dX11_makeTrace_153 : decode cX11_makeTrace 153 = .ok (.isub, 1) := by decide +kernel
theorem dX11_makeTrace_154 : decode cX11_makeTrace 154 = .ok (.istore_n 2, 1) := by decide +kernel
theorem dX11_makeTrace_155 : decode cX11_makeTrace 155 = .ok (.iload_n 2, 1) := by decide +kernel
theorem dX11_makeTrace_156 : decode cX11_makeTrace 156 = .ok (.ifCond .lt 52, 3) := by decide +kernel
theorem dX11_makeTrace_159 : decode cX11_makeTrace 159 = .ok (.aload_n 0, 1) := by decide +kernel
theorem dX11_makeTrace_160 : decode cX11_makeTrace 160 = .ok (.getfield 81, 3) := by decide +kernel
theorem dX11_makeTrace_163 : decode cX11_makeTrace 163 = .ok (.iload_n 2, 1) := by decide +kernel
theorem dX11_makeTrace_164 : decode cX11_makeTrace 164 = .ok (.iaload, 1) := by decide +kernel
theorem dX11_makeTrace_165 : decode cX11_makeTrace 165 = .ok (.iconst 2, 1) := by decide +kernel
theorem dX11_makeTrace_166 : decode cX11_makeTrace 166 = .ok (.if_icmp .ne 36, 3) := by decide +kernel
theorem dX11_makeTrace_169 : decode cX11_makeTrace 169 = .ok (.aload_n 0, 1) := by decide +kernel
theorem dX11_makeTrace_170 : decode cX11_makeTrace 170 = .ok (.getfield 93, 3) := by decide +kernel
theorem dX11_makeTrace_173 : decode cX11_makeTrace 173 = .ok (.iload_n 2, 1) := by decide +kernel
theorem dX11_makeTrace_174 : decode cX11_makeTrace 174 = .ok (.baload, 1) := by decide +kernel
theorem dX11_makeTrace_175 : decode cX11_makeTrace 175 = .ok (.ifCond .eq 27, 3) := by decide +kernel
theorem dX11_makeTrace_178 : decode cX11_makeTrace 178 = .ok (.aload_n 0, 1) := by decide +kernel
theorem dX11_makeTrace_179 : decode cX11_makeTrace 179 = .ok (.getfield 93, 3) := by decide +kernel
theorem dX11_makeTrace_182 : decode cX11_makeTrace 182 = .ok (.aload_n 0, 1) := by decide +kernel
theorem dX11_makeTrace_183 : decode cX11_makeTrace 183 = .ok (.getfield 87, 3) := by decide +kernel
theorem dX11_makeTrace_186 : decode cX11_makeTrace 186 = .ok (.iload_n 2, 1) := by decide +kernel
theorem dX11_makeTrace_187 : decode cX11_makeTrace 187 = .ok (.iaload, 1) := by decide +kernel
theorem dX11_makeTrace_188 : decode cX11_makeTrace 188 = .ok (.iconst 1, 1) := by decide +kernel
theorem dX11_makeTrace_189 : decode cX11_makeTrace 189 = .ok (.bastore, 1) := by decide +kernel
theorem dX11_makeTrace_190 : decode cX11_makeTrace 190 = .ok (.aload_n 0, 1) := by decide +kernel
theorem dX11_makeTrace_191 : decode cX11_makeTrace 191 = .ok (.getfield 93, 3) := by decide +kernel
theorem dX11_makeTrace_194 : decode cX11_makeTrace 194 = .ok (.aload_n 0, 1) := by decide +kernel
theorem dX11_makeTrace_195 : decode cX11_makeTrace 195 = .ok (.getfield 90, 3) := by decide +kernel
theorem dX11_makeTrace_198 : decode cX11_makeTrace 198 = .ok (.iload_n 2, 1) := by decide +kernel
theorem dX11_makeTrace_199 : decode cX11_makeTrace 199 = .ok (.iaload, 1) := by decide +kernel
theorem dX11_makeTrace_200 : decode cX11_makeTrace 200 = .ok (.iconst 1, 1) := by decide +kernel
theorem dX11_makeTrace_201 : decode cX11_makeTrace 201 = .ok (.bastore, 1) := by decide +kernel
theorem dX11_makeTrace_202 : decode cX11_makeTrace 202 = .ok (.iinc 2 (-1), 3) := by decide +kernel
theorem dX11_makeTrace_205 : decode cX11_makeTrace 205 = .ok (.goto (-50), 3) := by decide +kernel
theorem dX11_makeTrace_208 : decode cX11_makeTrace 208 = .ok (.bipush 6, 2) := by decide +kernel
theorem dX11_makeTrace_210 : decode cX11_makeTrace 210 = .ok (.istore_n 2, 1) := by decide +kernel
theorem dX11_makeTrace_211 : decode cX11_makeTrace 211 = .ok (.iload_n 2, 1) := by decide +kernel
theorem dX11_makeTrace_212 : decode cX11_makeTrace 212 = .ok (.aload_n 0, 1) := by decide +kernel
theorem dX11_makeTrace_213 : decode cX11_makeTrace 213 = .ok (.getfield 209, 3) := by decide +kernel
theorem dX11_makeTrace_216 : decode cX11_makeTrace 216 = .ok (.if_icmp .ge 57, 3) := by decide +kernel
theorem dX11_makeTrace_219 : decode cX11_makeTrace 219 = .ok (.aload_n 0, 1) := by decide +kernel
theorem dX11_makeTrace_220 : decode cX11_makeTrace 220 = .ok (.getfield 96, 3) := by decide +kernel
theorem dX11_makeTrace_223 : decode cX11_makeTrace 223 = .ok (.iload_n 2, 1) := by decide +kernel
theorem dX11_makeTrace_224 : decode cX11_makeTrace 224 = .ok (.aload_n 0, 1) := by decide +kernel
theorem dX11_makeTrace_225 : decode cX11_makeTrace 225 = .ok (.getfield 81, 3) := by decide +kernel
theorem dX11_makeTrace_228 : decode cX11_makeTrace 228 = .ok (.iload_n 2, 1) := by decide +kernel
theorem dX11_makeTrace_229 : decode cX11_makeTrace 229 = .ok (.iaload, 1) := by decide +kernel
theorem dX11_makeTrace_230 : decode cX11_makeTrace 230 = .ok (.ifCond .eq 31, 3) := by decide +kernel
theorem dX11_makeTrace_233 : decode cX11_makeTrace 233 = .ok (.aload_n 0, 1) := by decide +kernel
theorem dX11_makeTrace_234 : decode cX11_makeTrace 234 = .ok (.getfield 96, 3) := by decide +kernel
theorem dX11_makeTrace_237 : decode cX11_makeTrace 237 = .ok (.aload_n 0, 1) := by decide +kernel
theorem dX11_makeTrace_238 : decode cX11_makeTrace 238 = .ok (.getfield 87, 3) := by decide +kernel
theorem dX11_makeTrace_241 : decode cX11_makeTrace 241 = .ok (.iload_n 2, 1) := by decide +kernel
theorem dX11_makeTrace_242 : decode cX11_makeTrace 242 = .ok (.iaload, 1) := by decide +kernel
theorem dX11_makeTrace_243 : decode cX11_makeTrace 243 = .ok (.baload, 1) := by decide +kernel
theorem dX11_makeTrace_244 : decode cX11_makeTrace 244 = .ok (.ifCond .eq 21, 3) := by decide +kernel
theorem dX11_makeTrace_247 : decode cX11_makeTrace 247 = .ok (.aload_n 0, 1) := by decide +kernel
theorem dX11_makeTrace_248 : decode cX11_makeTrace 248 = .ok (.getfield 96, 3) := by decide +kernel
theorem dX11_makeTrace_251 : decode cX11_makeTrace 251 = .ok (.aload_n 0, 1) := by decide +kernel
theorem dX11_makeTrace_252 : decode cX11_makeTrace 252 = .ok (.getfield 90, 3) := by decide +kernel
theorem dX11_makeTrace_255 : decode cX11_makeTrace 255 = .ok (.iload_n 2, 1) := by decide +kernel
theorem dX11_makeTrace_256 : decode cX11_makeTrace 256 = .ok (.iaload, 1) := by decide +kernel
theorem dX11_makeTrace_257 : decode cX11_makeTrace 257 = .ok (.baload, 1) := by decide +kernel
theorem dX11_makeTrace_258 : decode cX11_makeTrace 258 = .ok (.ifCond .eq 7, 3) := by decide +kernel
theorem dX11_makeTrace_261 : decode cX11_makeTrace 261 = .ok (.iconst 1, 1) := by decide +kernel
theorem dX11_makeTrace_262 : decode cX11_makeTrace 262 = .ok (.goto 4, 3) := by decide +kernel
theorem dX11_makeTrace_265 : decode cX11_makeTrace 265 = .ok (.iconst 0, 1) := by decide +kernel
theorem dX11_makeTrace_266 : decode cX11_makeTrace 266 = .ok (.bastore, 1) := by decide +kernel
theorem dX11_makeTrace_267 : decode cX11_makeTrace 267 = .ok (.iinc 2 1, 3) := by decide +kernel
theorem dX11_makeTrace_270 : decode cX11_makeTrace 270 = .ok (.goto (-59), 3) := by decide +kernel
theorem dX11_makeTrace_273 : decode cX11_makeTrace 273 = .ok (.aload_n 0, 1) := by decide +kernel
theorem dX11_makeTrace_274 : decode cX11_makeTrace 274 = .ok (.iload_n 1, 1) := by decide +kernel
theorem dX11_makeTrace_275 : decode cX11_makeTrace 275 = .ok (.invokevirtual 228, 3) := by decide +kernel
theorem dX11_makeTrace_278 : decode cX11_makeTrace 278 = .ok (.aload_n 0, 1) := by decide +kernel
theorem dX11_makeTrace_279 : decode cX11_makeTrace 279 = .ok (.getfield 51, 3) := by decide +kernel
theorem dX11_makeTrace_282 : decode cX11_makeTrace 282 = .ok (.iload_n 1, 1) := by decide +kernel
theorem dX11_makeTrace_283 : decode cX11_makeTrace 283 = .ok (.aload_n 0, 1) := by decide +kernel
theorem dX11_makeTrace_284 : decode cX11_makeTrace 284 = .ok (.getfield 38, 3) := by decide +kernel
theorem dX11_makeTrace_287 : decode cX11_makeTrace 287 = .ok (.iastore, 1) := by decide +kernel
theorem dX11_makeTrace_288 : decode cX11_makeTrace 288 = .ok (.aload_n 0, 1) := by decide +kernel
theorem dX11_makeTrace_289 : decode cX11_makeTrace 289 = .ok (.getfield 54, 3) := by decide +kernel
theorem dX11_makeTrace_292 : decode cX11_makeTrace 292 = .ok (.iload_n 1, 1) := by decide +kernel
theorem dX11_makeTrace_293 : decode cX11_makeTrace 293 = .ok (.aload_n 0, 1) := by decide +kernel
theorem dX11_makeTrace_294 : decode cX11_makeTrace 294 = .ok (.getfield 185, 3) := by decide +kernel
theorem dX11_makeTrace_297 : decode cX11_makeTrace 297 = .ok (.iastore, 1) := by decide +kernel
theorem dX11_makeTrace_298 : decode cX11_makeTrace 298 = .ok (.aload_n 0, 1) := by decide +kernel
theorem dX11_makeTrace_299 : decode cX11_makeTrace 299 = .ok (.getfield 35, 3) := by decide +kernel
theorem dX11_makeTrace_302 : decode cX11_makeTrace 302 = .ok (.aload_n 0, 1) := by decide +kernel
theorem dX11_makeTrace_303 : decode cX11_makeTrace 303 = .ok (.getfield 38, 3) := by decide +kernel
theorem dX11_makeTrace_306 : decode cX11_makeTrace 306 = .ok (.iconst 1, 1) := by decide +kernel
theorem dX11_makeTrace_307 : decode cX11_makeTrace 307 = .ok (.iastore, 1) := by decide +kernel
theorem dX11_makeTrace_308 : decode cX11_makeTrace 308 = .ok (.aload_n 0, 1) := by decide +kernel
theorem dX11_makeTrace_309 : decode cX11_makeTrace 309 = .ok (.dup, 1) := by decide +kernel
theorem dX11_makeTrace_310 : decode cX11_makeTrace 310 = .ok (.getfield 145, 3) := by decide +kernel
theorem dX11_makeTrace_313 : decode cX11_makeTrace 313 = .ok (.iconst 1, 1) := by decide +kernel
theorem dX11_makeTrace_314 : decode cX11_makeTrace 314 = .ok (.iadd, 1) := by decide +kernel
theorem dX11_makeTrace_315 : decode cX11_makeTrace 315 = .ok (.putfield 145, 3) := by decide +kernel
theorem dX11_makeTrace_318 : decode cX11_makeTrace 318 = .ok (.aload_n 0, 1) := by decide +kernel
theorem dX11_makeTrace_319 : decode cX11_makeTrace 319 = .ok (.iconst (-1), 1) := by decide +kernel
theorem dX11_makeTrace_320 : decode cX11_makeTrace 320 = .ok (.putfield 38, 3) := by decide +kernel
theorem dX11_makeTrace_323 : decode cX11_makeTrace 323 = .ok (.return_, 1) := by decide +kernel
theorem dX11_keep_0 : decode cX11_keep 0 = .ok (.aload_n 0, 1) := by decide +kernel
theorem dX11_keep_1 : decode cX11_keep 1 = .ok (.getfield 66, 3) := by decide +kernel
theorem dX11_keep_4 : decode cX11_keep 4 = .ok (.iload_n 1, 1) := by decide +kernel
theorem dX11_keep_5 : decode cX11_keep 5 = .ok (.iconst 0, 1) := by decide +kernel
theorem dX11_keep_6 : decode cX11_keep 6 = .ok (.iastore, 1) := by decide +kernel
theorem dX11_keep_7 : decode cX11_keep 7 = .ok (.aload_n 0, 1) := by decide +kernel
theorem dX11_keep_8 : decode cX11_keep 8 = .ok (.getfield 69, 3) := by decide +kernel
theorem dX11_keep_11 : decode cX11_keep 11 = .ok (.iload_n 1, 1) := by decide +kernel
theorem dX11_keep_12 : decode cX11_keep 12 = .ok (.iconst 0, 1) := by decide +kernel
theorem dX11_keep_13 : decode cX11_keep 13 = .ok (.iastore, 1) := by decide +kernel
theorem dX11_keep_14 : decode cX11_keep 14 = .ok (.aload_n 0, 1) := by decide +kernel
theorem dX11_keep_15 : decode cX11_keep 15 = .ok (.getfield 72, 3) := by decide +kernel
theorem dX11_keep_18 : decode cX11_keep 18 = .ok (.iload_n 1, 1) := by decide +kernel
theorem dX11_keep_19 : decode cX11_keep 19 = .ok (.iconst 0, 1) := by decide +kernel
theorem dX11_keep_20 : decode cX11_keep 20 = .ok (.iastore, 1) := by decide +kernel
theorem dX11_keep_21 : decode cX11_keep 21 = .ok (.aload_n 0, 1) := by decide +kernel
theorem dX11_keep_22 : decode cX11_keep 22 = .ok (.getfield 75, 3) := by decide +kernel
theorem dX11_keep_25 : decode cX11_keep 25 = .ok (.iload_n 1, 1) := by decide +kernel
theorem dX11_keep_26 : decode cX11_keep 26 = .ok (.iconst 0, 1) := by decide +kernel
theorem dX11_keep_27 : decode cX11_keep 27 = .ok (.iastore, 1) := by decide +kernel
theorem dX11_keep_28 : decode cX11_keep 28 = .ok (.iconst 0, 1) := by decide +kernel
theorem dX11_keep_29 : decode cX11_keep 29 = .ok (.istore_n 2, 1) := by decide +kernel
theorem dX11_keep_30 : decode cX11_keep 30 = .ok (.iload_n 2, 1) := by decide +kernel
theorem dX11_keep_31 : decode cX11_keep 31 = .ok (.aload_n 0, 1) := by decide +kernel
theorem dX11_keep_32 : decode cX11_keep 32 = .ok (.getfield 185, 3) := by decide +kernel
theorem dX11_keep_35 : decode cX11_keep 35 = .ok (.if_icmp .ge 223, 3) := by decide +kernel
theorem dX11_keep_38 : decode cX11_keep 38 = .ok (.aload_n 0, 1) := by decide +kernel
theorem dX11_keep_39 : decode cX11_keep 39 = .ok (.getfield 108, 3) := by decide +kernel
theorem dX11_keep_42 : decode cX11_keep 42 = .ok (.iload_n 2, 1) := by decide +kernel
theorem dX11_keep_43 : decode cX11_keep 43 = .ok (.iaload, 1) := by decide +kernel
theorem dX11_keep_44 : decode cX11_keep 44 = .ok (.bipush (-2), 2) := by decide +kernel
theorem dX11_keep_46 : decode cX11_keep 46 = .ok (.if_icmp .ge 15, 3) := by decide +kernel
theorem dX11_keep_49 : decode cX11_keep 49 = .ok (.bipush (-3), 2) := by decide +kernel
theorem dX11_keep_51 : decode cX11_keep 51 = .ok (.aload_n 0, 1) := by decide +kernel
theorem dX11_keep_52 : decode cX11_keep 52 = .ok (.getfield 108, 3) := by decide +kernel
theorem dX11_keep_55 : decode cX11_keep 55 = .ok (.iload_n 2, 1) := by decide +kernel
theorem dX11_keep_56 : decode cX11_keep 56 = .ok (.iaload, 1) := by decide +kernel
theorem dX11_keep_57 : decode cX11_keep 57 = .ok (.isub, 1) := by decide +kernel
theorem dX11_keep_58 : decode cX11_keep 58 = .ok (.goto 4, 3) := by decide +kernel
theorem dX11_keep_61 : decode cX11_keep 61 = .ok (.iconst (-1), 1) := by decide +kernel
theorem dX11_keep_62 : decode cX11_keep 62 = .ok (.istore_n 3, 1) := by decide +kernel
theorem dX11_keep_63 : decode cX11_keep 63 = .ok (.iload_n 3, 1) := by decide +kernel
theorem dX11_keep_64 : decode cX11_keep 64 = .ok (.ifCond .lt 16, 3) := by decide +kernel
theorem dX11_keep_67 : decode cX11_keep 67 = .ok (.aload_n 0, 1) := by decide +kernel
theorem dX11_keep_68 : decode cX11_keep 68 = .ok (.getfield 93, 3) := by decide +kernel
theorem dX11_keep_71 : decode cX11_keep 71 = .ok (.iload_n 3, 1) := by decide +kernel
theorem dX11_keep_72 : decode cX11_keep 72 = .ok (.baload, 1) := by decide +kernel
theorem dX11_keep_73 : decode cX11_keep 73 = .ok (.ifCond .eq 7, 3) := by decide +kernel
theorem dX11_keep_76 : decode cX11_keep 76 = .ok (.iconst 1, 1) := by decide +kernel
theorem dX11_keep_77 : decode cX11_keep 77 = .ok (.goto 4, 3) := by decide +kernel
theorem dX11_keep_80 : decode cX11_keep 80 = .ok (.iconst 0, 1) := by decide +kernel
theorem dX11_keep_81 : decode cX11_keep 81 = .ok (.istore 4, 2) := by decide +kernel
theorem dX11_keep_83 : decode cX11_keep 83 = .ok (.aload_n 0, 1) := by decide +kernel
theorem dX11_keep_84 : decode cX11_keep 84 = .ok (.getfield 66, 3) := by decide +kernel
theorem dX11_keep_87 : decode cX11_keep 87 = .ok (.iload_n 1, 1) := by decide +kernel
theorem dX11_keep_88 : decode cX11_keep 88 = .ok (.dup2, 1) := by decide +kernel
theorem dX11_keep_89 : decode cX11_keep 89 = .ok (.iaload, 1) := by decide +kernel
theorem dX11_keep_90 : decode cX11_keep 90 = .ok (.iload 4, 2) := by decide +kernel
theorem dX11_keep_92 : decode cX11_keep 92 = .ok (.ifCond .eq 16, 3) := by decide +kernel
theorem dX11_keep_95 : decode cX11_keep 95 = .ok (.aload_n 0, 1) := by decide +kernel
theorem dX11_keep_96 : decode cX11_keep 96 = .ok (.getfield 96, 3) := by decide +kernel
theorem dX11_keep_99 : decode cX11_keep 99 = .ok (.iload_n 3, 1) := by decide +kernel
theorem dX11_keep_100 : decode cX11_keep 100 = .ok (.baload, 1) := by decide +kernel
theorem dX11_keep_101 : decode cX11_keep 101 = .ok (.ifCond .eq 7, 3) := by decide +kernel
theorem dX11_keep_104 : decode cX11_keep 104 = .ok (.iconst 1, 1) := by decide +kernel
theorem dX11_keep_105 : decode cX11_keep 105 = .ok (.goto 4, 3) := by decide +kernel
theorem dX11_keep_108 : decode cX11_keep 108 = .ok (.iconst 0, 1) := by decide +kernel
theorem dX11_keep_109 : decode cX11_keep 109 = .ok (.iadd, 1) := by decide +kernel
theorem dX11_keep_110 : decode cX11_keep 110 = .ok (.iastore, 1) := by decide +kernel
theorem dX11_keep_111 : decode cX11_keep 111 = .ok (.aload_n 0, 1) := by decide +kernel
theorem dX11_keep_112 : decode cX11_keep 112 = .ok (.getfield 69, 3) := by decide +kernel
theorem dX11_keep_115 : decode cX11_keep 115 = .ok (.iload_n 1, 1) := by decide +kernel
theorem dX11_keep_116 : decode cX11_keep 116 = .ok (.dup2, 1) := by decide +kernel
theorem dX11_keep_117 : decode cX11_keep 117 = .ok (.iaload, 1) := by decide +kernel
theorem dX11_keep_118 : decode cX11_keep 118 = .ok (.iload 4, 2) := by decide +kernel
theorem dX11_keep_120 : decode cX11_keep 120 = .ok (.ifCond .eq 16, 3) := by decide +kernel
theorem dX11_keep_123 : decode cX11_keep 123 = .ok (.aload_n 0, 1) := by decide +kernel
theorem dX11_keep_124 : decode cX11_keep 124 = .ok (.getfield 96, 3) := by decide +kernel
theorem dX11_keep_127 : decode cX11_keep 127 = .ok (.iload_n 3, 1) := by decide +kernel
theorem dX11_keep_128 : decode cX11_keep 128 = .ok (.baload, 1) := by decide +kernel
theorem dX11_keep_129 : decode cX11_keep 129 = .ok (.ifCond .ne 7, 3) := by decide +kernel
theorem dX11_keep_132 : decode cX11_keep 132 = .ok (.iconst 1, 1) := by decide +kernel
theorem dX11_keep_133 : decode cX11_keep 133 = .ok (.goto 4, 3) := by decide +kernel
theorem dX11_keep_136 : decode cX11_keep 136 = .ok (.iconst 0, 1) := by decide +kernel
theorem dX11_keep_137 : decode cX11_keep 137 = .ok (.iadd, 1) := by decide +kernel
theorem dX11_keep_138 : decode cX11_keep 138 = .ok (.iastore, 1) := by decide +kernel
theorem dX11_keep_139 : decode cX11_keep 139 = .ok (.aload_n 0, 1) := by decide +kernel
theorem dX11_keep_140 : decode cX11_keep 140 = .ok (.getfield 72, 3) := by decide +kernel
theorem dX11_keep_143 : decode cX11_keep 143 = .ok (.iload_n 1, 1) := by decide +kernel
theorem dX11_keep_144 : decode cX11_keep 144 = .ok (.dup2, 1) := by decide +kernel
theorem dX11_keep_145 : decode cX11_keep 145 = .ok (.iaload, 1) := by decide +kernel
theorem dX11_keep_146 : decode cX11_keep 146 = .ok (.aload_n 0, 1) := by decide +kernel
theorem dX11_keep_147 : decode cX11_keep 147 = .ok (.getfield 108, 3) := by decide +kernel
theorem dX11_keep_150 : decode cX11_keep 150 = .ok (.iload_n 2, 1) := by decide +kernel
theorem dX11_keep_151 : decode cX11_keep 151 = .ok (.iaload, 1) := by decide +kernel
theorem dX11_keep_152 : decode cX11_keep 152 = .ok (.iconst 1, 1) := by decide +kernel
theorem dX11_keep_153 : decode cX11_keep 153 = .ok (.if_icmp .ne 7, 3) := by decide +kernel
theorem dX11_keep_156 : decode cX11_keep 156 = .ok (.iconst 1, 1) := by decide +kernel
theorem dX11_keep_157 : decode cX11_keep 157 = .ok (.goto 4, 3) := by decide +kernel
theorem dX11_keep_160 : decode cX11_keep 160 = .ok (.iconst 0, 1) := by decide +kernel
theorem dX11_keep_161 : decode cX11_keep 161 = .ok (.iadd, 1) := by decide +kernel
theorem dX11_keep_162 : decode cX11_keep 162 = .ok (.iastore, 1) := by decide +kernel
theorem dX11_keep_163 : decode cX11_keep 163 = .ok (.aload_n 0, 1) := by decide +kernel
theorem dX11_keep_164 : decode cX11_keep 164 = .ok (.getfield 75, 3) := by decide +kernel
theorem dX11_keep_167 : decode cX11_keep 167 = .ok (.iload_n 1, 1) := by decide +kernel
theorem dX11_keep_168 : decode cX11_keep 168 = .ok (.dup2, 1) := by decide +kernel
theorem dX11_keep_169 : decode cX11_keep 169 = .ok (.iaload, 1) := by decide +kernel
theorem dX11_keep_170 : decode cX11_keep 170 = .ok (.aload_n 0, 1) := by decide +kernel
theorem dX11_keep_171 : decode cX11_keep 171 = .ok (.getfield 108, 3) := by decide +kernel
theorem dX11_keep_174 : decode cX11_keep 174 = .ok (.iload_n 2, 1) := by decide +kernel
theorem dX11_keep_175 : decode cX11_keep 175 = .ok (.iaload, 1) := by decide +kernel
theorem dX11_keep_176 : decode cX11_keep 176 = .ok (.iconst 2, 1) := by decide +kernel
theorem dX11_keep_177 : decode cX11_keep 177 = .ok (.if_icmp .ne 7, 3) := by decide +kernel
theorem dX11_keep_180 : decode cX11_keep 180 = .ok (.iconst 1, 1) := by decide +kernel
theorem dX11_keep_181 : decode cX11_keep 181 = .ok (.goto 4, 3) := by decide +kernel
theorem dX11_keep_184 : decode cX11_keep 184 = .ok (.iconst 0, 1) := by decide +kernel
theorem dX11_keep_185 : decode cX11_keep 185 = .ok (.iadd, 1) := by decide +kernel
theorem dX11_keep_186 : decode cX11_keep 186 = .ok (.iastore, 1) := by decide +kernel
theorem dX11_keep_187 : decode cX11_keep 187 = .ok (.aload_n 0, 1) := by decide +kernel
theorem dX11_keep_188 : decode cX11_keep 188 = .ok (.getfield 57, 3) := by decide +kernel
theorem dX11_keep_191 : decode cX11_keep 191 = .ok (.bipush 30, 2) := by decide +kernel
theorem dX11_keep_193 : decode cX11_keep 193 = .ok (.iload_n 1, 1) := by decide +kernel
theorem dX11_keep_194 : decode cX11_keep 194 = .ok (.imul, 1) := by decide +kernel
theorem dX11_keep_195 : decode cX11_keep 195 = .ok (.iload_n 2, 1) := by decide +kernel
theorem dX11_keep_196 : decode cX11_keep 196 = .ok (.iadd, 1) := by decide +kernel
theorem dX11_keep_197 : decode cX11_keep 197 = .ok (.aload_n 0, 1) := by decide +kernel
theorem dX11_keep_198 : decode cX11_keep 198 = .ok (.getfield 41, 3) := by decide +kernel
theorem dX11_keep_201 : decode cX11_keep 201 = .ok (.iload_n 2, 1) := by decide +kernel
theorem dX11_keep_202 : decode cX11_keep 202 = .ok (.iaload, 1) := by decide +kernel
theorem dX11_keep_203 : decode cX11_keep 203 = .ok (.iastore, 1) := by decide +kernel
theorem dX11_keep_204 : decode cX11_keep 204 = .ok (.aload_n 0, 1) := by decide +kernel
theorem dX11_keep_205 : decode cX11_keep 205 = .ok (.getfield 60, 3) := by decide +kernel
theorem dX11_keep_208 : decode cX11_keep 208 = .ok (.bipush 30, 2) := by decide +kernel
theorem dX11_keep_210 : decode cX11_keep 210 = .ok (.iload_n 1, 1) := by decide +kernel
theorem dX11_keep_211 : decode cX11_keep 211 = .ok (.imul, 1) := by decide +kernel
theorem dX11_keep_212 : decode cX11_keep 212 = .ok (.iload_n 2, 1) := by decide +kernel
theorem dX11_keep_213 : decode cX11_keep 213 = .ok (.iadd, 1) := by decide +kernel
theorem dX11_keep_214 : decode cX11_keep 214 = .ok (.aload_n 0, 1) := by decide +kernel
theorem dX11_keep_215 : decode cX11_keep 215 = .ok (.getfield 44, 3) := by decide +kernel
theorem dX11_keep_218 : decode cX11_keep 218 = .ok (.iload_n 2, 1) := by decide +kernel
theorem dX11_keep_219 : decode cX11_keep 219 = .ok (.baload, 1) := by decide +kernel
theorem dX11_keep_220 : decode cX11_keep 220 = .ok (.bastore, 1) := by decide +kernel
theorem dX11_keep_221 : decode cX11_keep 221 = .ok (.aload_n 0, 1) := by decide +kernel
theorem dX11_keep_222 : decode cX11_keep 222 = .ok (.getfield 63, 3) := by decide +kernel
theorem dX11_keep_225 : decode cX11_keep 225 = .ok (.bipush 30, 2) := by decide +kernel
theorem dX11_keep_227 : decode cX11_keep 227 = .ok (.iload_n 1, 1) := by decide +kernel
theorem dX11_keep_228 : decode cX11_keep 228 = .ok (.imul, 1) := by decide +kernel
theorem dX11_keep_229 : decode cX11_keep 229 = .ok (.iload_n 2, 1) := by decide +kernel
theorem dX11_keep_230 : decode cX11_keep 230 = .ok (.iadd, 1) := by decide +kernel
theorem dX11_keep_231 : decode cX11_keep 231 = .ok (.aload_n 0, 1) := by decide +kernel
theorem dX11_keep_232 : decode cX11_keep 232 = .ok (.getfield 69, 3) := by decide +kernel
theorem dX11_keep_235 : decode cX11_keep 235 = .ok (.iload_n 1, 1) := by decide +kernel
theorem dX11_keep_236 : decode cX11_keep 236 = .ok (.iaload, 1) := by decide +kernel
theorem dX11_keep_237 : decode cX11_keep 237 = .ok (.aload_n 0, 1) := by decide +kernel
theorem dX11_keep_238 : decode cX11_keep 238 = .ok (.getfield 72, 3) := by decide +kernel
theorem dX11_keep_241 : decode cX11_keep 241 = .ok (.iload_n 1, 1) := by decide +kernel
theorem dX11_keep_242 : decode cX11_keep 242 = .ok (.iaload, 1) := by decide +kernel
theorem dX11_keep_243 : decode cX11_keep 243 = .ok (.iadd, 1) := by decide +kernel
theorem dX11_keep_244 : decode cX11_keep 244 = .ok (.aload_n 0, 1) := by decide +kernel
theorem dX11_keep_245 : decode cX11_keep 245 = .ok (.getfield 75, 3) := by decide +kernel
theorem dX11_keep_248 : decode cX11_keep 248 = .ok (.iload_n 1, 1) := by decide +kernel
theorem dX11_keep_249 : decode cX11_keep 249 = .ok (.iaload, 1) := by decide +kernel
theorem dX11_keep_250 : decode cX11_keep 250 = .ok (.iadd, 1) := by decide +kernel
theorem dX11_keep_251 : decode cX11_keep 251 = .ok (.iastore, 1) := by decide +kernel
theorem dX11_keep_252 : decode cX11_keep 252 = .ok (.iinc 2 1, 3) := by decide +kernel
theorem dX11_keep_255 : decode cX11_keep 255 = .ok (.goto (-225), 3) := by decide +kernel
theorem dX11_keep_258 : decode cX11_keep 258 = .ok (.return_, 1) := by decide +kernel
theorem dX11_local_0 : decode cX11_local 0 = .ok (.aload_n 0, 1) := by decide +kernel
theorem dX11_local_1 : decode cX11_local 1 = .ok (.iconst 0, 1) := by decide +kernel
theorem dX11_local_2 : decode cX11_local 2 = .ok (.putfield 111, 3) := by decide +kernel
theorem dX11_local_5 : decode cX11_local 5 = .ok (.iload_n 1, 1) := by decide +kernel
theorem dX11_local_6 : decode cX11_local 6 = .ok (.iconst 0, 1) := by decide +kernel
theorem dX11_local_7 : decode cX11_local 7 = .ok (.iconst 5, 1) := by decide +kernel
theorem dX11_local_8 : decode cX11_local 8 = .ok (.invokestatic 114, 3) := by decide +kernel
theorem dX11_local_11 : decode cX11_local 11 = .ok (.ifCond .eq 12, 3) := by decide +kernel
theorem dX11_local_14 : decode cX11_local 14 = .ok (.aload_n 0, 1) := by decide +kernel
theorem dX11_local_15 : decode cX11_local 15 = .ok (.getfield 23, 3) := by decide +kernel
theorem dX11_local_18 : decode cX11_local 18 = .ok (.iload_n 1, 1) := by decide +kernel
theorem dX11_local_19 : decode cX11_local 19 = .ok (.iaload, 1) := by decide +kernel
theorem dX11_local_20 : decode cX11_local 20 = .ok (.goto 8, 3) := by decide +kernel
theorem dX11_local_23 : decode cX11_local 23 = .ok (.aload_n 0, 1) := by decide +kernel
theorem dX11_local_24 : decode cX11_local 24 = .ok (.iconst 1, 1) := by decide +kernel
theorem dX11_local_25 : decode cX11_local 25 = .ok (.invokevirtual 118, 3) := by decide +kernel
theorem dX11_local_28 : decode cX11_local 28 = .ok (.ireturn, 1) := by decide +kernel
theorem dX11_top_0 : decode cX11_top 0 = .ok (.aload_n 0, 1) := by decide +kernel
theorem dX11_top_1 : decode cX11_top 1 = .ok (.iconst 0, 1) := by decide +kernel
theorem dX11_top_2 : decode cX11_top 2 = .ok (.putfield 111, 3) := by decide +kernel
theorem dX11_top_5 : decode cX11_top 5 = .ok (.iload_n 1, 1) := by decide +kernel
theorem dX11_top_6 : decode cX11_top 6 = .ok (.iconst 0, 1) := by decide +kernel
theorem dX11_top_7 : decode cX11_top 7 = .ok (.aload_n 0, 1) := by decide +kernel
theorem dX11_top_8 : decode cX11_top 8 = .ok (.getfield 139, 3) := by decide +kernel
theorem dX11_top_11 : decode cX11_top 11 = .ok (.iconst 1, 1) := by decide +kernel
theorem dX11_top_12 : decode cX11_top 12 = .ok (.isub, 1) := by decide +kernel
theorem dX11_top_13 : decode cX11_top 13 = .ok (.invokestatic 114, 3) := by decide +kernel
theorem dX11_top_16 : decode cX11_top 16 = .ok (.ifCond .eq 19, 3) := by decide +kernel
theorem dX11_top_19 : decode cX11_top 19 = .ok (.aload_n 0, 1) := by decide +kernel
theorem dX11_top_20 : decode cX11_top 20 = .ok (.getfield 26, 3) := by decide +kernel
theorem dX11_top_23 : decode cX11_top 23 = .ok (.aload_n 0, 1) := by decide +kernel
theorem dX11_top_24 : decode cX11_top 24 = .ok (.getfield 139, 3) := by decide +kernel
theorem dX11_top_27 : decode cX11_top 27 = .ok (.iconst 1, 1) := by decide +kernel
theorem dX11_top_28 : decode cX11_top 28 = .ok (.isub, 1) := by decide +kernel
theorem dX11_top_29 : decode cX11_top 29 = .ok (.iload_n 1, 1) := by decide +kernel
theorem dX11_top_30 : decode cX11_top 30 = .ok (.isub, 1) := by decide +kernel
theorem dX11_top_31 : decode cX11_top 31 = .ok (.iaload, 1) := by decide +kernel
theorem dX11_top_32 : decode cX11_top 32 = .ok (.goto 8, 3) := by decide +kernel
theorem dX11_top_35 : decode cX11_top 35 = .ok (.aload_n 0, 1) := by decide +kernel
theorem dX11_top_36 : decode cX11_top 36 = .ok (.iconst 1, 1) := by decide +kernel
theorem dX11_top_37 : decode cX11_top 37 = .ok (.invokevirtual 118, 3) := by decide +kernel
theorem dX11_top_40 : decode cX11_top 40 = .ok (.ireturn, 1) := by decide +kernel
theorem dX11_outs_0 : decode cX11_outs 0 = .ok (.aload_n 0, 1) := by decide +kernel
theorem dX11_outs_1 : decode cX11_outs 1 = .ok (.iconst 0, 1) := by decide +kernel
theorem dX11_outs_2 : decode cX11_outs 2 = .ok (.putfield 111, 3) := by decide +kernel
theorem dX11_outs_5 : decode cX11_outs 5 = .ok (.aload_n 0, 1) := by decide +kernel
theorem dX11_outs_6 : decode cX11_outs 6 = .ok (.getfield 142, 3) := by decide +kernel
theorem dX11_outs_9 : decode cX11_outs 9 = .ok (.ireturn, 1) := by decide +kernel
theorem dX11_out_0 : decode cX11_out 0 = .ok (.aload_n 0, 1) := by decide +kernel
theorem dX11_out_1 : decode cX11_out 1 = .ok (.iconst 0, 1) := by decide +kernel
theorem dX11_out_2 : decode cX11_out 2 = .ok (.putfield 111, 3) := by decide +kernel
theorem dX11_out_5 : decode cX11_out 5 = .ok (.iload_n 1, 1) := by decide +kernel
theorem dX11_out_6 : decode cX11_out 6 = .ok (.iconst 0, 1) := by decide +kernel
theorem dX11_out_7 : decode cX11_out 7 = .ok (.bipush 29, 2) := by decide +kernel
theorem dX11_out_9 : decode cX11_out 9 = .ok (.invokestatic 114, 3) := by decide +kernel
theorem dX11_out_12 : decode cX11_out 12 = .ok (.ifCond .eq 20, 3) := by decide +kernel
theorem dX11_out_15 : decode cX11_out 15 = .ok (.iload_n 1, 1) := by decide +kernel
theorem dX11_out_16 : decode cX11_out 16 = .ok (.aload_n 0, 1) := by decide +kernel
theorem dX11_out_17 : decode cX11_out 17 = .ok (.getfield 142, 3) := by decide +kernel
theorem dX11_out_20 : decode cX11_out 20 = .ok (.if_icmp .ge 12, 3) := by decide +kernel
theorem dX11_out_23 : decode cX11_out 23 = .ok (.aload_n 0, 1) := by decide +kernel
theorem dX11_out_24 : decode cX11_out 24 = .ok (.getfield 29, 3) := by decide +kernel
theorem dX11_out_27 : decode cX11_out 27 = .ok (.iload_n 1, 1) := by decide +kernel
theorem dX11_out_28 : decode cX11_out 28 = .ok (.iaload, 1) := by decide +kernel
theorem dX11_out_29 : decode cX11_out 29 = .ok (.goto 8, 3) := by decide +kernel
theorem dX11_out_32 : decode cX11_out 32 = .ok (.aload_n 0, 1) := by decide +kernel
theorem dX11_out_33 : decode cX11_out 33 = .ok (.iconst 1, 1) := by decide +kernel
theorem dX11_out_34 : decode cX11_out 34 = .ok (.invokevirtual 118, 3) := by decide +kernel
theorem dX11_out_37 : decode cX11_out 37 = .ok (.ireturn, 1) := by decide +kernel
theorem dX11_count_0 : decode cX11_count 0 = .ok (.aload_n 0, 1) := by decide +kernel
theorem dX11_count_1 : decode cX11_count 1 = .ok (.iconst 0, 1) := by decide +kernel
theorem dX11_count_2 : decode cX11_count 2 = .ok (.putfield 111, 3) := by decide +kernel
theorem dX11_count_5 : decode cX11_count 5 = .ok (.iload_n 1, 1) := by decide +kernel
theorem dX11_count_6 : decode cX11_count 6 = .ok (.iconst 0, 1) := by decide +kernel
theorem dX11_count_7 : decode cX11_count 7 = .ok (.bipush 6, 2) := by decide +kernel
theorem dX11_count_9 : decode cX11_count 9 = .ok (.invokestatic 114, 3) := by decide +kernel
theorem dX11_count_12 : decode cX11_count 12 = .ok (.ifCond .ne 9, 3) := by decide +kernel
theorem dX11_count_15 : decode cX11_count 15 = .ok (.aload_n 0, 1) := by decide +kernel
theorem dX11_count_16 : decode cX11_count 16 = .ok (.iconst 1, 1) := by decide +kernel
theorem dX11_count_17 : decode cX11_count 17 = .ok (.invokevirtual 118, 3) := by decide +kernel
theorem dX11_count_20 : decode cX11_count 20 = .ok (.ireturn, 1) := by decide +kernel
theorem dX11_count_21 : decode cX11_count 21 = .ok (.iload_n 1, 1) := by decide +kernel
theorem dX11_count_22 : decode cX11_count 22 = .ok (.iconst 3, 1) := by decide +kernel
theorem dX11_count_23 : decode cX11_count 23 = .ok (.if_icmp .ge 31, 3) := by decide +kernel
theorem dX11_count_26 : decode cX11_count 26 = .ok (.iload_n 1, 1) := by decide +kernel
theorem dX11_count_27 : decode cX11_count 27 = .ok (.ifCond .ne 10, 3) := by decide +kernel
theorem dX11_count_30 : decode cX11_count 30 = .ok (.aload_n 0, 1) := by decide +kernel
theorem dX11_count_31 : decode cX11_count 31 = .ok (.getfield 19, 3) := by decide +kernel
theorem dX11_count_34 : decode cX11_count 34 = .ok (.goto 19, 3) := by decide +kernel
theorem dX11_count_37 : decode cX11_count 37 = .ok (.iload_n 1, 1) := by decide +kernel
theorem dX11_count_38 : decode cX11_count 38 = .ok (.iconst 1, 1) := by decide +kernel
theorem dX11_count_39 : decode cX11_count 39 = .ok (.if_icmp .ne 10, 3) := by decide +kernel
theorem dX11_count_42 : decode cX11_count 42 = .ok (.aload_n 0, 1) := by decide +kernel
theorem dX11_count_43 : decode cX11_count 43 = .ok (.getfield 148, 3) := by decide +kernel
theorem dX11_count_46 : decode cX11_count 46 = .ok (.goto 7, 3) := by decide +kernel
theorem dX11_count_49 : decode cX11_count 49 = .ok (.aload_n 0, 1) := by decide +kernel
theorem dX11_count_50 : decode cX11_count 50 = .ok (.getfield 151, 3) := by decide +kernel
theorem dX11_count_53 : decode cX11_count 53 = .ok (.ireturn, 1) := by decide +kernel
theorem dX11_count_54 : decode cX11_count 54 = .ok (.iload_n 1, 1) := by decide +kernel
theorem dX11_count_55 : decode cX11_count 55 = .ok (.iconst 3, 1) := by decide +kernel
theorem dX11_count_56 : decode cX11_count 56 = .ok (.if_icmp .ne 10, 3) := by decide +kernel
theorem dX11_count_59 : decode cX11_count 59 = .ok (.aload_n 0, 1) := by decide +kernel
theorem dX11_count_60 : decode cX11_count 60 = .ok (.getfield 154, 3) := by decide +kernel
theorem dX11_count_63 : decode cX11_count 63 = .ok (.goto 39, 3) := by decide +kernel
theorem dX11_count_66 : decode cX11_count 66 = .ok (.iload_n 1, 1) := by decide +kernel
theorem dX11_count_67 : decode cX11_count 67 = .ok (.iconst 4, 1) := by decide +kernel
theorem dX11_count_68 : decode cX11_count 68 = .ok (.if_icmp .ne 10, 3) := by decide +kernel
theorem dX11_count_71 : decode cX11_count 71 = .ok (.aload_n 0, 1) := by decide +kernel
theorem dX11_count_72 : decode cX11_count 72 = .ok (.getfield 157, 3) := by decide +kernel
theorem dX11_count_75 : decode cX11_count 75 = .ok (.goto 27, 3) := by decide +kernel
theorem dX11_count_78 : decode cX11_count 78 = .ok (.iload_n 1, 1) := by decide +kernel
theorem dX11_count_79 : decode cX11_count 79 = .ok (.iconst 5, 1) := by decide +kernel
theorem dX11_count_80 : decode cX11_count 80 = .ok (.if_icmp .ne 10, 3) := by decide +kernel
theorem dX11_count_83 : decode cX11_count 83 = .ok (.aload_n 0, 1) := by decide +kernel
theorem dX11_count_84 : decode cX11_count 84 = .ok (.getfield 145, 3) := by decide +kernel
theorem dX11_count_87 : decode cX11_count 87 = .ok (.goto 15, 3) := by decide +kernel
theorem dX11_count_90 : decode cX11_count 90 = .ok (.aload_n 0, 1) := by decide +kernel
theorem dX11_count_91 : decode cX11_count 91 = .ok (.getfield 38, 3) := by decide +kernel
theorem dX11_count_94 : decode cX11_count 94 = .ok (.ifCond .lt 7, 3) := by decide +kernel
theorem dX11_count_97 : decode cX11_count 97 = .ok (.iconst 1, 1) := by decide +kernel
theorem dX11_count_98 : decode cX11_count 98 = .ok (.goto 4, 3) := by decide +kernel
theorem dX11_count_101 : decode cX11_count 101 = .ok (.iconst 0, 1) := by decide +kernel
theorem dX11_count_102 : decode cX11_count 102 = .ok (.ireturn, 1) := by decide +kernel
theorem dX11_place_0 : decode cX11_place 0 = .ok (.aload_n 0, 1) := by decide +kernel
theorem dX11_place_1 : decode cX11_place 1 = .ok (.iconst 0, 1) := by decide +kernel
theorem dX11_place_2 : decode cX11_place 2 = .ok (.putfield 111, 3) := by decide +kernel
theorem dX11_place_5 : decode cX11_place 5 = .ok (.iload_n 1, 1) := by decide +kernel
theorem dX11_place_6 : decode cX11_place 6 = .ok (.iconst 0, 1) := by decide +kernel
theorem dX11_place_7 : decode cX11_place 7 = .ok (.aload_n 0, 1) := by decide +kernel
theorem dX11_place_8 : decode cX11_place 8 = .ok (.getfield 122, 3) := by decide +kernel
theorem dX11_place_11 : decode cX11_place 11 = .ok (.iconst 1, 1) := by decide +kernel
theorem dX11_place_12 : decode cX11_place 12 = .ok (.isub, 1) := by decide +kernel
theorem dX11_place_13 : decode cX11_place 13 = .ok (.invokestatic 114, 3) := by decide +kernel
theorem dX11_place_16 : decode cX11_place 16 = .ok (.ifCond .eq 12, 3) := by decide +kernel
theorem dX11_place_19 : decode cX11_place 19 = .ok (.iload_n 2, 1) := by decide +kernel
theorem dX11_place_20 : decode cX11_place 20 = .ok (.iconst 0, 1) := by decide +kernel
theorem dX11_place_21 : decode cX11_place 21 = .ok (.iconst 1, 1) := by decide +kernel
theorem dX11_place_22 : decode cX11_place 22 = .ok (.invokestatic 114, 3) := by decide +kernel
theorem dX11_place_25 : decode cX11_place 25 = .ok (.ifCond .ne 9, 3) := by decide +kernel
theorem dX11_place_28 : decode cX11_place 28 = .ok (.aload_n 0, 1) := by decide +kernel
theorem dX11_place_29 : decode cX11_place 29 = .ok (.iconst 1, 1) := by decide +kernel
theorem dX11_place_30 : decode cX11_place 30 = .ok (.invokevirtual 118, 3) := by decide +kernel
theorem dX11_place_33 : decode cX11_place 33 = .ok (.ireturn, 1) := by decide +kernel
theorem dX11_place_34 : decode cX11_place 34 = .ok (.iload_n 2, 1) := by decide +kernel
theorem dX11_place_35 : decode cX11_place 35 = .ok (.ifCond .ne 12, 3) := by decide +kernel
theorem dX11_place_38 : decode cX11_place 38 = .ok (.aload_n 0, 1) := by decide +kernel
theorem dX11_place_39 : decode cX11_place 39 = .ok (.getfield 32, 3) := by decide +kernel
theorem dX11_place_42 : decode cX11_place 42 = .ok (.iload_n 1, 1) := by decide +kernel
theorem dX11_place_43 : decode cX11_place 43 = .ok (.iaload, 1) := by decide +kernel
theorem dX11_place_44 : decode cX11_place 44 = .ok (.goto 9, 3) := by decide +kernel
theorem dX11_place_47 : decode cX11_place 47 = .ok (.aload_n 0, 1) := by decide +kernel
theorem dX11_place_48 : decode cX11_place 48 = .ok (.getfield 35, 3) := by decide +kernel
theorem dX11_place_51 : decode cX11_place 51 = .ok (.iload_n 1, 1) := by decide +kernel
theorem dX11_place_52 : decode cX11_place 52 = .ok (.iaload, 1) := by decide +kernel
theorem dX11_place_53 : decode cX11_place 53 = .ok (.ireturn, 1) := by decide +kernel
theorem dX11_trace_0 : decode cX11_trace 0 = .ok (.aload_n 0, 1) := by decide +kernel
theorem dX11_trace_1 : decode cX11_trace 1 = .ok (.iconst 0, 1) := by decide +kernel
theorem dX11_trace_2 : decode cX11_trace 2 = .ok (.putfield 111, 3) := by decide +kernel
theorem dX11_trace_5 : decode cX11_trace 5 = .ok (.iload_n 1, 1) := by decide +kernel
theorem dX11_trace_6 : decode cX11_trace 6 = .ok (.iconst 0, 1) := by decide +kernel
theorem dX11_trace_7 : decode cX11_trace 7 = .ok (.aload_n 0, 1) := by decide +kernel
theorem dX11_trace_8 : decode cX11_trace 8 = .ok (.getfield 145, 3) := by decide +kernel
theorem dX11_trace_11 : decode cX11_trace 11 = .ok (.iconst 1, 1) := by decide +kernel
theorem dX11_trace_12 : decode cX11_trace 12 = .ok (.isub, 1) := by decide +kernel
theorem dX11_trace_13 : decode cX11_trace 13 = .ok (.invokestatic 114, 3) := by decide +kernel
theorem dX11_trace_16 : decode cX11_trace 16 = .ok (.ifCond .eq 12, 3) := by decide +kernel
theorem dX11_trace_19 : decode cX11_trace 19 = .ok (.iload_n 2, 1) := by decide +kernel
theorem dX11_trace_20 : decode cX11_trace 20 = .ok (.iconst 0, 1) := by decide +kernel
theorem dX11_trace_21 : decode cX11_trace 21 = .ok (.iconst 5, 1) := by decide +kernel
theorem dX11_trace_22 : decode cX11_trace 22 = .ok (.invokestatic 114, 3) := by decide +kernel
theorem dX11_trace_25 : decode cX11_trace 25 = .ok (.ifCond .ne 9, 3) := by decide +kernel
theorem dX11_trace_28 : decode cX11_trace 28 = .ok (.aload_n 0, 1) := by decide +kernel
theorem dX11_trace_29 : decode cX11_trace 29 = .ok (.iconst 1, 1) := by decide +kernel
theorem dX11_trace_30 : decode cX11_trace 30 = .ok (.invokevirtual 118, 3) := by decide +kernel
theorem dX11_trace_33 : decode cX11_trace 33 = .ok (.ireturn, 1) := by decide +kernel
theorem dX11_trace_34 : decode cX11_trace 34 = .ok (.iload_n 2, 1) := by decide +kernel
theorem dX11_trace_35 : decode cX11_trace 35 = .ok (.iconst 3, 1) := by decide +kernel
theorem dX11_trace_36 : decode cX11_trace 36 = .ok (.if_icmp .ge 37, 3) := by decide +kernel
theorem dX11_trace_39 : decode cX11_trace 39 = .ok (.iload_n 2, 1) := by decide +kernel
theorem dX11_trace_40 : decode cX11_trace 40 = .ok (.ifCond .ne 12, 3) := by decide +kernel
theorem dX11_trace_43 : decode cX11_trace 43 = .ok (.aload_n 0, 1) := by decide +kernel
theorem dX11_trace_44 : decode cX11_trace 44 = .ok (.getfield 51, 3) := by decide +kernel
theorem dX11_trace_47 : decode cX11_trace 47 = .ok (.iload_n 1, 1) := by decide +kernel
theorem dX11_trace_48 : decode cX11_trace 48 = .ok (.iaload, 1) := by decide +kernel
theorem dX11_trace_49 : decode cX11_trace 49 = .ok (.goto 23, 3) := by decide +kernel
theorem dX11_trace_52 : decode cX11_trace 52 = .ok (.iload_n 2, 1) := by decide +kernel
theorem dX11_trace_53 : decode cX11_trace 53 = .ok (.iconst 1, 1) := by decide +kernel
theorem dX11_trace_54 : decode cX11_trace 54 = .ok (.if_icmp .ne 12, 3) := by decide +kernel
theorem dX11_trace_57 : decode cX11_trace 57 = .ok (.aload_n 0, 1) := by decide +kernel
theorem dX11_trace_58 : decode cX11_trace 58 = .ok (.getfield 66, 3) := by decide +kernel
theorem dX11_trace_61 : decode cX11_trace 61 = .ok (.iload_n 1, 1) := by decide +kernel
theorem dX11_trace_62 : decode cX11_trace 62 = .ok (.iaload, 1) := by decide +kernel
theorem dX11_trace_63 : decode cX11_trace 63 = .ok (.goto 9, 3) := by decide +kernel
theorem dX11_trace_66 : decode cX11_trace 66 = .ok (.aload_n 0, 1) := by decide +kernel
theorem dX11_trace_67 : decode cX11_trace 67 = .ok (.getfield 69, 3) := by decide +kernel
theorem dX11_trace_70 : decode cX11_trace 70 = .ok (.iload_n 1, 1) := by decide +kernel
theorem dX11_trace_71 : decode cX11_trace 71 = .ok (.iaload, 1) := by decide +kernel
theorem dX11_trace_72 : decode cX11_trace 72 = .ok (.ireturn, 1) := by decide +kernel
theorem dX11_trace_73 : decode cX11_trace 73 = .ok (.iload_n 2, 1) := by decide +kernel
theorem dX11_trace_74 : decode cX11_trace 74 = .ok (.iconst 3, 1) := by decide +kernel
theorem dX11_trace_75 : decode cX11_trace 75 = .ok (.if_icmp .ne 12, 3) := by decide +kernel
theorem dX11_trace_78 : decode cX11_trace 78 = .ok (.aload_n 0, 1) := by decide +kernel
theorem dX11_trace_79 : decode cX11_trace 79 = .ok (.getfield 72, 3) := by decide +kernel
theorem dX11_trace_82 : decode cX11_trace 82 = .ok (.iload_n 1, 1) := by decide +kernel
theorem dX11_trace_83 : decode cX11_trace 83 = .ok (.iaload, 1) := by decide +kernel
theorem dX11_trace_84 : decode cX11_trace 84 = .ok (.goto 23, 3) := by decide +kernel
theorem dX11_trace_87 : decode cX11_trace 87 = .ok (.iload_n 2, 1) := by decide +kernel
theorem dX11_trace_88 : decode cX11_trace 88 = .ok (.iconst 4, 1) := by decide +kernel
theorem dX11_trace_89 : decode cX11_trace 89 = .ok (.if_icmp .ne 12, 3) := by decide +kernel
theorem dX11_trace_92 : decode cX11_trace 92 = .ok (.aload_n 0, 1) := by decide +kernel
theorem dX11_trace_93 : decode cX11_trace 93 = .ok (.getfield 75, 3) := by decide +kernel
theorem dX11_trace_96 : decode cX11_trace 96 = .ok (.iload_n 1, 1) := by decide +kernel
theorem dX11_trace_97 : decode cX11_trace 97 = .ok (.iaload, 1) := by decide +kernel
theorem dX11_trace_98 : decode cX11_trace 98 = .ok (.goto 9, 3) := by decide +kernel
theorem dX11_trace_101 : decode cX11_trace 101 = .ok (.aload_n 0, 1) := by decide +kernel
theorem dX11_trace_102 : decode cX11_trace 102 = .ok (.getfield 78, 3) := by decide +kernel
theorem dX11_trace_105 : decode cX11_trace 105 = .ok (.iload_n 1, 1) := by decide +kernel
theorem dX11_trace_106 : decode cX11_trace 106 = .ok (.iaload, 1) := by decide +kernel
theorem dX11_trace_107 : decode cX11_trace 107 = .ok (.ireturn, 1) := by decide +kernel
theorem dL_add_0 : decode cL_add 0 = .ok (.aload_n 3, 1) := by decide +kernel
theorem dL_add_1 : decode cL_add 1 = .ok (.iconst 0, 1) := by decide +kernel
theorem dL_add_2 : decode cL_add 2 = .ok (.aload_n 0, 1) := by decide +kernel
theorem dL_add_3 : decode cL_add 3 = .ok (.iload_n 1, 1) := by decide +kernel
theorem dL_add_4 : decode cL_add 4 = .ok (.iload_n 2, 1) := by decide +kernel
theorem dL_add_5 : decode cL_add 5 = .ok (.invokevirtual 7, 3) := by decide +kernel
theorem dL_add_8 : decode cL_add 8 = .ok (.i2l, 1) := by decide +kernel
theorem dL_add_9 : decode cL_add 9 = .ok (.lastore, 1) := by decide +kernel
theorem dL_add_10 : decode cL_add 10 = .ok (.goto 11, 3) := by decide +kernel
theorem dL_add_13 : decode cL_add 13 = .ok (.astore 4, 2) := by decide +kernel
theorem dL_add_15 : decode cL_add 15 = .ok (.iconst 1, 1) := by decide +kernel
theorem dL_add_16 : decode cL_add 16 = .ok (.ireturn, 1) := by decide +kernel
theorem dL_add_17 : decode cL_add 17 = .ok (.astore 4, 2) := by decide +kernel
theorem dL_add_19 : decode cL_add 19 = .ok (.iconst 2, 1) := by decide +kernel
theorem dL_add_20 : decode cL_add 20 = .ok (.ireturn, 1) := by decide +kernel
theorem dL_add_21 : decode cL_add 21 = .ok (.iconst 0, 1) := by decide +kernel
theorem dL_add_22 : decode cL_add 22 = .ok (.ireturn, 1) := by decide +kernel
theorem dL_begin_0 : decode cL_begin 0 = .ok (.aload 4, 2) := by decide +kernel
theorem dL_begin_2 : decode cL_begin 2 = .ok (.iconst 0, 1) := by decide +kernel
theorem dL_begin_3 : decode cL_begin 3 = .ok (.aload_n 0, 1) := by decide +kernel
theorem dL_begin_4 : decode cL_begin 4 = .ok (.iload_n 1, 1) := by decide +kernel
theorem dL_begin_5 : decode cL_begin 5 = .ok (.iload_n 2, 1) := by decide +kernel
theorem dL_begin_6 : decode cL_begin 6 = .ok (.iload_n 3, 1) := by decide +kernel
theorem dL_begin_7 : decode cL_begin 7 = .ok (.invokevirtual 17, 3) := by decide +kernel
theorem dL_begin_10 : decode cL_begin 10 = .ok (.ifCond .eq 7, 3) := by decide +kernel
theorem dL_begin_13 : decode cL_begin 13 = .ok (.lconst 1, 1) := by decide +kernel
theorem dL_begin_14 : decode cL_begin 14 = .ok (.goto 4, 3) := by decide +kernel
theorem dL_begin_17 : decode cL_begin 17 = .ok (.lconst 0, 1) := by decide +kernel
theorem dL_begin_18 : decode cL_begin 18 = .ok (.lastore, 1) := by decide +kernel
theorem dL_begin_19 : decode cL_begin 19 = .ok (.goto 7, 3) := by decide +kernel
theorem dL_begin_22 : decode cL_begin 22 = .ok (.astore 5, 2) := by decide +kernel
theorem dL_begin_24 : decode cL_begin 24 = .ok (.iconst 1, 1) := by decide +kernel
theorem dL_begin_25 : decode cL_begin 25 = .ok (.ireturn, 1) := by decide +kernel
theorem dL_begin_26 : decode cL_begin 26 = .ok (.iconst 0, 1) := by decide +kernel
theorem dL_begin_27 : decode cL_begin 27 = .ok (.ireturn, 1) := by decide +kernel
theorem dL_run_0 : decode cL_run 0 = .ok (.aload_n 2, 1) := by decide +kernel
theorem dL_run_1 : decode cL_run 1 = .ok (.iconst 0, 1) := by decide +kernel
theorem dL_run_2 : decode cL_run 2 = .ok (.aload_n 0, 1) := by decide +kernel
theorem dL_run_3 : decode cL_run 3 = .ok (.iload_n 1, 1) := by decide +kernel
theorem dL_run_4 : decode cL_run 4 = .ok (.invokevirtual 21, 3) := by decide +kernel
theorem dL_run_7 : decode cL_run 7 = .ok (.i2l, 1) := by decide +kernel
theorem dL_run_8 : decode cL_run 8 = .ok (.lastore, 1) := by decide +kernel
theorem dL_run_9 : decode cL_run 9 = .ok (.goto 9, 3) := by decide +kernel
theorem dL_run_12 : decode cL_run 12 = .ok (.astore_n 3, 1) := by decide +kernel
theorem dL_run_13 : decode cL_run 13 = .ok (.iconst 1, 1) := by decide +kernel
theorem dL_run_14 : decode cL_run 14 = .ok (.ireturn, 1) := by decide +kernel
theorem dL_run_15 : decode cL_run 15 = .ok (.astore_n 3, 1) := by decide +kernel
theorem dL_run_16 : decode cL_run 16 = .ok (.iconst 2, 1) := by decide +kernel
theorem dL_run_17 : decode cL_run 17 = .ok (.ireturn, 1) := by decide +kernel
theorem dL_run_18 : decode cL_run 18 = .ok (.iconst 0, 1) := by decide +kernel
theorem dL_run_19 : decode cL_run 19 = .ok (.ireturn, 1) := by decide +kernel
theorem dL_local_0 : decode cL_local 0 = .ok (.aload_n 2, 1) := by decide +kernel
theorem dL_local_1 : decode cL_local 1 = .ok (.iconst 0, 1) := by decide +kernel
theorem dL_local_2 : decode cL_local 2 = .ok (.aload_n 0, 1) := by decide +kernel
theorem dL_local_3 : decode cL_local 3 = .ok (.iload_n 1, 1) := by decide +kernel
theorem dL_local_4 : decode cL_local 4 = .ok (.invokevirtual 25, 3) := by decide +kernel
theorem dL_local_7 : decode cL_local 7 = .ok (.i2l, 1) := by decide +kernel
theorem dL_local_8 : decode cL_local 8 = .ok (.lastore, 1) := by decide +kernel
theorem dL_local_9 : decode cL_local 9 = .ok (.goto 6, 3) := by decide +kernel
theorem dL_local_12 : decode cL_local 12 = .ok (.astore_n 3, 1) := by decide +kernel
theorem dL_local_13 : decode cL_local 13 = .ok (.iconst 1, 1) := by decide +kernel
theorem dL_local_14 : decode cL_local 14 = .ok (.ireturn, 1) := by decide +kernel
theorem dL_local_15 : decode cL_local 15 = .ok (.iconst 0, 1) := by decide +kernel
theorem dL_local_16 : decode cL_local 16 = .ok (.ireturn, 1) := by decide +kernel
theorem dL_top_0 : decode cL_top 0 = .ok (.aload_n 2, 1) := by decide +kernel
theorem dL_top_1 : decode cL_top 1 = .ok (.iconst 0, 1) := by decide +kernel
theorem dL_top_2 : decode cL_top 2 = .ok (.aload_n 0, 1) := by decide +kernel
theorem dL_top_3 : decode cL_top 3 = .ok (.iload_n 1, 1) := by decide +kernel
theorem dL_top_4 : decode cL_top 4 = .ok (.invokevirtual 30, 3) := by decide +kernel
theorem dL_top_7 : decode cL_top 7 = .ok (.i2l, 1) := by decide +kernel
theorem dL_top_8 : decode cL_top 8 = .ok (.lastore, 1) := by decide +kernel
theorem dL_top_9 : decode cL_top 9 = .ok (.goto 6, 3) := by decide +kernel
theorem dL_top_12 : decode cL_top 12 = .ok (.astore_n 3, 1) := by decide +kernel
theorem dL_top_13 : decode cL_top 13 = .ok (.iconst 1, 1) := by decide +kernel
theorem dL_top_14 : decode cL_top 14 = .ok (.ireturn, 1) := by decide +kernel
theorem dL_top_15 : decode cL_top 15 = .ok (.iconst 0, 1) := by decide +kernel
theorem dL_top_16 : decode cL_top 16 = .ok (.ireturn, 1) := by decide +kernel
theorem dL_out_0 : decode cL_out 0 = .ok (.aload_n 2, 1) := by decide +kernel
theorem dL_out_1 : decode cL_out 1 = .ok (.iconst 0, 1) := by decide +kernel
theorem dL_out_2 : decode cL_out 2 = .ok (.aload_n 0, 1) := by decide +kernel
theorem dL_out_3 : decode cL_out 3 = .ok (.iload_n 1, 1) := by decide +kernel
theorem dL_out_4 : decode cL_out 4 = .ok (.invokevirtual 33, 3) := by decide +kernel
theorem dL_out_7 : decode cL_out 7 = .ok (.i2l, 1) := by decide +kernel
theorem dL_out_8 : decode cL_out 8 = .ok (.lastore, 1) := by decide +kernel
theorem dL_out_9 : decode cL_out 9 = .ok (.goto 6, 3) := by decide +kernel
theorem dL_out_12 : decode cL_out 12 = .ok (.astore_n 3, 1) := by decide +kernel
theorem dL_out_13 : decode cL_out 13 = .ok (.iconst 1, 1) := by decide +kernel
theorem dL_out_14 : decode cL_out 14 = .ok (.ireturn, 1) := by decide +kernel
theorem dL_out_15 : decode cL_out 15 = .ok (.iconst 0, 1) := by decide +kernel
theorem dL_out_16 : decode cL_out 16 = .ok (.ireturn, 1) := by decide +kernel
theorem dL_count_0 : decode cL_count 0 = .ok (.aload_n 2, 1) := by decide +kernel
theorem dL_count_1 : decode cL_count 1 = .ok (.iconst 0, 1) := by decide +kernel
theorem dL_count_2 : decode cL_count 2 = .ok (.aload_n 0, 1) := by decide +kernel
theorem dL_count_3 : decode cL_count 3 = .ok (.iload_n 1, 1) := by decide +kernel
theorem dL_count_4 : decode cL_count 4 = .ok (.invokevirtual 36, 3) := by decide +kernel
theorem dL_count_7 : decode cL_count 7 = .ok (.i2l, 1) := by decide +kernel
theorem dL_count_8 : decode cL_count 8 = .ok (.lastore, 1) := by decide +kernel
theorem dL_count_9 : decode cL_count 9 = .ok (.goto 6, 3) := by decide +kernel
theorem dL_count_12 : decode cL_count 12 = .ok (.astore_n 3, 1) := by decide +kernel
theorem dL_count_13 : decode cL_count 13 = .ok (.iconst 1, 1) := by decide +kernel
theorem dL_count_14 : decode cL_count 14 = .ok (.ireturn, 1) := by decide +kernel
theorem dL_count_15 : decode cL_count 15 = .ok (.iconst 0, 1) := by decide +kernel
theorem dL_count_16 : decode cL_count 16 = .ok (.ireturn, 1) := by decide +kernel
theorem dL_place_0 : decode cL_place 0 = .ok (.aload_n 3, 1) := by decide +kernel
theorem dL_place_1 : decode cL_place 1 = .ok (.iconst 0, 1) := by decide +kernel
theorem dL_place_2 : decode cL_place 2 = .ok (.aload_n 0, 1) := by decide +kernel
theorem dL_place_3 : decode cL_place 3 = .ok (.iload_n 1, 1) := by decide +kernel
theorem dL_place_4 : decode cL_place 4 = .ok (.iload_n 2, 1) := by decide +kernel
theorem dL_place_5 : decode cL_place 5 = .ok (.invokevirtual 39, 3) := by decide +kernel
theorem dL_place_8 : decode cL_place 8 = .ok (.i2l, 1) := by decide +kernel
theorem dL_place_9 : decode cL_place 9 = .ok (.lastore, 1) := by decide +kernel
theorem dL_place_10 : decode cL_place 10 = .ok (.goto 7, 3) := by decide +kernel
theorem dL_place_13 : decode cL_place 13 = .ok (.astore 4, 2) := by decide +kernel
theorem dL_place_15 : decode cL_place 15 = .ok (.iconst 1, 1) := by decide +kernel
theorem dL_place_16 : decode cL_place 16 = .ok (.ireturn, 1) := by decide +kernel
theorem dL_place_17 : decode cL_place 17 = .ok (.iconst 0, 1) := by decide +kernel
theorem dL_place_18 : decode cL_place 18 = .ok (.ireturn, 1) := by decide +kernel
theorem dL_trace_0 : decode cL_trace 0 = .ok (.aload_n 3, 1) := by decide +kernel
theorem dL_trace_1 : decode cL_trace 1 = .ok (.iconst 0, 1) := by decide +kernel
theorem dL_trace_2 : decode cL_trace 2 = .ok (.aload_n 0, 1) := by decide +kernel
theorem dL_trace_3 : decode cL_trace 3 = .ok (.iload_n 1, 1) := by decide +kernel
theorem dL_trace_4 : decode cL_trace 4 = .ok (.iload_n 2, 1) := by decide +kernel
theorem dL_trace_5 : decode cL_trace 5 = .ok (.invokevirtual 42, 3) := by decide +kernel
theorem dL_trace_8 : decode cL_trace 8 = .ok (.i2l, 1) := by decide +kernel
theorem dL_trace_9 : decode cL_trace 9 = .ok (.lastore, 1) := by decide +kernel
theorem dL_trace_10 : decode cL_trace 10 = .ok (.goto 7, 3) := by decide +kernel
theorem dL_trace_13 : decode cL_trace 13 = .ok (.astore 4, 2) := by decide +kernel
theorem dL_trace_15 : decode cL_trace 15 = .ok (.iconst 1, 1) := by decide +kernel
theorem dL_trace_16 : decode cL_trace 16 = .ok (.ireturn, 1) := by decide +kernel
theorem dL_trace_17 : decode cL_trace 17 = .ok (.iconst 0, 1) := by decide +kernel
theorem dL_trace_18 : decode cL_trace 18 = .ok (.ireturn, 1) := by decide +kernel
theorem dL_law_0 : decode cL_law 0 = .ok (.new 8, 3) := by decide +kernel
theorem dL_law_3 : decode cL_law 3 = .ok (.dup, 1) := by decide +kernel
theorem dL_law_4 : decode cL_law 4 = .ok (.invokespecial 45, 3) := by decide +kernel
theorem dL_law_7 : decode cL_law 7 = .ok (.astore_n 1, 1) := by decide +kernel
theorem dL_law_8 : decode cL_law 8 = .ok (.new 46, 3) := by decide +kernel
theorem dL_law_11 : decode cL_law 11 = .ok (.dup, 1) := by decide +kernel
theorem dL_law_12 : decode cL_law 12 = .ok (.invokespecial 48, 3) := by decide +kernel
theorem dL_law_15 : decode cL_law 15 = .ok (.astore_n 2, 1) := by decide +kernel
theorem dL_law_16 : decode cL_law 16 = .ok (.iconst 1, 1) := by decide +kernel
theorem dL_law_17 : decode cL_law 17 = .ok (.newarray .long, 2) := by decide +kernel
theorem dL_law_19 : decode cL_law 19 = .ok (.astore_n 3, 1) := by decide +kernel
theorem dL_law_20 : decode cL_law 20 = .ok (.iconst 0, 1) := by decide +kernel
theorem dL_law_21 : decode cL_law 21 = .ok (.istore 4, 2) := by decide +kernel
theorem dL_law_23 : decode cL_law 23 = .ok (.iload 4, 2) := by decide +kernel
theorem dL_law_25 : decode cL_law 25 = .ok (.aload_n 0, 1) := by decide +kernel
theorem dL_law_26 : decode cL_law 26 = .ok (.arraylength, 1) := by decide +kernel
theorem dL_law_27 : decode cL_law 27 = .ok (.iconst 4, 1) := by decide +kernel
theorem dL_law_28 : decode cL_law 28 = .ok (.isub, 1) := by decide +kernel
theorem dL_law_29 : decode cL_law 29 = .ok (.if_icmp .gt 686, 3) := by decide +kernel
theorem dL_law_32 : decode cL_law 32 = .ok (.aload_n 0, 1) := by decide +kernel
theorem dL_law_33 : decode cL_law 33 = .ok (.iload 4, 2) := by decide +kernel
theorem dL_law_35 : decode cL_law 35 = .ok (.iaload, 1) := by decide +kernel
theorem dL_law_36 : decode cL_law 36 = .ok (.bipush 15, 2) := by decide +kernel
theorem dL_law_38 : decode cL_law 38 = .ok (.iand, 1) := by decide +kernel
theorem dL_law_39 : decode cL_law 39 = .ok (.tableswitch 670 0 10 #[57, 125, 228, 284, 297, 353, 409, 422, 478, 534, 602], 57) := by decide +kernel
theorem dL_law_96 : decode cL_law 96 = .ok (.aload_n 1, 1) := by decide +kernel
theorem dL_law_97 : decode cL_law 97 = .ok (.aload_n 0, 1) := by decide +kernel
theorem dL_law_98 : decode cL_law 98 = .ok (.iload 4, 2) := by decide +kernel
theorem dL_law_100 : decode cL_law 100 = .ok (.iconst 1, 1) := by decide +kernel
theorem dL_law_101 : decode cL_law 101 = .ok (.iadd, 1) := by decide +kernel
theorem dL_law_102 : decode cL_law 102 = .ok (.iaload, 1) := by decide +kernel
theorem dL_law_103 : decode cL_law 103 = .ok (.aload_n 0, 1) := by decide +kernel
theorem dL_law_104 : decode cL_law 104 = .ok (.iload 4, 2) := by decide +kernel
theorem dL_law_106 : decode cL_law 106 = .ok (.iconst 2, 1) := by decide +kernel
theorem dL_law_107 : decode cL_law 107 = .ok (.iadd, 1) := by decide +kernel
theorem dL_law_108 : decode cL_law 108 = .ok (.iaload, 1) := by decide +kernel
theorem dL_law_109 : decode cL_law 109 = .ok (.aload_n 3, 1) := by decide +kernel
theorem dL_law_110 : decode cL_law 110 = .ok (.invokestatic 49, 3) := by decide +kernel
theorem dL_law_113 : decode cL_law 113 = .ok (.istore 5, 2) := by decide +kernel
theorem dL_law_115 : decode cL_law 115 = .ok (.aload_n 2, 1) := by decide +kernel
theorem dL_law_116 : decode cL_law 116 = .ok (.aload_n 0, 1) := by decide +kernel
theorem dL_law_117 : decode cL_law 117 = .ok (.iload 4, 2) := by decide +kernel
theorem dL_law_119 : decode cL_law 119 = .ok (.iconst 1, 1) := by decide +kernel
theorem dL_law_120 : decode cL_law 120 = .ok (.iadd, 1) := by decide +kernel
theorem dL_law_121 : decode cL_law 121 = .ok (.iaload, 1) := by decide +kernel
theorem dL_law_122 : decode cL_law 122 = .ok (.aload_n 0, 1) := by decide +kernel
theorem dL_law_123 : decode cL_law 123 = .ok (.iload 4, 2) := by decide +kernel
theorem dL_law_125 : decode cL_law 125 = .ok (.iconst 2, 1) := by decide +kernel
theorem dL_law_126 : decode cL_law 126 = .ok (.iadd, 1) := by decide +kernel
theorem dL_law_127 : decode cL_law 127 = .ok (.iaload, 1) := by decide +kernel
theorem dL_law_128 : decode cL_law 128 = .ok (.invokevirtual 54, 3) := by decide +kernel
theorem dL_law_131 : decode cL_law 131 = .ok (.istore 6, 2) := by decide +kernel
theorem dL_law_133 : decode cL_law 133 = .ok (.aload_n 2, 1) := by decide +kernel
theorem dL_law_134 : decode cL_law 134 = .ok (.invokevirtual 55, 3) := by decide +kernel
theorem dL_law_137 : decode cL_law 137 = .ok (.iload 5, 2) := by decide +kernel
theorem dL_law_139 : decode cL_law 139 = .ok (.if_icmp .eq 5, 3) := by decide +kernel
theorem dL_law_142 : decode cL_law 142 = .ok (.iconst 0, 1) := by decide +kernel
theorem dL_law_143 : decode cL_law 143 = .ok (.ireturn, 1) := by decide +kernel
theorem dL_law_144 : decode cL_law 144 = .ok (.iload 5, 2) := by decide +kernel
theorem dL_law_146 : decode cL_law 146 = .ok (.ifCond .ne 15, 3) := by decide +kernel
theorem dL_law_149 : decode cL_law 149 = .ok (.aload_n 3, 1) := by decide +kernel
theorem dL_law_150 : decode cL_law 150 = .ok (.iconst 0, 1) := by decide +kernel
theorem dL_law_151 : decode cL_law 151 = .ok (.laload, 1) := by decide +kernel
theorem dL_law_152 : decode cL_law 152 = .ok (.iload 6, 2) := by decide +kernel
theorem dL_law_154 : decode cL_law 154 = .ok (.i2l, 1) := by decide +kernel
theorem dL_law_155 : decode cL_law 155 = .ok (.lcmp, 1) := by decide +kernel
theorem dL_law_156 : decode cL_law 156 = .ok (.ifCond .eq 5, 3) := by decide +kernel
theorem dL_law_159 : decode cL_law 159 = .ok (.iconst 0, 1) := by decide +kernel
theorem dL_law_160 : decode cL_law 160 = .ok (.ireturn, 1) := by decide +kernel
theorem dL_law_161 : decode cL_law 161 = .ok (.goto 548, 3) := by decide +kernel
theorem dL_law_164 : decode cL_law 164 = .ok (.aload_n 1, 1) := by decide +kernel
theorem dL_law_165 : decode cL_law 165 = .ok (.aload_n 0, 1) := by decide +kernel
theorem dL_law_166 : decode cL_law 166 = .ok (.iload 4, 2) := by decide +kernel
theorem dL_law_168 : decode cL_law 168 = .ok (.iconst 1, 1) := by decide +kernel
theorem dL_law_169 : decode cL_law 169 = .ok (.iadd, 1) := by decide +kernel
theorem dL_law_170 : decode cL_law 170 = .ok (.iaload, 1) := by decide +kernel
theorem dL_law_171 : decode cL_law 171 = .ok (.aload_n 0, 1) := by decide +kernel
theorem dL_law_172 : decode cL_law 172 = .ok (.iload 4, 2) := by decide +kernel
theorem dL_law_174 : decode cL_law 174 = .ok (.iconst 2, 1) := by decide +kernel
theorem dL_law_175 : decode cL_law 175 = .ok (.iadd, 1) := by decide +kernel
theorem dL_law_176 : decode cL_law 176 = .ok (.iaload, 1) := by decide +kernel
theorem dL_law_177 : decode cL_law 177 = .ok (.aload_n 0, 1) := by decide +kernel
theorem dL_law_178 : decode cL_law 178 = .ok (.iload 4, 2) := by decide +kernel
theorem dL_law_180 : decode cL_law 180 = .ok (.iconst 3, 1) := by decide +kernel
theorem dL_law_181 : decode cL_law 181 = .ok (.iadd, 1) := by decide +kernel
theorem dL_law_182 : decode cL_law 182 = .ok (.iaload, 1) := by decide +kernel
theorem dL_law_183 : decode cL_law 183 = .ok (.ifCond .eq 7, 3) := by decide +kernel
theorem dL_law_186 : decode cL_law 186 = .ok (.iconst 1, 1) := by decide +kernel
theorem dL_law_187 : decode cL_law 187 = .ok (.goto 4, 3) := by decide +kernel
theorem dL_law_190 : decode cL_law 190 = .ok (.iconst 0, 1) := by decide +kernel
theorem dL_law_191 : decode cL_law 191 = .ok (.aload_n 3, 1) := by decide +kernel
theorem dL_law_192 : decode cL_law 192 = .ok (.invokestatic 59, 3) := by decide +kernel
theorem dL_law_195 : decode cL_law 195 = .ok (.istore 5, 2) := by decide +kernel
theorem dL_law_197 : decode cL_law 197 = .ok (.aload_n 2, 1) := by decide +kernel
theorem dL_law_198 : decode cL_law 198 = .ok (.aload_n 0, 1) := by decide +kernel
theorem dL_law_199 : decode cL_law 199 = .ok (.iload 4, 2) := by decide +kernel
theorem dL_law_201 : decode cL_law 201 = .ok (.iconst 1, 1) := by decide +kernel
theorem dL_law_202 : decode cL_law 202 = .ok (.iadd, 1) := by decide +kernel
theorem dL_law_203 : decode cL_law 203 = .ok (.iaload, 1) := by decide +kernel
theorem dL_law_204 : decode cL_law 204 = .ok (.aload_n 0, 1) := by decide +kernel
theorem dL_law_205 : decode cL_law 205 = .ok (.iload 4, 2) := by decide +kernel
theorem dL_law_207 : decode cL_law 207 = .ok (.iconst 2, 1) := by decide +kernel
theorem dL_law_208 : decode cL_law 208 = .ok (.iadd, 1) := by decide +kernel
theorem dL_law_209 : decode cL_law 209 = .ok (.iaload, 1) := by decide +kernel
theorem dL_law_210 : decode cL_law 210 = .ok (.aload_n 0, 1) := by decide +kernel
theorem dL_law_211 : decode cL_law 211 = .ok (.iload 4, 2) := by decide +kernel
theorem dL_law_213 : decode cL_law 213 = .ok (.iconst 3, 1) := by decide +kernel
theorem dL_law_214 : decode cL_law 214 = .ok (.iadd, 1) := by decide +kernel
theorem dL_law_215 : decode cL_law 215 = .ok (.iaload, 1) := by decide +kernel
theorem dL_law_216 : decode cL_law 216 = .ok (.ifCond .eq 7, 3) := by decide +kernel
theorem dL_law_219 : decode cL_law 219 = .ok (.iconst 1, 1) := by decide +kernel
theorem dL_law_220 : decode cL_law 220 = .ok (.goto 4, 3) := by decide +kernel
theorem dL_law_223 : decode cL_law 223 = .ok (.iconst 0, 1) := by decide +kernel
theorem dL_law_224 : decode cL_law 224 = .ok (.invokevirtual 62, 3) := by decide +kernel
theorem dL_law_227 : decode cL_law 227 = .ok (.istore 6, 2) := by decide +kernel
theorem dL_law_229 : decode cL_law 229 = .ok (.aload_n 2, 1) := by decide +kernel
theorem dL_law_230 : decode cL_law 230 = .ok (.invokevirtual 55, 3) := by decide +kernel
theorem dL_law_233 : decode cL_law 233 = .ok (.iload 5, 2) := by decide +kernel
theorem dL_law_235 : decode cL_law 235 = .ok (.if_icmp .eq 5, 3) := by decide +kernel
theorem dL_law_238 : decode cL_law 238 = .ok (.iconst 0, 1) := by decide +kernel
theorem dL_law_239 : decode cL_law 239 = .ok (.ireturn, 1) := by decide +kernel
theorem dL_law_240 : decode cL_law 240 = .ok (.iload 5, 2) := by decide +kernel
theorem dL_law_242 : decode cL_law 242 = .ok (.ifCond .ne 22, 3) := by decide +kernel
theorem dL_law_245 : decode cL_law 245 = .ok (.aload_n 3, 1) := by decide +kernel
theorem dL_law_246 : decode cL_law 246 = .ok (.iconst 0, 1) := by decide +kernel
theorem dL_law_247 : decode cL_law 247 = .ok (.laload, 1) := by decide +kernel
theorem dL_law_248 : decode cL_law 248 = .ok (.iload 6, 2) := by decide +kernel
theorem dL_law_250 : decode cL_law 250 = .ok (.ifCond .eq 7, 3) := by decide +kernel
theorem dL_law_253 : decode cL_law 253 = .ok (.lconst 1, 1) := by decide +kernel
theorem dL_law_254 : decode cL_law 254 = .ok (.goto 4, 3) := by decide +kernel
theorem dL_law_257 : decode cL_law 257 = .ok (.lconst 0, 1) := by decide +kernel
theorem dL_law_258 : decode cL_law 258 = .ok (.lcmp, 1) := by decide +kernel
theorem dL_law_259 : decode cL_law 259 = .ok (.ifCond .eq 5, 3) := by decide +kernel
theorem dL_law_262 : decode cL_law 262 = .ok (.iconst 0, 1) := by decide +kernel
theorem dL_law_263 : decode cL_law 263 = .ok (.ireturn, 1) := by decide +kernel
theorem dL_law_264 : decode cL_law 264 = .ok (.goto 445, 3) := by decide +kernel
theorem dL_law_267 : decode cL_law 267 = .ok (.aload_n 1, 1) := by decide +kernel
theorem dL_law_268 : decode cL_law 268 = .ok (.aload_n 0, 1) := by decide +kernel
theorem dL_law_269 : decode cL_law 269 = .ok (.iload 4, 2) := by decide +kernel
theorem dL_law_271 : decode cL_law 271 = .ok (.iconst 1, 1) := by decide +kernel
theorem dL_law_272 : decode cL_law 272 = .ok (.iadd, 1) := by decide +kernel
theorem dL_law_273 : decode cL_law 273 = .ok (.iaload, 1) := by decide +kernel
theorem dL_law_274 : decode cL_law 274 = .ok (.aload_n 3, 1) := by decide +kernel
theorem dL_law_275 : decode cL_law 275 = .ok (.invokestatic 63, 3) := by decide +kernel
theorem dL_law_278 : decode cL_law 278 = .ok (.istore 5, 2) := by decide +kernel
theorem dL_law_280 : decode cL_law 280 = .ok (.aload_n 2, 1) := by decide +kernel
theorem dL_law_281 : decode cL_law 281 = .ok (.aload_n 0, 1) := by decide +kernel
theorem dL_law_282 : decode cL_law 282 = .ok (.iload 4, 2) := by decide +kernel
theorem dL_law_284 : decode cL_law 284 = .ok (.iconst 1, 1) := by decide +kernel
theorem dL_law_285 : decode cL_law 285 = .ok (.iadd, 1) := by decide +kernel
theorem dL_law_286 : decode cL_law 286 = .ok (.iaload, 1) := by decide +kernel
theorem dL_law_287 : decode cL_law 287 = .ok (.invokevirtual 66, 3) := by decide +kernel
theorem dL_law_290 : decode cL_law 290 = .ok (.istore 6, 2) := by decide +kernel
theorem dL_law_292 : decode cL_law 292 = .ok (.aload_n 2, 1) := by decide +kernel
theorem dL_law_293 : decode cL_law 293 = .ok (.invokevirtual 55, 3) := by decide +kernel
theorem dL_law_296 : decode cL_law 296 = .ok (.iload 5, 2) := by decide +kernel
theorem dL_law_298 : decode cL_law 298 = .ok (.if_icmp .eq 5, 3) := by decide +kernel
theorem dL_law_301 : decode cL_law 301 = .ok (.iconst 0, 1) := by decide +kernel
theorem dL_law_302 : decode cL_law 302 = .ok (.ireturn, 1) := by decide +kernel
theorem dL_law_303 : decode cL_law 303 = .ok (.iload 5, 2) := by decide +kernel
theorem dL_law_305 : decode cL_law 305 = .ok (.ifCond .ne 15, 3) := by decide +kernel
theorem dL_law_308 : decode cL_law 308 = .ok (.aload_n 3, 1) := by decide +kernel
theorem dL_law_309 : decode cL_law 309 = .ok (.iconst 0, 1) := by decide +kernel
theorem dL_law_310 : decode cL_law 310 = .ok (.laload, 1) := by decide +kernel
theorem dL_law_311 : decode cL_law 311 = .ok (.iload 6, 2) := by decide +kernel
theorem dL_law_313 : decode cL_law 313 = .ok (.i2l, 1) := by decide +kernel
theorem dL_law_314 : decode cL_law 314 = .ok (.lcmp, 1) := by decide +kernel
theorem dL_law_315 : decode cL_law 315 = .ok (.ifCond .eq 5, 3) := by decide +kernel
theorem dL_law_318 : decode cL_law 318 = .ok (.iconst 0, 1) := by decide +kernel
theorem dL_law_319 : decode cL_law 319 = .ok (.ireturn, 1) := by decide +kernel
theorem dL_law_320 : decode cL_law 320 = .ok (.goto 389, 3) := by decide +kernel
theorem dL_law_323 : decode cL_law 323 = .ok (.aload_n 1, 1) := by decide +kernel
theorem dL_law_324 : decode cL_law 324 = .ok (.invokevirtual 67, 3) := by decide +kernel
theorem dL_law_327 : decode cL_law 327 = .ok (.aload_n 2, 1) := by decide +kernel
theorem dL_law_328 : decode cL_law 328 = .ok (.invokevirtual 70, 3) := by decide +kernel
theorem dL_law_331 : decode cL_law 331 = .ok (.if_icmp .eq 378, 3) := by decide +kernel
theorem dL_law_334 : decode cL_law 334 = .ok (.iconst 0, 1) := by decide +kernel
theorem dL_law_335 : decode cL_law 335 = .ok (.ireturn, 1) := by decide +kernel
theorem dL_law_336 : decode cL_law 336 = .ok (.aload_n 1, 1) := by decide +kernel
theorem dL_law_337 : decode cL_law 337 = .ok (.aload_n 0, 1) := by decide +kernel
theorem dL_law_338 : decode cL_law 338 = .ok (.iload 4, 2) := by decide +kernel
theorem dL_law_340 : decode cL_law 340 = .ok (.iconst 1, 1) := by decide +kernel
theorem dL_law_341 : decode cL_law 341 = .ok (.iadd, 1) := by decide +kernel
theorem dL_law_342 : decode cL_law 342 = .ok (.iaload, 1) := by decide +kernel
theorem dL_law_343 : decode cL_law 343 = .ok (.aload_n 3, 1) := by decide +kernel
theorem dL_law_344 : decode cL_law 344 = .ok (.invokestatic 71, 3) := by decide +kernel
theorem dL_law_347 : decode cL_law 347 = .ok (.istore 5, 2) := by decide +kernel
theorem dL_law_349 : decode cL_law 349 = .ok (.aload_n 2, 1) := by decide +kernel
theorem dL_law_350 : decode cL_law 350 = .ok (.aload_n 0, 1) := by decide +kernel
theorem dL_law_351 : decode cL_law 351 = .ok (.iload 4, 2) := by decide +kernel
theorem dL_law_353 : decode cL_law 353 = .ok (.iconst 1, 1) := by decide +kernel
theorem dL_law_354 : decode cL_law 354 = .ok (.iadd, 1) := by decide +kernel
theorem dL_law_355 : decode cL_law 355 = .ok (.iaload, 1) := by decide +kernel
theorem dL_law_356 : decode cL_law 356 = .ok (.invokevirtual 73, 3) := by decide +kernel
theorem dL_law_359 : decode cL_law 359 = .ok (.istore 6, 2) := by decide +kernel
theorem dL_law_361 : decode cL_law 361 = .ok (.aload_n 2, 1) := by decide +kernel
theorem dL_law_362 : decode cL_law 362 = .ok (.invokevirtual 55, 3) := by decide +kernel
theorem dL_law_365 : decode cL_law 365 = .ok (.iload 5, 2) := by decide +kernel
theorem dL_law_367 : decode cL_law 367 = .ok (.if_icmp .eq 5, 3) := by decide +kernel
theorem dL_law_370 : decode cL_law 370 = .ok (.iconst 0, 1) := by decide +kernel
theorem dL_law_371 : decode cL_law 371 = .ok (.ireturn, 1) := by decide +kernel
theorem dL_law_372 : decode cL_law 372 = .ok (.iload 5, 2) := by decide +kernel
theorem dL_law_374 : decode cL_law 374 = .ok (.ifCond .ne 15, 3) := by decide +kernel
theorem dL_law_377 : decode cL_law 377 = .ok (.aload_n 3, 1) := by decide +kernel
theorem dL_law_378 : decode cL_law 378 = .ok (.iconst 0, 1) := by decide +kernel
theorem dL_law_379 : decode cL_law 379 = .ok (.laload, 1) := by decide +kernel
theorem dL_law_380 : decode cL_law 380 = .ok (.iload 6, 2) := by decide +kernel
theorem dL_law_382 : decode cL_law 382 = .ok (.i2l, 1) := by decide +kernel
theorem dL_law_383 : decode cL_law 383 = .ok (.lcmp, 1) := by decide +kernel
theorem dL_law_384 : decode cL_law 384 = .ok (.ifCond .eq 5, 3) := by decide +kernel
theorem dL_law_387 : decode cL_law 387 = .ok (.iconst 0, 1) := by decide +kernel
theorem dL_law_388 : decode cL_law 388 = .ok (.ireturn, 1) := by decide +kernel
theorem dL_law_389 : decode cL_law 389 = .ok (.goto 320, 3) := by decide +kernel
theorem dL_law_392 : decode cL_law 392 = .ok (.aload_n 1, 1) := by decide +kernel
theorem dL_law_393 : decode cL_law 393 = .ok (.aload_n 0, 1) := by decide +kernel
theorem dL_law_394 : decode cL_law 394 = .ok (.iload 4, 2) := by decide +kernel
theorem dL_law_396 : decode cL_law 396 = .ok (.iconst 1, 1) := by decide +kernel
theorem dL_law_397 : decode cL_law 397 = .ok (.iadd, 1) := by decide +kernel
theorem dL_law_398 : decode cL_law 398 = .ok (.iaload, 1) := by decide +kernel
theorem dL_law_399 : decode cL_law 399 = .ok (.aload_n 3, 1) := by decide +kernel
theorem dL_law_400 : decode cL_law 400 = .ok (.invokestatic 74, 3) := by decide +kernel
theorem dL_law_403 : decode cL_law 403 = .ok (.istore 5, 2) := by decide +kernel
theorem dL_law_405 : decode cL_law 405 = .ok (.aload_n 2, 1) := by decide +kernel
theorem dL_law_406 : decode cL_law 406 = .ok (.aload_n 0, 1) := by decide +kernel
theorem dL_law_407 : decode cL_law 407 = .ok (.iload 4, 2) := by decide +kernel
theorem dL_law_409 : decode cL_law 409 = .ok (.iconst 1, 1) := by decide +kernel
theorem dL_law_410 : decode cL_law 410 = .ok (.iadd, 1) := by decide +kernel
theorem dL_law_411 : decode cL_law 411 = .ok (.iaload, 1) := by decide +kernel
theorem dL_law_412 : decode cL_law 412 = .ok (.invokevirtual 76, 3) := by decide +kernel
theorem dL_law_415 : decode cL_law 415 = .ok (.istore 6, 2) := by decide +kernel
theorem dL_law_417 : decode cL_law 417 = .ok (.aload_n 2, 1) := by decide +kernel
theorem dL_law_418 : decode cL_law 418 = .ok (.invokevirtual 55, 3) := by decide +kernel
theorem dL_law_421 : decode cL_law 421 = .ok (.iload 5, 2) := by decide +kernel
theorem dL_law_423 : decode cL_law 423 = .ok (.if_icmp .eq 5, 3) := by decide +kernel
theorem dL_law_426 : decode cL_law 426 = .ok (.iconst 0, 1) := by decide +kernel
theorem dL_law_427 : decode cL_law 427 = .ok (.ireturn, 1) := by decide +kernel
theorem dL_law_428 : decode cL_law 428 = .ok (.iload 5, 2) := by decide +kernel
theorem dL_law_430 : decode cL_law 430 = .ok (.ifCond .ne 15, 3) := by decide +kernel
theorem dL_law_433 : decode cL_law 433 = .ok (.aload_n 3, 1) := by decide +kernel
theorem dL_law_434 : decode cL_law 434 = .ok (.iconst 0, 1) := by decide +kernel
theorem dL_law_435 : decode cL_law 435 = .ok (.laload, 1) := by decide +kernel
theorem dL_law_436 : decode cL_law 436 = .ok (.iload 6, 2) := by decide +kernel
theorem dL_law_438 : decode cL_law 438 = .ok (.i2l, 1) := by decide +kernel
theorem dL_law_439 : decode cL_law 439 = .ok (.lcmp, 1) := by decide +kernel
theorem dL_law_440 : decode cL_law 440 = .ok (.ifCond .eq 5, 3) := by decide +kernel
theorem dL_law_443 : decode cL_law 443 = .ok (.iconst 0, 1) := by decide +kernel
theorem dL_law_444 : decode cL_law 444 = .ok (.ireturn, 1) := by decide +kernel
theorem dL_law_445 : decode cL_law 445 = .ok (.goto 264, 3) := by decide +kernel
theorem dL_law_448 : decode cL_law 448 = .ok (.aload_n 1, 1) := by decide +kernel
theorem dL_law_449 : decode cL_law 449 = .ok (.invokevirtual 77, 3) := by decide +kernel
theorem dL_law_452 : decode cL_law 452 = .ok (.aload_n 2, 1) := by decide +kernel
theorem dL_law_453 : decode cL_law 453 = .ok (.invokevirtual 80, 3) := by decide +kernel
theorem dL_law_456 : decode cL_law 456 = .ok (.if_icmp .eq 253, 3) := by decide +kernel
theorem dL_law_459 : decode cL_law 459 = .ok (.iconst 0, 1) := by decide +kernel
theorem dL_law_460 : decode cL_law 460 = .ok (.ireturn, 1) := by decide +kernel
theorem dL_law_461 : decode cL_law 461 = .ok (.aload_n 1, 1) := by decide +kernel
theorem dL_law_462 : decode cL_law 462 = .ok (.aload_n 0, 1) := by decide +kernel
theorem dL_law_463 : decode cL_law 463 = .ok (.iload 4, 2) := by decide +kernel
theorem dL_law_465 : decode cL_law 465 = .ok (.iconst 1, 1) := by decide +kernel
theorem dL_law_466 : decode cL_law 466 = .ok (.iadd, 1) := by decide +kernel
theorem dL_law_467 : decode cL_law 467 = .ok (.iaload, 1) := by decide +kernel
theorem dL_law_468 : decode cL_law 468 = .ok (.aload_n 3, 1) := by decide +kernel
theorem dL_law_469 : decode cL_law 469 = .ok (.invokestatic 81, 3) := by decide +kernel
theorem dL_law_472 : decode cL_law 472 = .ok (.istore 5, 2) := by decide +kernel
theorem dL_law_474 : decode cL_law 474 = .ok (.aload_n 2, 1) := by decide +kernel
theorem dL_law_475 : decode cL_law 475 = .ok (.aload_n 0, 1) := by decide +kernel
theorem dL_law_476 : decode cL_law 476 = .ok (.iload 4, 2) := by decide +kernel
theorem dL_law_478 : decode cL_law 478 = .ok (.iconst 1, 1) := by decide +kernel
theorem dL_law_479 : decode cL_law 479 = .ok (.iadd, 1) := by decide +kernel
theorem dL_law_480 : decode cL_law 480 = .ok (.iaload, 1) := by decide +kernel
theorem dL_law_481 : decode cL_law 481 = .ok (.invokevirtual 83, 3) := by decide +kernel
theorem dL_law_484 : decode cL_law 484 = .ok (.istore 6, 2) := by decide +kernel
theorem dL_law_486 : decode cL_law 486 = .ok (.aload_n 2, 1) := by decide +kernel
theorem dL_law_487 : decode cL_law 487 = .ok (.invokevirtual 55, 3) := by decide +kernel
theorem dL_law_490 : decode cL_law 490 = .ok (.iload 5, 2) := by decide +kernel
theorem dL_law_492 : decode cL_law 492 = .ok (.if_icmp .eq 5, 3) := by decide +kernel
theorem dL_law_495 : decode cL_law 495 = .ok (.iconst 0, 1) := by decide +kernel
theorem dL_law_496 : decode cL_law 496 = .ok (.ireturn, 1) := by decide +kernel
theorem dL_law_497 : decode cL_law 497 = .ok (.iload 5, 2) := by decide +kernel
theorem dL_law_499 : decode cL_law 499 = .ok (.ifCond .ne 15, 3) := by decide +kernel
theorem dL_law_502 : decode cL_law 502 = .ok (.aload_n 3, 1) := by decide +kernel
theorem dL_law_503 : decode cL_law 503 = .ok (.iconst 0, 1) := by decide +kernel
theorem dL_law_504 : decode cL_law 504 = .ok (.laload, 1) := by decide +kernel
theorem dL_law_505 : decode cL_law 505 = .ok (.iload 6, 2) := by decide +kernel
theorem dL_law_507 : decode cL_law 507 = .ok (.i2l, 1) := by decide +kernel
theorem dL_law_508 : decode cL_law 508 = .ok (.lcmp, 1) := by decide +kernel
theorem dL_law_509 : decode cL_law 509 = .ok (.ifCond .eq 5, 3) := by decide +kernel
theorem dL_law_512 : decode cL_law 512 = .ok (.iconst 0, 1) := by decide +kernel
theorem dL_law_513 : decode cL_law 513 = .ok (.ireturn, 1) := by decide +kernel
theorem dL_law_514 : decode cL_law 514 = .ok (.goto 195, 3) := by decide +kernel
theorem dL_law_517 : decode cL_law 517 = .ok (.aload_n 1, 1) := by decide +kernel
theorem dL_law_518 : decode cL_law 518 = .ok (.aload_n 0, 1) := by decide +kernel
theorem dL_law_519 : decode cL_law 519 = .ok (.iload 4, 2) := by decide +kernel
theorem dL_law_521 : decode cL_law 521 = .ok (.iconst 1, 1) := by decide +kernel
theorem dL_law_522 : decode cL_law 522 = .ok (.iadd, 1) := by decide +kernel
theorem dL_law_523 : decode cL_law 523 = .ok (.iaload, 1) := by decide +kernel
theorem dL_law_524 : decode cL_law 524 = .ok (.aload_n 3, 1) := by decide +kernel
theorem dL_law_525 : decode cL_law 525 = .ok (.invokestatic 84, 3) := by decide +kernel
theorem dL_law_528 : decode cL_law 528 = .ok (.istore 5, 2) := by decide +kernel
theorem dL_law_530 : decode cL_law 530 = .ok (.aload_n 2, 1) := by decide +kernel
theorem dL_law_531 : decode cL_law 531 = .ok (.aload_n 0, 1) := by decide +kernel
theorem dL_law_532 : decode cL_law 532 = .ok (.iload 4, 2) := by decide +kernel
theorem dL_law_534 : decode cL_law 534 = .ok (.iconst 1, 1) := by decide +kernel
theorem dL_law_535 : decode cL_law 535 = .ok (.iadd, 1) := by decide +kernel
theorem dL_law_536 : decode cL_law 536 = .ok (.iaload, 1) := by decide +kernel
theorem dL_law_537 : decode cL_law 537 = .ok (.invokevirtual 86, 3) := by decide +kernel
theorem dL_law_540 : decode cL_law 540 = .ok (.istore 6, 2) := by decide +kernel
theorem dL_law_542 : decode cL_law 542 = .ok (.aload_n 2, 1) := by decide +kernel
theorem dL_law_543 : decode cL_law 543 = .ok (.invokevirtual 55, 3) := by decide +kernel
theorem dL_law_546 : decode cL_law 546 = .ok (.iload 5, 2) := by decide +kernel
theorem dL_law_548 : decode cL_law 548 = .ok (.if_icmp .eq 5, 3) := by decide +kernel
theorem dL_law_551 : decode cL_law 551 = .ok (.iconst 0, 1) := by decide +kernel
theorem dL_law_552 : decode cL_law 552 = .ok (.ireturn, 1) := by decide +kernel
theorem dL_law_553 : decode cL_law 553 = .ok (.iload 5, 2) := by decide +kernel
theorem dL_law_555 : decode cL_law 555 = .ok (.ifCond .ne 15, 3) := by decide +kernel
theorem dL_law_558 : decode cL_law 558 = .ok (.aload_n 3, 1) := by decide +kernel
theorem dL_law_559 : decode cL_law 559 = .ok (.iconst 0, 1) := by decide +kernel
theorem dL_law_560 : decode cL_law 560 = .ok (.laload, 1) := by decide +kernel
theorem dL_law_561 : decode cL_law 561 = .ok (.iload 6, 2) := by decide +kernel
theorem dL_law_563 : decode cL_law 563 = .ok (.i2l, 1) := by decide +kernel
theorem dL_law_564 : decode cL_law 564 = .ok (.lcmp, 1) := by decide +kernel
theorem dL_law_565 : decode cL_law 565 = .ok (.ifCond .eq 5, 3) := by decide +kernel
theorem dL_law_568 : decode cL_law 568 = .ok (.iconst 0, 1) := by decide +kernel
theorem dL_law_569 : decode cL_law 569 = .ok (.ireturn, 1) := by decide +kernel
theorem dL_law_570 : decode cL_law 570 = .ok (.goto 139, 3) := by decide +kernel
theorem dL_law_573 : decode cL_law 573 = .ok (.aload_n 1, 1) := by decide +kernel
theorem dL_law_574 : decode cL_law 574 = .ok (.aload_n 0, 1) := by decide +kernel
theorem dL_law_575 : decode cL_law 575 = .ok (.iload 4, 2) := by decide +kernel
theorem dL_law_577 : decode cL_law 577 = .ok (.iconst 1, 1) := by decide +kernel
theorem dL_law_578 : decode cL_law 578 = .ok (.iadd, 1) := by decide +kernel
theorem dL_law_579 : decode cL_law 579 = .ok (.iaload, 1) := by decide +kernel
theorem dL_law_580 : decode cL_law 580 = .ok (.aload_n 0, 1) := by decide +kernel
theorem dL_law_581 : decode cL_law 581 = .ok (.iload 4, 2) := by decide +kernel
theorem dL_law_583 : decode cL_law 583 = .ok (.iconst 2, 1) := by decide +kernel
theorem dL_law_584 : decode cL_law 584 = .ok (.iadd, 1) := by decide +kernel
theorem dL_law_585 : decode cL_law 585 = .ok (.iaload, 1) := by decide +kernel
theorem dL_law_586 : decode cL_law 586 = .ok (.aload_n 3, 1) := by decide +kernel
theorem dL_law_587 : decode cL_law 587 = .ok (.invokestatic 87, 3) := by decide +kernel
theorem dL_law_590 : decode cL_law 590 = .ok (.istore 5, 2) := by decide +kernel
theorem dL_law_592 : decode cL_law 592 = .ok (.aload_n 2, 1) := by decide +kernel
theorem dL_law_593 : decode cL_law 593 = .ok (.aload_n 0, 1) := by decide +kernel
theorem dL_law_594 : decode cL_law 594 = .ok (.iload 4, 2) := by decide +kernel
theorem dL_law_596 : decode cL_law 596 = .ok (.iconst 1, 1) := by decide +kernel
theorem dL_law_597 : decode cL_law 597 = .ok (.iadd, 1) := by decide +kernel
theorem dL_law_598 : decode cL_law 598 = .ok (.iaload, 1) := by decide +kernel
theorem dL_law_599 : decode cL_law 599 = .ok (.aload_n 0, 1) := by decide +kernel
theorem dL_law_600 : decode cL_law 600 = .ok (.iload 4, 2) := by decide +kernel
theorem dL_law_602 : decode cL_law 602 = .ok (.iconst 2, 1) := by decide +kernel
theorem dL_law_603 : decode cL_law 603 = .ok (.iadd, 1) := by decide +kernel
theorem dL_law_604 : decode cL_law 604 = .ok (.iaload, 1) := by decide +kernel
theorem dL_law_605 : decode cL_law 605 = .ok (.invokevirtual 89, 3) := by decide +kernel
theorem dL_law_608 : decode cL_law 608 = .ok (.istore 6, 2) := by decide +kernel
theorem dL_law_610 : decode cL_law 610 = .ok (.aload_n 2, 1) := by decide +kernel
theorem dL_law_611 : decode cL_law 611 = .ok (.invokevirtual 55, 3) := by decide +kernel
theorem dL_law_614 : decode cL_law 614 = .ok (.iload 5, 2) := by decide +kernel
theorem dL_law_616 : decode cL_law 616 = .ok (.if_icmp .eq 5, 3) := by decide +kernel
theorem dL_law_619 : decode cL_law 619 = .ok (.iconst 0, 1) := by decide +kernel
theorem dL_law_620 : decode cL_law 620 = .ok (.ireturn, 1) := by decide +kernel
theorem dL_law_621 : decode cL_law 621 = .ok (.iload 5, 2) := by decide +kernel
theorem dL_law_623 : decode cL_law 623 = .ok (.ifCond .ne 15, 3) := by decide +kernel
theorem dL_law_626 : decode cL_law 626 = .ok (.aload_n 3, 1) := by decide +kernel
theorem dL_law_627 : decode cL_law 627 = .ok (.iconst 0, 1) := by decide +kernel
theorem dL_law_628 : decode cL_law 628 = .ok (.laload, 1) := by decide +kernel
theorem dL_law_629 : decode cL_law 629 = .ok (.iload 6, 2) := by decide +kernel
theorem dL_law_631 : decode cL_law 631 = .ok (.i2l, 1) := by decide +kernel
theorem dL_law_632 : decode cL_law 632 = .ok (.lcmp, 1) := by decide +kernel
theorem dL_law_633 : decode cL_law 633 = .ok (.ifCond .eq 5, 3) := by decide +kernel
theorem dL_law_636 : decode cL_law 636 = .ok (.iconst 0, 1) := by decide +kernel
theorem dL_law_637 : decode cL_law 637 = .ok (.ireturn, 1) := by decide +kernel
theorem dL_law_638 : decode cL_law 638 = .ok (.goto 71, 3) := by decide +kernel
theorem dL_law_641 : decode cL_law 641 = .ok (.aload_n 1, 1) := by decide +kernel
theorem dL_law_642 : decode cL_law 642 = .ok (.aload_n 0, 1) := by decide +kernel
theorem dL_law_643 : decode cL_law 643 = .ok (.iload 4, 2) := by decide +kernel
theorem dL_law_645 : decode cL_law 645 = .ok (.iconst 1, 1) := by decide +kernel
theorem dL_law_646 : decode cL_law 646 = .ok (.iadd, 1) := by decide +kernel
theorem dL_law_647 : decode cL_law 647 = .ok (.iaload, 1) := by decide +kernel
theorem dL_law_648 : decode cL_law 648 = .ok (.aload_n 0, 1) := by decide +kernel
theorem dL_law_649 : decode cL_law 649 = .ok (.iload 4, 2) := by decide +kernel
theorem dL_law_651 : decode cL_law 651 = .ok (.iconst 2, 1) := by decide +kernel
theorem dL_law_652 : decode cL_law 652 = .ok (.iadd, 1) := by decide +kernel
theorem dL_law_653 : decode cL_law 653 = .ok (.iaload, 1) := by decide +kernel
theorem dL_law_654 : decode cL_law 654 = .ok (.aload_n 3, 1) := by decide +kernel
theorem dL_law_655 : decode cL_law 655 = .ok (.invokestatic 90, 3) := by decide +kernel
theorem dL_law_658 : decode cL_law 658 = .ok (.istore 5, 2) := by decide +kernel
theorem dL_law_660 : decode cL_law 660 = .ok (.aload_n 2, 1) := by decide +kernel
theorem dL_law_661 : decode cL_law 661 = .ok (.aload_n 0, 1) := by decide +kernel
theorem dL_law_662 : decode cL_law 662 = .ok (.iload 4, 2) := by decide +kernel
theorem dL_law_664 : decode cL_law 664 = .ok (.iconst 1, 1) := by decide +kernel
theorem dL_law_665 : decode cL_law 665 = .ok (.iadd, 1) := by decide +kernel
theorem dL_law_666 : decode cL_law 666 = .ok (.iaload, 1) := by decide +kernel
theorem dL_law_667 : decode cL_law 667 = .ok (.aload_n 0, 1) := by decide +kernel
theorem dL_law_668 : decode cL_law 668 = .ok (.iload 4, 2) := by decide +kernel
theorem dL_law_670 : decode cL_law 670 = .ok (.iconst 2, 1) := by decide +kernel
theorem dL_law_671 : decode cL_law 671 = .ok (.iadd, 1) := by decide +kernel
theorem dL_law_672 : decode cL_law 672 = .ok (.iaload, 1) := by decide +kernel
theorem dL_law_673 : decode cL_law 673 = .ok (.invokevirtual 92, 3) := by decide +kernel
theorem dL_law_676 : decode cL_law 676 = .ok (.istore 6, 2) := by decide +kernel
theorem dL_law_678 : decode cL_law 678 = .ok (.aload_n 2, 1) := by decide +kernel
theorem dL_law_679 : decode cL_law 679 = .ok (.invokevirtual 55, 3) := by decide +kernel
theorem dL_law_682 : decode cL_law 682 = .ok (.iload 5, 2) := by decide +kernel
theorem dL_law_684 : decode cL_law 684 = .ok (.if_icmp .eq 5, 3) := by decide +kernel
theorem dL_law_687 : decode cL_law 687 = .ok (.iconst 0, 1) := by decide +kernel
theorem dL_law_688 : decode cL_law 688 = .ok (.ireturn, 1) := by decide +kernel
theorem dL_law_689 : decode cL_law 689 = .ok (.iload 5, 2) := by decide +kernel
theorem dL_law_691 : decode cL_law 691 = .ok (.ifCond .ne 15, 3) := by decide +kernel
theorem dL_law_694 : decode cL_law 694 = .ok (.aload_n 3, 1) := by decide +kernel
theorem dL_law_695 : decode cL_law 695 = .ok (.iconst 0, 1) := by decide +kernel
theorem dL_law_696 : decode cL_law 696 = .ok (.laload, 1) := by decide +kernel
theorem dL_law_697 : decode cL_law 697 = .ok (.iload 6, 2) := by decide +kernel
theorem dL_law_699 : decode cL_law 699 = .ok (.i2l, 1) := by decide +kernel
theorem dL_law_700 : decode cL_law 700 = .ok (.lcmp, 1) := by decide +kernel
theorem dL_law_701 : decode cL_law 701 = .ok (.ifCond .eq 5, 3) := by decide +kernel
theorem dL_law_704 : decode cL_law 704 = .ok (.iconst 0, 1) := by decide +kernel
theorem dL_law_705 : decode cL_law 705 = .ok (.ireturn, 1) := by decide +kernel
theorem dL_law_706 : decode cL_law 706 = .ok (.goto 3, 3) := by decide +kernel
theorem dL_law_709 : decode cL_law 709 = .ok (.iinc 4 4, 3) := by decide +kernel
theorem dL_law_712 : decode cL_law 712 = .ok (.goto (-689), 3) := by decide +kernel
theorem dL_law_715 : decode cL_law 715 = .ok (.iconst 1, 1) := by decide +kernel
theorem dL_law_716 : decode cL_law 716 = .ok (.ireturn, 1) := by decide +kernel
end
section
/-! PART 10: THE PICTURE. Cells have numbers in the order in which they are made; references are numbers of cells; h tells the addresses. -/
def z_kt : List (Nat × Nat) := [(0, 10), (0, 0), (1, 40), (1, 40), (1, 40), (1, 40), (0, 1), (1, 6), (1, 6), (0, 2), (1, 30), (0, 6), (0, 4), (1, 40), (1, 40), (1, 40), (0, 5), (1, 30), (2, 30), (0, 8), (0, 1), (1, 6), (1, 6), (1, 30), (1, 30), (2, 36), (2, 36), (4, 4), (0, 7), (0, 9), (1, 36), (1, 36), (1, 36), (1, 36), (0, 3), (1, 15), (2, 15), (1, 15), (1, 15), (1, 180), (1, 6), (1, 30), (1, 30), (1, 30), (0, 7), (0, 9), (1, 36), (1, 36), (1, 36), (1, 36), (0, 3), (1, 15), (2, 15), (1, 15), (1, 15), (1, 180), (1, 6), (1, 30), (1, 30), (1, 30), (0, 7), (0, 9), (1, 36), (1, 36), (1, 36), (1, 36), (0, 3), (1, 15), (2, 15), (1, 15), (1, 15), (1, 180), (1, 6), (1, 30), (1, 30), (1, 30), (0, 7), (0, 9), (1, 36), (1, 36), (1, 36), (1, 36), (0, 3), (1, 15), (2, 15), (1, 15), (1, 15), (1, 180), (1, 6), (1, 30), (1, 30), (1, 30), (0, 11), (1, 40), (1, 40), (1, 40), (1, 6), (1, 8), (1, 30), (1, 40), (1, 40), (1, 30), (2, 30), (1, 4), (1, 4), (1, 120), (2, 120), (1, 120), (1, 4), (1, 4), (1, 4), (1, 4), (1, 4), (1, 40), (1, 40), (1, 40), (1, 40), (2, 40), (2, 40), (1, 40), (1, 6), (1, 8), (1, 30), (3, 1)]
def z_k (i : Nat) : Nat × Nat := z_kt.getD i (0, 0)
def z_nf (c : Nat) : Nat := match c with
  | 0 => 6
  | 1 => 4
  | 2 => 3
  | 3 => 6
  | 4 => 3
  | 5 => 4
  | 6 => 4
  | 7 => 10
  | 8 => 6
  | 9 => 5
  | 10 => 13
  | _ => 47
def z_ty (c : Nat) : Nat → FieldType := match c with
  | 0 => tyX0
  | 1 => tyX1
  | 2 => tyX2
  | 3 => tyX3
  | 4 => tyX4
  | 5 => tyX5
  | 6 => tyX6
  | 7 => tyX7
  | 8 => tyX8
  | 9 => tyX9
  | 10 => tyX10
  | _ => tyX11
def z_T (c : Nat) : u_T := match c with
  | 0 => TX0
  | 1 => TX1
  | 2 => TX2
  | 3 => TX3
  | 4 => TX4
  | 5 => TX5
  | 6 => TX6
  | 7 => TX7
  | 8 => TX8
  | 9 => TX9
  | 10 => TX10
  | _ => TX11
def z_R (c : Nat) : String := match c with
  | 0 => RX0
  | 1 => RX1
  | 2 => RX2
  | 3 => RX3
  | 4 => RX4
  | 5 => RX5
  | 6 => RX6
  | 7 => RX7
  | 8 => RX8
  | 9 => RX9
  | 10 => RX10
  | _ => RX11
def z_rf (c j : Nat) : Bool := match z_ty c j with
  | .array _ => true
  | .object _ => true
  | _ => false
/-- a value of the picture, as the machine has it -/
def z_v (h : Nat → Nat) : Value → Value
  | .ref i => .ref (h i)
  | x => x
/-- a state of the picture: how many cells there are; references, ints and longs in their slots -/
abbrev z_X : Type := Nat × (Nat → Nat → Option Nat) × (Nat → Nat → Int32) × (Nat → Nat → Int64)
def z_ent (dA : Nat → ClassId) (h : Nat → Nat) (k : Nat × Nat) (f : Nat → Option Nat) (x : Nat → Int32) (t : Nat → Int64) : va_E :=
  match k.1 with
  | 0 => .inr (k.2, (List.range (z_nf k.2)).map fun j => bif z_rf k.2 j then va_rf ((f j).map h) else .int (x j))
  | 1 => .inl (dA 0, k.2, .inl x)
  | 2 => .inl (dA 1, k.2, .inl x)
  | 3 => .inl (dA 2, k.2, .inr (.inl t))
  | _ => .inl (dA 3, k.2, .inr (.inr (.inr (.inr fun j => (f j).map h))))
def z_tys (dA : Nat → ClassId) : List (ClassId × FieldType) := [(dA 0, .int), (dA 1, .boolean), (dA 2, .long), (dA 3, .object "TraceTier$Trace")]
def z_ws (dA : Nat → ClassId) (h : Nat → Nat) (X : z_X) : va_W := (List.range X.1).map fun i => (h i, z_ent dA h (z_k i) (X.2.1 i) (X.2.2.1 i) (X.2.2.2 i))
/-- a method: name, code, locals, what it returns -/
abbrev z_M : Type := MethodName × ByteArray × Nat × Option FieldType
def z_G : List Cond := lw_tbl.filter goodWord
def z_nest (w : Cond) : Bool := match w with
  | .fieldLinkNest _ _ _ _ _ _ => true
  | .methodLinkNest _ _ _ _ => true
  | _ => false
def z_N : List Cond := lw_tbl.filter z_nest
def z_w (M : z_M) : List Cond := .code M.1 M.2.1 M.2.2.1 M.2.2.2 :: z_G
def z_rm (d mc ms : Nat) : Room := { frames := d + 1, cells := mc, slots := ms, locals := 34 * d + 40 }
def z_sv (n : Nat) (v : Value) : Prop := ∀ i, v = .ref i → i < n
def z_sl (n : Nat) (st : List Value) : Prop := ∀ v ∈ st, z_sv n v
def z_sc (X : z_X) : Prop := ∀ i, i < X.1 → ∀ j k, X.2.1 i j = some k → k < X.1
def z_nw (U : State) : Prop := (∀ w ∈ z_N, va_Nw w U) ∧ va_AO "TraceTier$Trace" U
def z_takes (j : Nat) : Int32 := ([0, 0, 1, 2, 2, 2, 2, 2, 2, 1, 1, 2, 1, 0, 1, 0] : List Int32).getD j 0
def z_gives (j : Nat) : Int32 := ([1, 1, 0, 1, 1, 1, 1, 1, 1, 2, 0, 2, 0, 0, 0, 0] : List Int32).getD j 0
def z_sts : List (String × (Nat → Int32)) := [("TAKES", z_takes), ("GIVES", z_gives)]
/-- the class's static tables, outside of what a method may change -/
def z_st (A : Nat → Prop) (U : State) (H : Heap) : Prop := ∀ q ∈ z_sts, ∃ t : Nat, va_Z "TraceTier" q.1 "[I" (.ref t) A U H ∧ va_T .int t 16 (fun j => .int (q.2 j)) A U H
def z_C (M : z_M) (p : Program) (s : State) (m : MethodId) (args : Array Value) (meth : Method) (c : Code) (D : va_G) (dA : Nat → ClassId) (A : Nat → Prop) : Prop :=
  p.tables.exec = Jvm.exec ∧ c.code = M.2.1 ∧ c.maxLocals = M.2.2.1 ∧ meth.sig.returnType = M.2.2.2 ∧ s.vm.findClass M.1.cls = some m.cls ∧ (∀ w ∈ z_G, w.before args s = true) ∧ meth.locks = false ∧ meth.name = M.1.name ∧ va_K D vwCl (z_tys dA) s ∧ (∀ q, s.heap.size ≤ q → A q) ∧ z_nw s ∧ z_st A s s.heap
/-- the heap holds the picture X at the addresses h, which goes on from h0 -/
def z_at (D : va_G) (dA : Nat → ClassId) (A : Nat → Prop) (n0 : Nat) (h0 h : Nat → Nat) (X : z_X) (H : Heap) : Prop :=
  n0 ≤ X.1 ∧ (∀ i, i < n0 → h i = h0 i) ∧ z_sc X ∧ va_P D vwCl (z_ws dA h X) H ∧ va_D A (z_ws dA h X)
def z_Qc (r : Option Value) (X1 : z_X) (D : va_G) (dA : Nat → ClassId) (A : Nat → Prop) (n0 : Nat) (h0 : Nat → Nat) : Array Value → State → Outcome → State → Prop := fun _ st oc t =>
  (∃ h : Nat → Nat, oc = .returned (r.map (z_v h)) ∧ z_at D dA A n0 h0 h X1 t.heap ∧ ∀ v, r = some v → z_sv X1.1 v) ∧ va_F A st t
def z_lv (nL : Nat) (h : Nat → Nat) (n : Nat) (ls : Array Slot) (lv : List (Option Value)) : Prop :=
  ls.size = nL ∧ lv_wf ls ∧ ∀ (i : Nat) (v : Value), lv[i]? = some (some v) → ls[i]? = some (.val (z_v h v)) ∧ z_sv n v ∧ v.category = 1
/-- from pc, with these locals, this stack and the picture X, the method returns r with the picture X1; rc cells and rs slots are left to be made -/
def z_V (M : z_M) (d mc ms rc rs : Nat) (r : Option Value) (X1 : z_X) (pc : Nat) (lv : List (Option Value)) (st : List Value) (X : z_X) : Prop :=
  ∀ (p : Program) (l : Launch) (e : Env) (s : State) (m : MethodId) (args : Array Value) (below : List Frame) (meth : Method) (c : Code) (D : va_G) (dA : Nat → ClassId) (A : Nat → Prop) (n0 : Nat) (h0 h : Nat → Nat) (H : Heap) (ls : Array Slot) (locs : List Loc) (cells slots : Nat),
    z_C M p s m args meth c D dA A → z_at D dA A n0 h0 h X H → va_S A s.heap H locs → z_lv M.2.2.1 h X.1 ls lv → z_sl X.1 st → cells + rc ≤ mc → slots + rs ≤ ms →
    W p l e (z_rm d mc ms) s m args below meth c H locs cells slots (MQ below (z_Qc r X1 D dA A n0 h0) args s mc ms A) (F0 m pc ls (st.map (z_v h)))
/-- the method, called with these arguments in the picture X, returns r with the picture X1 -/
def z_MV (M : z_M) (d mc ms : Nat) (as : List Value) (X : z_X) (r : Option Value) (X1 : z_X) : Prop :=
  ∀ (l : Launch) (D : va_G) (dA : Nat → ClassId) (h : Nat → Nat) (sz : Nat), Met l M.1 (z_w M) (z_rm d mc ms)
    (va_Pc (as.map (z_v h)) (fun U => U.heap.size = sz ∧ va_K D vwCl (z_tys dA) U ∧ va_P D vwCl (z_ws dA h X) U.heap ∧ va_D (fun _ => True) (z_ws dA h X) ∧ z_sc X ∧ z_sl X.1 as ∧ z_nw U ∧ z_st (va_A (z_ws dA h X) sz) U U.heap))
    (z_Qc r X1 D dA (va_A (z_ws dA h X) sz) X.1 h) mc ms (va_A (z_ws dA h X) sz)
theorem z_sv.int {n : Nat} {x : Int32} : z_sv n (.int x) := fun _ h => by cases h
theorem z_sv.long {n : Nat} {x : Int64} : z_sv n (.long x) := fun _ h => by cases h
theorem z_sv.null {n : Nat} : z_sv n .null := fun _ h => by cases h
theorem z_sv.of {n i : Nat} (h : z_sv n (.ref i)) : i < n := h i rfl
theorem z_sv.mk {n i : Nat} (h : i < n) : z_sv n (.ref i) := fun _ q => by cases q; exact h
theorem z_sv.up {n n' : Nat} {v : Value} (h : z_sv n v) (hn : n ≤ n') : z_sv n' v := fun i q => Nat.lt_of_lt_of_le (h i q) hn
theorem z_sv.rf {n : Nat} {o : Option Nat} (h : ∀ k, o = some k → k < n) : z_sv n (va_rf o) := by
  cases o with
  | none => exact z_sv.null
  | some k => exact z_sv.mk (h k rfl)
theorem z_v_cat (h : Nat → Nat) (v : Value) : (z_v h v).category = v.category := by cases v <;> rfl
theorem z_v_eq {n : Nat} {h h1 : Nat → Nat} (he : ∀ i, i < n → h1 i = h i) {v : Value} (hv : z_sv n v) : z_v h1 v = z_v h v := by
  cases v with
  | ref i => show Value.ref (h1 i) = Value.ref (h i); rw [he i (hv i rfl)]
  | _ => rfl
theorem z_vs_eq {n : Nat} {h h1 : Nat → Nat} (he : ∀ i, i < n → h1 i = h i) {st : List Value} (hv : z_sl n st) : st.map (z_v h1) = st.map (z_v h) := List.map_congr_left fun v q => z_v_eq he (hv v q)
theorem z_rget {α : Type} (f : Nat → α) {n k : Nat} (h : k < n) : ((List.range n).map f)[k]? = some (f k) := by rw [List.getElem?_map, List.getElem?_range h]; rfl
theorem z_rset {α : Type} (f : Nat → α) (n k : Nat) (v : α) : ((List.range n).map f).set k v = (List.range n).map (fun j => if j = k then v else f j) := by
  apply List.ext_getElem?
  intro j
  rw [List.getElem?_set, List.getElem?_map, List.getElem?_map]
  by_cases hj : j < n
  · rw [List.getElem?_range hj]
    by_cases hk : k = j
    · subst hk; simp [hj]
    · have : ¬ j = k := fun q => hk q.symm
      simp [hk, this]
  · have hn : (List.range n)[j]? = none := by simp; omega
    rw [hn]
    by_cases hk : k = j
    · subst hk; simp; omega
    · simp [hk]
theorem z_rpush {α : Type} (f : Nat → α) (n : Nat) (v : α) : (List.range n).map f ++ [v] = (List.range (n + 1)).map (va_up f n v) := by
  rw [List.range_succ, List.map_append]
  congr 1
  · apply List.map_congr_left
    intro j hj
    have : ¬ j = n := by have := List.mem_range.mp hj; omega
    simp [va_up, this]
  · simp [va_up]
theorem z_nw.warm {s U : State} (hW : s.WarmedH U.vm) (h : z_nw s) : z_nw U := by
  refine ⟨?_, va_AO.moved hW.alike h.2⟩
  intro w hw
  have h1 := h.1 w hw
  have h2 := (List.mem_filter.mp hw).2
  cases w with
  | fieldLinkNest a i b n d g => exact va_Nw.warmF hW h1
  | methodLinkNest a i x g => exact va_Nw.warmM hW h1
  | _ => simp [z_nest] at h2
theorem z_st.moved {A : Nat → Prop} {u U : State} {H : Heap} (hvm : u.vm.Alike U.vm) (h : z_st A u H) : z_st A U H := fun q hq => by
  obtain ⟨t, h1, h2⟩ := h q hq
  exact ⟨t, va_Z.moved hvm h1, va_T.moved hvm h2⟩
theorem z_st.kept {A : Nat → Prop} {U : State} {H H1 : Heap} (h : z_st A U H) (hq : ∀ a : Nat, a < H.size → ¬ A a → H1[a]? = H[a]?) : z_st A U H1 := fun q hq' => by
  obtain ⟨t, h1, h2⟩ := h q hq'
  exact ⟨t, va_Z.kept h1 hq, va_T.kept h2 hq⟩
theorem z_st.narrow {A B : Nat → Prop} {U : State} {H : Heap} (h : z_st A U H) (hAB : ∀ q, B q → A q) : z_st B U H := fun q hq' => by
  obtain ⟨t, h1, h2⟩ := h q hq'
  exact ⟨t, va_Z.narrow h1 hAB, va_T.narrow h2 hAB⟩
section ZP
variable {M : z_M} {d mc ms rc rs : Nat} {r : Option Value} {X1 X : z_X} {pc pc' : Nat} {lv : List (Option Value)} {st st' : List Value}
theorem z_pure (hs : z_sl X.1 st → z_sl X.1 st')
    (hw : ∀ {p : Program} {l : Launch} {e : Env} {R : Room} {s : State} {m : MethodId} {args : Array Value} {below : List Frame} {meth : Method} {c : Code} {H : Heap} {locs : List Loc} {cells slots : Nat} {Q : State → Prop} {ls : Array Slot} (h : Nat → Nat), p.tables.exec = Jvm.exec → c.code = M.2.1 →
      W p l e R s m args below meth c H locs cells slots Q (F0 m pc' ls (st'.map (z_v h))) → W p l e R s m args below meth c H locs cells slots Q (F0 m pc ls (st.map (z_v h))))
    (k : z_V M d mc ms rc rs r X1 pc' lv st' X) : z_V M d mc ms rc rs r X1 pc lv st X := by
  intro p l e s m args below meth c D dA A n0 h0 h H ls locs cells slots C hat hS hl hst hc hs'
  exact hw h C.1 C.2.1 (k p l e s m args below meth c D dA A n0 h0 h H ls locs cells slots C hat hS hl (hs hst) hc hs')
end ZP

section ZB
variable {M : z_M} {d mc ms rc rs : Nat} {r : Option Value} {X1 X : z_X} {pc : Nat} {lv : List (Option Value)} {st : List Value}
theorem z_if_eq {x : Int32} {off : Int} {tgt : Nat} (hd : decode M.2.1 pc = .ok (.ifCond .eq off, 3)) (ht : (pc : Int) + off = (tgt : Int)) (kt : x = 0 → z_V M d mc ms rc rs r X1 tgt lv st X) (kf : ¬ x = 0 → z_V M d mc ms rc rs r X1 (pc + 3) lv st X) : z_V M d mc ms rc rs r X1 pc lv (.int x :: st) X := by
  intro p l e s m args below meth c D dA A n0 h0 h H ls locs cells slots C hat hS hl hst hc hs
  exact lv_if_eq C.1 C.2.1 hd ht (fun q => kt q p l e s m args below meth c D dA A n0 h0 h H ls locs cells slots C hat hS hl (fun v hv => hst v (by simp [hv])) hc hs) (fun q => kf q p l e s m args below meth c D dA A n0 h0 h H ls locs cells slots C hat hS hl (fun v hv => hst v (by simp [hv])) hc hs)
theorem z_icmp_eq {x y : Int32} {off : Int} {tgt : Nat} (hd : decode M.2.1 pc = .ok (.if_icmp .eq off, 3)) (ht : (pc : Int) + off = (tgt : Int)) (kt : x = y → z_V M d mc ms rc rs r X1 tgt lv st X) (kf : ¬ x = y → z_V M d mc ms rc rs r X1 (pc + 3) lv st X) : z_V M d mc ms rc rs r X1 pc lv (.int y :: .int x :: st) X := by
  intro p l e s m args below meth c D dA A n0 h0 h H ls locs cells slots C hat hS hl hst hc hs
  exact lv_icmp_eq C.1 C.2.1 hd ht (fun q => kt q p l e s m args below meth c D dA A n0 h0 h H ls locs cells slots C hat hS hl (fun v hv => hst v (by simp [hv])) hc hs) (fun q => kf q p l e s m args below meth c D dA A n0 h0 h H ls locs cells slots C hat hS hl (fun v hv => hst v (by simp [hv])) hc hs)
theorem z_if_ne {x : Int32} {off : Int} {tgt : Nat} (hd : decode M.2.1 pc = .ok (.ifCond .ne off, 3)) (ht : (pc : Int) + off = (tgt : Int)) (kt : ¬ x = 0 → z_V M d mc ms rc rs r X1 tgt lv st X) (kf : x = 0 → z_V M d mc ms rc rs r X1 (pc + 3) lv st X) : z_V M d mc ms rc rs r X1 pc lv (.int x :: st) X := by
  intro p l e s m args below meth c D dA A n0 h0 h H ls locs cells slots C hat hS hl hst hc hs
  exact lv_if_ne C.1 C.2.1 hd ht (fun q => kt q p l e s m args below meth c D dA A n0 h0 h H ls locs cells slots C hat hS hl (fun v hv => hst v (by simp [hv])) hc hs) (fun q => kf q p l e s m args below meth c D dA A n0 h0 h H ls locs cells slots C hat hS hl (fun v hv => hst v (by simp [hv])) hc hs)
theorem z_icmp_ne {x y : Int32} {off : Int} {tgt : Nat} (hd : decode M.2.1 pc = .ok (.if_icmp .ne off, 3)) (ht : (pc : Int) + off = (tgt : Int)) (kt : ¬ x = y → z_V M d mc ms rc rs r X1 tgt lv st X) (kf : x = y → z_V M d mc ms rc rs r X1 (pc + 3) lv st X) : z_V M d mc ms rc rs r X1 pc lv (.int y :: .int x :: st) X := by
  intro p l e s m args below meth c D dA A n0 h0 h H ls locs cells slots C hat hS hl hst hc hs
  exact lv_icmp_ne C.1 C.2.1 hd ht (fun q => kt q p l e s m args below meth c D dA A n0 h0 h H ls locs cells slots C hat hS hl (fun v hv => hst v (by simp [hv])) hc hs) (fun q => kf q p l e s m args below meth c D dA A n0 h0 h H ls locs cells slots C hat hS hl (fun v hv => hst v (by simp [hv])) hc hs)
theorem z_if_lt {x : Int32} {off : Int} {tgt : Nat} (hd : decode M.2.1 pc = .ok (.ifCond .lt off, 3)) (ht : (pc : Int) + off = (tgt : Int)) (kt : x < 0 → z_V M d mc ms rc rs r X1 tgt lv st X) (kf : ¬ x < 0 → z_V M d mc ms rc rs r X1 (pc + 3) lv st X) : z_V M d mc ms rc rs r X1 pc lv (.int x :: st) X := by
  intro p l e s m args below meth c D dA A n0 h0 h H ls locs cells slots C hat hS hl hst hc hs
  exact lv_if_lt C.1 C.2.1 hd ht (fun q => kt q p l e s m args below meth c D dA A n0 h0 h H ls locs cells slots C hat hS hl (fun v hv => hst v (by simp [hv])) hc hs) (fun q => kf q p l e s m args below meth c D dA A n0 h0 h H ls locs cells slots C hat hS hl (fun v hv => hst v (by simp [hv])) hc hs)
theorem z_icmp_lt {x y : Int32} {off : Int} {tgt : Nat} (hd : decode M.2.1 pc = .ok (.if_icmp .lt off, 3)) (ht : (pc : Int) + off = (tgt : Int)) (kt : x < y → z_V M d mc ms rc rs r X1 tgt lv st X) (kf : ¬ x < y → z_V M d mc ms rc rs r X1 (pc + 3) lv st X) : z_V M d mc ms rc rs r X1 pc lv (.int y :: .int x :: st) X := by
  intro p l e s m args below meth c D dA A n0 h0 h H ls locs cells slots C hat hS hl hst hc hs
  exact lv_icmp_lt C.1 C.2.1 hd ht (fun q => kt q p l e s m args below meth c D dA A n0 h0 h H ls locs cells slots C hat hS hl (fun v hv => hst v (by simp [hv])) hc hs) (fun q => kf q p l e s m args below meth c D dA A n0 h0 h H ls locs cells slots C hat hS hl (fun v hv => hst v (by simp [hv])) hc hs)
theorem z_if_ge {x : Int32} {off : Int} {tgt : Nat} (hd : decode M.2.1 pc = .ok (.ifCond .ge off, 3)) (ht : (pc : Int) + off = (tgt : Int)) (kt : 0 ≤ x → z_V M d mc ms rc rs r X1 tgt lv st X) (kf : ¬ 0 ≤ x → z_V M d mc ms rc rs r X1 (pc + 3) lv st X) : z_V M d mc ms rc rs r X1 pc lv (.int x :: st) X := by
  intro p l e s m args below meth c D dA A n0 h0 h H ls locs cells slots C hat hS hl hst hc hs
  exact lv_if_ge C.1 C.2.1 hd ht (fun q => kt q p l e s m args below meth c D dA A n0 h0 h H ls locs cells slots C hat hS hl (fun v hv => hst v (by simp [hv])) hc hs) (fun q => kf q p l e s m args below meth c D dA A n0 h0 h H ls locs cells slots C hat hS hl (fun v hv => hst v (by simp [hv])) hc hs)
theorem z_icmp_ge {x y : Int32} {off : Int} {tgt : Nat} (hd : decode M.2.1 pc = .ok (.if_icmp .ge off, 3)) (ht : (pc : Int) + off = (tgt : Int)) (kt : y ≤ x → z_V M d mc ms rc rs r X1 tgt lv st X) (kf : ¬ y ≤ x → z_V M d mc ms rc rs r X1 (pc + 3) lv st X) : z_V M d mc ms rc rs r X1 pc lv (.int y :: .int x :: st) X := by
  intro p l e s m args below meth c D dA A n0 h0 h H ls locs cells slots C hat hS hl hst hc hs
  exact lv_icmp_ge C.1 C.2.1 hd ht (fun q => kt q p l e s m args below meth c D dA A n0 h0 h H ls locs cells slots C hat hS hl (fun v hv => hst v (by simp [hv])) hc hs) (fun q => kf q p l e s m args below meth c D dA A n0 h0 h H ls locs cells slots C hat hS hl (fun v hv => hst v (by simp [hv])) hc hs)
theorem z_if_gt {x : Int32} {off : Int} {tgt : Nat} (hd : decode M.2.1 pc = .ok (.ifCond .gt off, 3)) (ht : (pc : Int) + off = (tgt : Int)) (kt : 0 < x → z_V M d mc ms rc rs r X1 tgt lv st X) (kf : ¬ 0 < x → z_V M d mc ms rc rs r X1 (pc + 3) lv st X) : z_V M d mc ms rc rs r X1 pc lv (.int x :: st) X := by
  intro p l e s m args below meth c D dA A n0 h0 h H ls locs cells slots C hat hS hl hst hc hs
  exact lv_if_gt C.1 C.2.1 hd ht (fun q => kt q p l e s m args below meth c D dA A n0 h0 h H ls locs cells slots C hat hS hl (fun v hv => hst v (by simp [hv])) hc hs) (fun q => kf q p l e s m args below meth c D dA A n0 h0 h H ls locs cells slots C hat hS hl (fun v hv => hst v (by simp [hv])) hc hs)
theorem z_icmp_gt {x y : Int32} {off : Int} {tgt : Nat} (hd : decode M.2.1 pc = .ok (.if_icmp .gt off, 3)) (ht : (pc : Int) + off = (tgt : Int)) (kt : y < x → z_V M d mc ms rc rs r X1 tgt lv st X) (kf : ¬ y < x → z_V M d mc ms rc rs r X1 (pc + 3) lv st X) : z_V M d mc ms rc rs r X1 pc lv (.int y :: .int x :: st) X := by
  intro p l e s m args below meth c D dA A n0 h0 h H ls locs cells slots C hat hS hl hst hc hs
  exact lv_icmp_gt C.1 C.2.1 hd ht (fun q => kt q p l e s m args below meth c D dA A n0 h0 h H ls locs cells slots C hat hS hl (fun v hv => hst v (by simp [hv])) hc hs) (fun q => kf q p l e s m args below meth c D dA A n0 h0 h H ls locs cells slots C hat hS hl (fun v hv => hst v (by simp [hv])) hc hs)
theorem z_if_le {x : Int32} {off : Int} {tgt : Nat} (hd : decode M.2.1 pc = .ok (.ifCond .le off, 3)) (ht : (pc : Int) + off = (tgt : Int)) (kt : x ≤ 0 → z_V M d mc ms rc rs r X1 tgt lv st X) (kf : ¬ x ≤ 0 → z_V M d mc ms rc rs r X1 (pc + 3) lv st X) : z_V M d mc ms rc rs r X1 pc lv (.int x :: st) X := by
  intro p l e s m args below meth c D dA A n0 h0 h H ls locs cells slots C hat hS hl hst hc hs
  exact lv_if_le C.1 C.2.1 hd ht (fun q => kt q p l e s m args below meth c D dA A n0 h0 h H ls locs cells slots C hat hS hl (fun v hv => hst v (by simp [hv])) hc hs) (fun q => kf q p l e s m args below meth c D dA A n0 h0 h H ls locs cells slots C hat hS hl (fun v hv => hst v (by simp [hv])) hc hs)
theorem z_icmp_le {x y : Int32} {off : Int} {tgt : Nat} (hd : decode M.2.1 pc = .ok (.if_icmp .le off, 3)) (ht : (pc : Int) + off = (tgt : Int)) (kt : x ≤ y → z_V M d mc ms rc rs r X1 tgt lv st X) (kf : ¬ x ≤ y → z_V M d mc ms rc rs r X1 (pc + 3) lv st X) : z_V M d mc ms rc rs r X1 pc lv (.int y :: .int x :: st) X := by
  intro p l e s m args below meth c D dA A n0 h0 h H ls locs cells slots C hat hS hl hst hc hs
  exact lv_icmp_le C.1 C.2.1 hd ht (fun q => kt q p l e s m args below meth c D dA A n0 h0 h H ls locs cells slots C hat hS hl (fun v hv => hst v (by simp [hv])) hc hs) (fun q => kf q p l e s m args below meth c D dA A n0 h0 h H ls locs cells slots C hat hS hl (fun v hv => hst v (by simp [hv])) hc hs)
theorem z_iadd {x y z : Int32} (hd : decode M.2.1 pc = .ok (.iadd, 1)) (hz : x + y = z) (k : z_V M d mc ms rc rs r X1 (pc + 1) lv (.int z :: st) X) : z_V M d mc ms rc rs r X1 pc lv (.int y :: .int x :: st) X := by
  subst hz
  refine z_pure (fun hst v hv => ?_) (fun h hx hb kk => lv_iadd hx hb hd kk) k
  rcases List.mem_cons.mp hv with rfl | hv
  · exact z_sv.int
  · exact hst v (by simp [hv])
theorem z_isub {x y z : Int32} (hd : decode M.2.1 pc = .ok (.isub, 1)) (hz : x - y = z) (k : z_V M d mc ms rc rs r X1 (pc + 1) lv (.int z :: st) X) : z_V M d mc ms rc rs r X1 pc lv (.int y :: .int x :: st) X := by
  subst hz
  refine z_pure (fun hst v hv => ?_) (fun h hx hb kk => lv_isub hx hb hd kk) k
  rcases List.mem_cons.mp hv with rfl | hv
  · exact z_sv.int
  · exact hst v (by simp [hv])
theorem z_imul {x y z : Int32} (hd : decode M.2.1 pc = .ok (.imul, 1)) (hz : x * y = z) (k : z_V M d mc ms rc rs r X1 (pc + 1) lv (.int z :: st) X) : z_V M d mc ms rc rs r X1 pc lv (.int y :: .int x :: st) X := by
  subst hz
  refine z_pure (fun hst v hv => ?_) (fun h hx hb kk => lv_imul hx hb hd kk) k
  rcases List.mem_cons.mp hv with rfl | hv
  · exact z_sv.int
  · exact hst v (by simp [hv])
theorem z_iand {x y z : Int32} (hd : decode M.2.1 pc = .ok (.iand, 1)) (hz : x &&& y = z) (k : z_V M d mc ms rc rs r X1 (pc + 1) lv (.int z :: st) X) : z_V M d mc ms rc rs r X1 pc lv (.int y :: .int x :: st) X := by
  subst hz
  refine z_pure (fun hst v hv => ?_) (fun h hx hb kk => lv_iand hx hb hd kk) k
  rcases List.mem_cons.mp hv with rfl | hv
  · exact z_sv.int
  · exact hst v (by simp [hv])
theorem z_ior {x y z : Int32} (hd : decode M.2.1 pc = .ok (.ior, 1)) (hz : x ||| y = z) (k : z_V M d mc ms rc rs r X1 (pc + 1) lv (.int z :: st) X) : z_V M d mc ms rc rs r X1 pc lv (.int y :: .int x :: st) X := by
  subst hz
  refine z_pure (fun hst v hv => ?_) (fun h hx hb kk => lv_ior hx hb hd kk) k
  rcases List.mem_cons.mp hv with rfl | hv
  · exact z_sv.int
  · exact hst v (by simp [hv])
theorem z_ixor {x y z : Int32} (hd : decode M.2.1 pc = .ok (.ixor, 1)) (hz : x ^^^ y = z) (k : z_V M d mc ms rc rs r X1 (pc + 1) lv (.int z :: st) X) : z_V M d mc ms rc rs r X1 pc lv (.int y :: .int x :: st) X := by
  subst hz
  refine z_pure (fun hst v hv => ?_) (fun h hx hb kk => lv_ixor hx hb hd kk) k
  rcases List.mem_cons.mp hv with rfl | hv
  · exact z_sv.int
  · exact hst v (by simp [hv])
theorem z_iconst {n : Int} {v : Int32} (hd : decode M.2.1 pc = .ok (.iconst n, 1)) (hv : Int32.ofInt n = v) (k : z_V M d mc ms rc rs r X1 (pc + 1) lv (.int v :: st) X) : z_V M d mc ms rc rs r X1 pc lv st X := by
  refine z_pure (fun hst v hv => ?_) (fun h hx hb kk => lv_iconst hx hb hd hv kk) k
  rcases List.mem_cons.mp hv with rfl | hv
  · exact z_sv.int
  · exact hst v hv
theorem z_bipush {n : Int} {v : Int32} (hd : decode M.2.1 pc = .ok (.bipush n, 2)) (hv : (Int8.ofInt n).toInt32 = v) (k : z_V M d mc ms rc rs r X1 (pc + 2) lv (.int v :: st) X) : z_V M d mc ms rc rs r X1 pc lv st X := by
  refine z_pure (fun hst v hv => ?_) (fun h hx hb kk => lv_bipush hx hb hd hv kk) k
  rcases List.mem_cons.mp hv with rfl | hv
  · exact z_sv.int
  · exact hst v hv
theorem z_sipush {n : Int} {v : Int32} (hd : decode M.2.1 pc = .ok (.sipush n, 3)) (hv : (Int16.ofInt n).toInt32 = v) (k : z_V M d mc ms rc rs r X1 (pc + 3) lv (.int v :: st) X) : z_V M d mc ms rc rs r X1 pc lv st X := by
  refine z_pure (fun hst v hv => ?_) (fun h hx hb kk => lv_sipush hx hb hd hv kk) k
  rcases List.mem_cons.mp hv with rfl | hv
  · exact z_sv.int
  · exact hst v hv
end ZB
/-! the locals -/
def z_L (h : Nat → Nat) (lv : List (Option Value)) : List (Nat × Value) := (List.range lv.length).filterMap fun i => match lv[i]? with
  | some (some v) => some (i, z_v h v)
  | _ => none
theorem z_L.mem {h : Nat → Nat} {lv : List (Option Value)} {q : Nat × Value} : q ∈ z_L h lv ↔ ∃ v, lv[q.1]? = some (some v) ∧ q.2 = z_v h v := by
  obtain ⟨i, w⟩ := q
  simp only [z_L, List.mem_filterMap, List.mem_range]
  constructor
  · rintro ⟨j, hj, hq⟩
    split at hq
    next v hv => cases hq; exact ⟨v, hv, rfl⟩
    next => cases hq
  · rintro ⟨v, hv, rfl⟩
    refine ⟨i, (List.getElem?_eq_some_iff.mp hv).1, ?_⟩
    rw [hv]
theorem z_lv.has {nL n : Nat} {h : Nat → Nat} {ls : Array Slot} {lv : List (Option Value)} (H : z_lv nL h n ls lv) : lv_has ls nL (z_L h lv) := by
  refine ⟨H.1, H.2.1, fun q hq => ?_⟩
  obtain ⟨v, hv, e⟩ := z_L.mem.mp hq
  rw [e]
  exact (H.2.2 _ _ hv).1
theorem z_lv.put {nL n i : Nat} {h : Nat → Nat} {ls ls' : Array Slot} {lv : List (Option Value)} {v : Value} (H : z_lv nL h n ls lv) (hv : z_sv n v) (hc : v.category = 1)
    (h' : lv_has ls' nL ((i, z_v h v) :: (z_L h lv).filter (fun q => !(q.1 == i) && !(q.1 + 1 == i && q.2.category == 2)))) : z_lv nL h n ls' (lv.set i (some v)) := by
  refine ⟨h'.1, h'.2.1, fun j w hj => ?_⟩
  by_cases hij : i = j
  · subst hij
    rw [List.getElem?_set] at hj
    simp only [↓reduceIte] at hj
    split at hj
    next hl =>
      cases hj
      exact ⟨h'.2.2 _ List.mem_cons_self, hv, hc⟩
    next => cases hj
  · rw [List.getElem?_set, if_neg hij] at hj
    obtain ⟨a1, a2, a3⟩ := H.2.2 j w hj
    refine ⟨h'.2.2 (j, z_v h w) (List.mem_cons_of_mem _ (List.mem_filter.mpr ⟨z_L.mem.mpr ⟨w, hj, rfl⟩, ?_⟩)), a2, a3⟩
    have : (z_v h w).category = 1 := by rw [z_v_cat]; exact a3
    simp [this]
    exact fun q => hij q.symm
theorem z_lv.mv {nL n n' : Nat} {h h1 : Nat → Nat} {ls : Array Slot} {lv : List (Option Value)} (H : z_lv nL h n ls lv) (he : ∀ i, i < n → h1 i = h i) (hn : n ≤ n') : z_lv nL h1 n' ls lv := by
  refine ⟨H.1, H.2.1, fun i v hv => ?_⟩
  obtain ⟨a1, a2, a3⟩ := H.2.2 i v hv
  exact ⟨by rw [z_v_eq he a2]; exact a1, a2.up hn, a3⟩
section ZL
variable {M : z_M} {d mc ms rc rs : Nat} {r : Option Value} {X1 X : z_X} {pc : Nat} {lv : List (Option Value)} {st : List Value}
theorem z_iload_n {k : Fin 4} {i : Nat} {x : Int32} (hd : decode M.2.1 pc = .ok (.iload_n k, 1)) (hi : (k : Nat) = i) (hv : lv[i]? = some (some (.int x))) (kk : z_V M d mc ms rc rs r X1 (pc + 1) lv (.int x :: st) X) : z_V M d mc ms rc rs r X1 pc lv st X := by
  intro p l e s m args below meth c D dA A n0 h0 h H ls locs cells slots C hat hS hl hst hc hs
  exact lv_iload_n C.1 C.2.1 hd hi (hl.2.2 i _ hv).1 (kk p l e s m args below meth c D dA A n0 h0 h H ls locs cells slots C hat hS hl (fun v hv => (List.mem_cons.mp hv).elim (fun q => q ▸ z_sv.int) (hst v)) hc hs)
theorem z_iload {i : Nat} {x : Int32} (hd : decode M.2.1 pc = .ok (.iload i, 2)) (hv : lv[i]? = some (some (.int x))) (kk : z_V M d mc ms rc rs r X1 (pc + 2) lv (.int x :: st) X) : z_V M d mc ms rc rs r X1 pc lv st X := by
  intro p l e s m args below meth c D dA A n0 h0 h H ls locs cells slots C hat hS hl hst hc hs
  exact lv_iload C.1 C.2.1 hd (hl.2.2 i _ hv).1 (kk p l e s m args below meth c D dA A n0 h0 h H ls locs cells slots C hat hS hl (fun v hv => (List.mem_cons.mp hv).elim (fun q => q ▸ z_sv.int) (hst v)) hc hs)
theorem z_aload_n {k : Fin 4} {i : Nat} {x : Nat} (hd : decode M.2.1 pc = .ok (.aload_n k, 1)) (hi : (k : Nat) = i) (hv : lv[i]? = some (some (.ref x))) (kk : z_V M d mc ms rc rs r X1 (pc + 1) lv (.ref x :: st) X) : z_V M d mc ms rc rs r X1 pc lv st X := by
  intro p l e s m args below meth c D dA A n0 h0 h H ls locs cells slots C hat hS hl hst hc hs
  exact lv_aload_n C.1 C.2.1 hd hi (hl.2.2 i _ hv).1 (kk p l e s m args below meth c D dA A n0 h0 h H ls locs cells slots C hat hS hl (fun v hv' => (List.mem_cons.mp hv').elim (fun q => q ▸ (hl.2.2 i _ hv).2.1) (hst v)) hc hs)
theorem z_aload {i : Nat} {x : Nat} (hd : decode M.2.1 pc = .ok (.aload i, 2)) (hv : lv[i]? = some (some (.ref x))) (kk : z_V M d mc ms rc rs r X1 (pc + 2) lv (.ref x :: st) X) : z_V M d mc ms rc rs r X1 pc lv st X := by
  intro p l e s m args below meth c D dA A n0 h0 h H ls locs cells slots C hat hS hl hst hc hs
  exact lv_aload C.1 C.2.1 hd (hl.2.2 i _ hv).1 (kk p l e s m args below meth c D dA A n0 h0 h H ls locs cells slots C hat hS hl (fun v hv' => (List.mem_cons.mp hv').elim (fun q => q ▸ (hl.2.2 i _ hv).2.1) (hst v)) hc hs)
theorem z_istore_n {k : Fin 4} {i : Nat} {x : Int32} (hd : decode M.2.1 pc = .ok (.istore_n k, 1)) (hi : (k : Nat) = i) (hn : i < M.2.2.1) (kk : z_V M d mc ms rc rs r X1 (pc + 1) (lv.set i (some (.int x))) st X) : z_V M d mc ms rc rs r X1 pc lv (.int x :: st) X := by
  intro p l e s m args below meth c D dA A n0 h0 h H ls locs cells slots C hat hS hl hst hc hs
  exact lv_istore_n C.1 C.2.1 hd hi hl.has hn rfl (fun ls' h' => kk p l e s m args below meth c D dA A n0 h0 h H ls' locs cells slots C hat hS (hl.put z_sv.int rfl h') (fun v hv => hst v (List.mem_cons_of_mem _ hv)) hc hs)
theorem z_istore {i : Nat} {x : Int32} (hd : decode M.2.1 pc = .ok (.istore i, 2)) (hn : i < M.2.2.1) (kk : z_V M d mc ms rc rs r X1 (pc + 2) (lv.set i (some (.int x))) st X) : z_V M d mc ms rc rs r X1 pc lv (.int x :: st) X := by
  intro p l e s m args below meth c D dA A n0 h0 h H ls locs cells slots C hat hS hl hst hc hs
  exact lv_istore C.1 C.2.1 hd hl.has hn rfl (fun ls' h' => kk p l e s m args below meth c D dA A n0 h0 h H ls' locs cells slots C hat hS (hl.put z_sv.int rfl h') (fun v hv => hst v (List.mem_cons_of_mem _ hv)) hc hs)
theorem z_astore_n {k : Fin 4} {i x : Nat} (hd : decode M.2.1 pc = .ok (.astore_n k, 1)) (hi : (k : Nat) = i) (hn : i < M.2.2.1) (kk : z_V M d mc ms rc rs r X1 (pc + 1) (lv.set i (some (.ref x))) st X) : z_V M d mc ms rc rs r X1 pc lv (.ref x :: st) X := by
  intro p l e s m args below meth c D dA A n0 h0 h H ls locs cells slots C hat hS hl hst hc hs
  exact lv_astore_n C.1 C.2.1 hd hi hl.has hn rfl (fun ls' h' => kk p l e s m args below meth c D dA A n0 h0 h H ls' locs cells slots C hat hS (hl.put (v := .ref x) (hst _ List.mem_cons_self) rfl h') (fun v hv => hst v (List.mem_cons_of_mem _ hv)) hc hs)
theorem z_astore {i x : Nat} (hd : decode M.2.1 pc = .ok (.astore i, 2)) (hn : i < M.2.2.1) (kk : z_V M d mc ms rc rs r X1 (pc + 2) (lv.set i (some (.ref x))) st X) : z_V M d mc ms rc rs r X1 pc lv (.ref x :: st) X := by
  intro p l e s m args below meth c D dA A n0 h0 h H ls locs cells slots C hat hS hl hst hc hs
  exact lv_astore C.1 C.2.1 hd hl.has hn rfl (fun ls' h' => kk p l e s m args below meth c D dA A n0 h0 h H ls' locs cells slots C hat hS (hl.put (v := .ref x) (hst _ List.mem_cons_self) rfl h') (fun v hv => hst v (List.mem_cons_of_mem _ hv)) hc hs)
theorem z_iinc {i : Nat} {n : Int} {x z : Int32} (hd : decode M.2.1 pc = .ok (.iinc i n, 3)) (hv : lv[i]? = some (some (.int x))) (hz : x + Int32.ofInt n = z) (hn : i < M.2.2.1) (kk : z_V M d mc ms rc rs r X1 (pc + 3) (lv.set i (some (.int z))) st X) : z_V M d mc ms rc rs r X1 pc lv st X := by
  intro p l e s m args below meth c D dA A n0 h0 h H ls locs cells slots C hat hS hl hst hc hs
  obtain ⟨k, hk⟩ := List.getElem?_of_mem (z_L.mem.mpr ⟨.int x, hv, rfl⟩ : (i, z_v h (.int x)) ∈ z_L h lv)
  exact lv_iinc C.1 C.2.1 hd hl.has hk hz hn rfl (fun ls' h' => kk p l e s m args below meth c D dA A n0 h0 h H ls' locs cells slots C hat hS (hl.put (v := .int z) z_sv.int rfl h') hst hc hs)
theorem z_dup {v : Value} (hd : decode M.2.1 pc = .ok (.dup, 1)) (hc : v.category = 1) (kk : z_V M d mc ms rc rs r X1 (pc + 1) lv (v :: v :: st) X) : z_V M d mc ms rc rs r X1 pc lv (v :: st) X := by
  refine z_pure (fun hst w hw => ?_) (fun h hx hb kk => lv_dup hx hb hd ((z_v_cat h v).trans hc) kk) kk
  rcases List.mem_cons.mp hw with rfl | hw
  · exact hst _ List.mem_cons_self
  · exact hst w hw
theorem z_dup2 {v w : Value} (hd : decode M.2.1 pc = .ok (.dup2, 1)) (hc : v.category = 1) (hc2 : w.category = 1) (kk : z_V M d mc ms rc rs r X1 (pc + 1) lv (v :: w :: v :: w :: st) X) : z_V M d mc ms rc rs r X1 pc lv (v :: w :: st) X := by
  refine z_pure (fun hst u hu => ?_) (fun h hx hb kk => lv_dup2_11 hx hb hd ((z_v_cat h v).trans hc) ((z_v_cat h w).trans hc2) kk) kk
  rcases List.mem_cons.mp hu with rfl | hu
  · exact hst _ List.mem_cons_self
  · rcases List.mem_cons.mp hu with rfl | hu
    · exact hst _ (List.mem_cons_of_mem _ List.mem_cons_self)
    · exact hst u hu
theorem z_pop {v : Value} (hd : decode M.2.1 pc = .ok (.pop, 1)) (hc : v.category = 1) (kk : z_V M d mc ms rc rs r X1 (pc + 1) lv st X) : z_V M d mc ms rc rs r X1 pc lv (v :: st) X :=
  z_pure (fun hst w hw => hst w (List.mem_cons_of_mem _ hw)) (fun h hx hb kk => lv_pop hx hb hd ((z_v_cat h v).trans hc) kk) kk
theorem z_goto {off : Int} {tgt : Nat} (hd : decode M.2.1 pc = .ok (.goto off, 3)) (ht : (pc : Int) + off = (tgt : Int)) (kk : z_V M d mc ms rc rs r X1 tgt lv st X) : z_V M d mc ms rc rs r X1 pc lv st X :=
  z_pure (fun hst => hst) (fun h hx hb kk => lv_goto hx hb hd ht kk) kk
theorem z_tableOut {dflt lo hi : Int} {offs : Array Int} {len : Nat} {x : Int32} {tgt : Nat} (hd : decode M.2.1 pc = .ok (.tableswitch dflt lo hi offs, len)) (h : x.toInt < lo ∨ hi < x.toInt) (ht : (pc : Int) + dflt = (tgt : Int)) (kk : z_V M d mc ms rc rs r X1 tgt lv st X) : z_V M d mc ms rc rs r X1 pc lv (.int x :: st) X :=
  z_pure (fun hst w hw => hst w (List.mem_cons_of_mem _ hw)) (fun _ hx hb kk => lv_tableOut hx hb hd h ht kk) kk
theorem z_tableIn {dflt lo hi : Int} {offs : Array Int} {len : Nat} {x : Int32} {off : Int} {tgt : Nat} (hd : decode M.2.1 pc = .ok (.tableswitch dflt lo hi offs, len)) (h1 : ¬ x.toInt < lo) (h2 : ¬ hi < x.toInt) (ho : offs[(x.toInt - lo).toNat]? = some off) (ht : (pc : Int) + off = (tgt : Int)) (kk : z_V M d mc ms rc rs r X1 tgt lv st X) : z_V M d mc ms rc rs r X1 pc lv (.int x :: st) X :=
  z_pure (fun hst w hw => hst w (List.mem_cons_of_mem _ hw)) (fun _ hx hb kk => lv_tableIn hx hb hd h1 h2 ho ht kk) kk
theorem z_irem {x y z : Int32} (hd : decode M.2.1 pc = .ok (.irem, 1)) (hne : ¬ y = 0) (hz : x - x / y * y = z) (k : z_V M d mc ms rc rs r X1 (pc + 1) lv (.int z :: st) X) : z_V M d mc ms rc rs r X1 pc lv (.int y :: .int x :: st) X := by
  subst hz
  refine z_pure (fun hst v hv => ?_) (fun h hx hb kk => lv_irem hx hb hd hne kk) k
  rcases List.mem_cons.mp hv with rfl | hv
  · exact z_sv.int
  · exact hst v (by simp [hv])
end ZL
/-! the picture's cells -/
def z_up {α : Type} (f : Nat → Nat → α) (i j : Nat) (x : α) : Nat → Nat → α := fun a b => if a = i ∧ b = j then x else f a b
theorem z_up_row {α : Type} (f : Nat → Nat → α) (i j : Nat) (x : α) : z_up f i j x i = va_up (f i) j x := by
  funext b; simp [z_up, va_up]
theorem z_up_ne {α : Type} (f : Nat → Nat → α) {i a : Nat} (j : Nat) (x : α) (h : a ≠ i) : z_up f i j x a = f a := by
  funext b; simp [z_up, h]
theorem z_upd_eq (f : Nat → Int32) (k : Nat) (x : Int32) : upd f k x = va_up f k x := rfl
theorem z_ws_get {dA : Nat → ClassId} {h : Nat → Nat} {X : z_X} {i : Nat} (hi : i < X.1) : (z_ws dA h X)[i]? = some (h i, z_ent dA h (z_k i) (X.2.1 i) (X.2.2.1 i) (X.2.2.2 i)) := z_rget _ hi
/-- a world in which one cell's entry is changed is the world of the changed picture -/
theorem z_ws_set {dA : Nat → ClassId} {h : Nat → Nat} {X X' : z_X} {i : Nat} {E : va_E} (hn : X'.1 = X.1) (hE : z_ent dA h (z_k i) (X'.2.1 i) (X'.2.2.1 i) (X'.2.2.2 i) = E) (ho : ∀ a, a ≠ i → X'.2.1 a = X.2.1 a ∧ X'.2.2.1 a = X.2.2.1 a ∧ X'.2.2.2 a = X.2.2.2 a) :
    (z_ws dA h X).set i (h i, E) = z_ws dA h X' := by
  unfold z_ws
  rw [z_rset, hn]
  apply List.map_congr_left
  intro j _
  by_cases hj : j = i
  · subst hj
    simp [hE]
  · obtain ⟨a1, a2, a3⟩ := ho j hj
    simp [hj, a1, a2, a3]
/-- field k of class ci -/
def z_flB (own : String) (idx ci k : Nat) : Bool := decide (ci < 12) && decide (k < z_nf ci) && decide (Cond.fieldLink own idx (z_T ci k).1 (z_T ci k).2.1 (z_T ci k).2.2.1 ∈ z_G)
def z_fl (own : String) (idx ci k : Nat) : Prop := ci < 12 ∧ k < z_nf ci ∧ Cond.fieldLink own idx (z_T ci k).1 (z_T ci k).2.1 (z_T ci k).2.2.1 ∈ z_G
theorem z_cl : ∀ c, c < 12 → vwCl[c]? = some (z_R c, z_T c, z_nf c) := by
  intro c hc
  match c, hc with
  | 0, _ => rfl
  | 1, _ => rfl
  | 2, _ => rfl
  | 3, _ => rfl
  | 4, _ => rfl
  | 5, _ => rfl
  | 6, _ => rfl
  | 7, _ => rfl
  | 8, _ => rfl
  | 9, _ => rfl
  | 10, _ => rfl
  | 11, _ => rfl
theorem z_tyok : ∀ c, c < 12 → ∀ k, k < z_nf c → parseFieldDescriptor (z_T c k).2.2.1 = some (z_ty c k) := by
  intro c hc
  match c, hc with
  | 0, _ => exact tyX0_ok
  | 1, _ => exact tyX1_ok
  | 2, _ => exact tyX2_ok
  | 3, _ => exact tyX3_ok
  | 4, _ => exact tyX4_ok
  | 5, _ => exact tyX5_ok
  | 6, _ => exact tyX6_ok
  | 7, _ => exact tyX7_ok
  | 8, _ => exact tyX8_ok
  | 9, _ => exact tyX9_ok
  | 10, _ => exact tyX10_ok
  | 11, _ => exact tyX11_ok
theorem z_nm : ∀ c, c < 12 → ∀ a, a < z_nf c → ∀ b, b < z_nf c → a ≠ b → (z_T c a).2.1 ≠ (z_T c b).2.1 := by
  intro c hc
  match c, hc with
  | 0, _ => exact nmX0
  | 1, _ => exact nmX1
  | 2, _ => exact nmX2
  | 3, _ => exact nmX3
  | 4, _ => exact nmX4
  | 5, _ => exact nmX5
  | 6, _ => exact nmX6
  | 7, _ => exact nmX7
  | 8, _ => exact nmX8
  | 9, _ => exact nmX9
  | 10, _ => exact nmX10
  | 11, _ => exact nmX11
set_option maxRecDepth 20000 in
theorem z_uw : ∀ c, c < 12 → ∀ w ∈ u_ws (z_R c) (z_T c) (z_nf c), w ∈ z_G := by
  intro c hc
  match c, hc with
  | 0, _ => exact (by decide +kernel : ∀ w ∈ u_ws RX0 TX0 6, w ∈ z_G)
  | 1, _ => exact (by decide +kernel : ∀ w ∈ u_ws RX1 TX1 4, w ∈ z_G)
  | 2, _ => exact (by decide +kernel : ∀ w ∈ u_ws RX2 TX2 3, w ∈ z_G)
  | 3, _ => exact (by decide +kernel : ∀ w ∈ u_ws RX3 TX3 6, w ∈ z_G)
  | 4, _ => exact (by decide +kernel : ∀ w ∈ u_ws RX4 TX4 3, w ∈ z_G)
  | 5, _ => exact (by decide +kernel : ∀ w ∈ u_ws RX5 TX5 4, w ∈ z_G)
  | 6, _ => exact (by decide +kernel : ∀ w ∈ u_ws RX6 TX6 4, w ∈ z_G)
  | 7, _ => exact (by decide +kernel : ∀ w ∈ u_ws RX7 TX7 10, w ∈ z_G)
  | 8, _ => exact (by decide +kernel : ∀ w ∈ u_ws RX8 TX8 6, w ∈ z_G)
  | 9, _ => exact (by decide +kernel : ∀ w ∈ u_ws RX9 TX9 5, w ∈ z_G)
  | 10, _ => exact (by decide +kernel : ∀ w ∈ u_ws RX10 TX10 13, w ∈ z_G)
  | 11, _ => exact (by decide +kernel : ∀ w ∈ u_ws RX11 TX11 47, w ∈ z_G)
end
section
/-! PART 11: fields, arrays, returns over the picture -/
theorem z_klen (i : Nat) : (z_k i).2 < 1000 := by
  unfold z_k
  rw [List.getD_eq_getElem?_getD]
  cases h : z_kt[i]? with
  | none => decide
  | some q => exact (by decide +kernel : ∀ q ∈ z_kt, q.2 < 1000) q (List.mem_of_getElem? h)
theorem z_len {i k len : Nat} (h : z_k i = (k, len)) : len < 2 ^ 31 := by
  have := z_klen i
  rw [h] at this
  simp at this
  omega
theorem z_in {i k len j : Nat} {x : Int32} (hk : z_k i = (k, len)) (hx : x = nI j) (hj : j < len) : vp_in x len ∧ x.toNatClampNeg = j := by
  subst hx
  exact ⟨vp_in_nI hj (z_len hk), nI_clamp (Nat.lt_trans hj (z_len hk))⟩
theorem z_fit_int {ci k : Nat} {x : Int32} (h : z_ty ci k = .int ∨ (z_ty ci k = .boolean ∧ (x = 0 ∨ x = 1))) : narrow (z_ty ci k) (.int x) = .int x ∧ fits (z_ty ci k) (.int x) = true := by
  rcases h with h | ⟨h, rfl | rfl⟩ <;> rw [h] <;> exact ⟨rfl, rfl⟩
theorem z_fit_ref {ci k : Nat} {a : Nat} (h : z_rf ci k = true) : narrow (z_ty ci k) (.ref a) = .ref a ∧ fits (z_ty ci k) (.ref a) = true := by
  unfold z_rf at h
  split at h
  next t e => rw [e]; exact ⟨rfl, rfl⟩
  next t e => rw [e]; exact ⟨rfl, rfl⟩
  next => cases h
theorem z_nar_b {x : Int32} (h : x = 0 ∨ x = 1) : vp_nar .boolean x = x := by rcases h with rfl | rfl <;> decide
def z_fs (h : Nat → Nat) (ci : Nat) (f : Nat → Option Nat) (x : Nat → Int32) : List Value := (List.range (z_nf ci)).map fun j => bif z_rf ci j then va_rf ((f j).map h) else .int (x j)
theorem z_set_int {h : Nat → Nat} {ci k : Nat} {f : Nat → Option Nat} {x : Nat → Int32} {v : Int32} (hr : z_rf ci k = false) : (z_fs h ci f x).set k (.int v) = z_fs h ci f (va_up x k v) := by
  unfold z_fs
  rw [z_rset]
  apply List.map_congr_left
  intro j _
  by_cases hj : j = k
  · subst hj; simp [hr, va_up]
  · simp [hj, va_up]
theorem z_set_ref {h : Nat → Nat} {ci k o : Nat} {f : Nat → Option Nat} {x : Nat → Int32} (hr : z_rf ci k = true) : (z_fs h ci f x).set k (.ref (h o)) = z_fs h ci (va_up f k (some o)) x := by
  unfold z_fs
  rw [z_rset]
  apply List.map_congr_left
  intro j _
  by_cases hj : j = k
  · subst hj; simp [hr, va_up, va_rf]
  · simp [hj, va_up]
theorem z_cell {dA : Nat → ClassId} {h : Nat → Nat} {n : Nat} {ρ : Nat → Nat → Option Nat} {σ : Nat → Nat → Int32} {τ : Nat → Nat → Int64} {i : Nat} {k : Nat × Nat} (hi : i < n) (hk : z_k i = k) : (z_ws dA h (n, ρ, σ, τ))[i]? = some (h i, z_ent dA h k (ρ i) (σ i) (τ i)) := by
  subst hk
  exact z_ws_get (X := (n, ρ, σ, τ)) hi
theorem z_wI {dA : Nat → ClassId} {h : Nat → Nat} {n : Nat} {ρ : Nat → Nat → Option Nat} {σ : Nat → Nat → Int32} {τ : Nat → Nat → Int64} {i j : Nat} {k : Nat × Nat} {x : Int32} {E : va_E} (hk : z_k i = k) (hE : z_ent dA h k (ρ i) (va_up (σ i) j x) (τ i) = E) : (z_ws dA h (n, ρ, σ, τ)).set i (h i, E) = z_ws dA h (n, ρ, z_up σ i j x, τ) := by
  refine z_ws_set (X := (n, ρ, σ, τ)) (X' := (n, ρ, z_up σ i j x, τ)) rfl ?_ (fun a ha => ⟨rfl, z_up_ne σ j x ha, rfl⟩)
  show z_ent dA h (z_k i) (ρ i) (z_up σ i j x i) (τ i) = E
  rw [hk, z_up_row, hE]
theorem z_wR {dA : Nat → ClassId} {h : Nat → Nat} {n : Nat} {ρ : Nat → Nat → Option Nat} {σ : Nat → Nat → Int32} {τ : Nat → Nat → Int64} {i j : Nat} {k : Nat × Nat} {o : Option Nat} {E : va_E} (hk : z_k i = k) (hE : z_ent dA h k (va_up (ρ i) j o) (σ i) (τ i) = E) : (z_ws dA h (n, ρ, σ, τ)).set i (h i, E) = z_ws dA h (n, z_up ρ i j o, σ, τ) := by
  refine z_ws_set (X := (n, ρ, σ, τ)) (X' := (n, z_up ρ i j o, σ, τ)) rfl ?_ (fun a ha => ⟨z_up_ne ρ j o ha, rfl, rfl⟩)
  show z_ent dA h (z_k i) (z_up ρ i j o i) (σ i) (τ i) = E
  rw [hk, z_up_row, hE]
theorem z_wL {dA : Nat → ClassId} {h : Nat → Nat} {n : Nat} {ρ : Nat → Nat → Option Nat} {σ : Nat → Nat → Int32} {τ : Nat → Nat → Int64} {i j : Nat} {k : Nat × Nat} {x : Int64} {E : va_E} (hk : z_k i = k) (hE : z_ent dA h k (ρ i) (σ i) (va_up (τ i) j x) = E) : (z_ws dA h (n, ρ, σ, τ)).set i (h i, E) = z_ws dA h (n, ρ, σ, z_up τ i j x) := by
  refine z_ws_set (X := (n, ρ, σ, τ)) (X' := (n, ρ, σ, z_up τ i j x)) rfl ?_ (fun a ha => ⟨rfl, rfl, z_up_ne τ j x ha⟩)
  show z_ent dA h (z_k i) (ρ i) (σ i) (z_up τ i j x i) = E
  rw [hk, z_up_row, hE]
section ZW
variable {D : va_G} {A : Nat → Prop} {H1 : Heap} {dA : Nat → ClassId} {h : Nat → Nat} {n : Nat} {ρ : Nat → Nat → Option Nat} {σ : Nat → Nat → Int32} {τ : Nat → Nat → Int64} {i j : Nat} {k : Nat × Nat} {E : va_E}
theorem z_PI {x : Int32} (hk : z_k i = k) (hE : z_ent dA h k (ρ i) (va_up (σ i) j x) (τ i) = E) (hP : va_P D vwCl ((z_ws dA h (n, ρ, σ, τ)).set i (h i, E)) H1) (hD : va_D A ((z_ws dA h (n, ρ, σ, τ)).set i (h i, E))) : va_P D vwCl (z_ws dA h (n, ρ, z_up σ i j x, τ)) H1 ∧ va_D A (z_ws dA h (n, ρ, z_up σ i j x, τ)) := by
  rw [z_wI hk hE] at hP hD
  exact ⟨hP, hD⟩
theorem z_PR {o : Option Nat} (hk : z_k i = k) (hE : z_ent dA h k (va_up (ρ i) j o) (σ i) (τ i) = E) (hP : va_P D vwCl ((z_ws dA h (n, ρ, σ, τ)).set i (h i, E)) H1) (hD : va_D A ((z_ws dA h (n, ρ, σ, τ)).set i (h i, E))) : va_P D vwCl (z_ws dA h (n, z_up ρ i j o, σ, τ)) H1 ∧ va_D A (z_ws dA h (n, z_up ρ i j o, σ, τ)) := by
  rw [z_wR hk hE] at hP hD
  exact ⟨hP, hD⟩
theorem z_PL {x : Int64} (hk : z_k i = k) (hE : z_ent dA h k (ρ i) (σ i) (va_up (τ i) j x) = E) (hP : va_P D vwCl ((z_ws dA h (n, ρ, σ, τ)).set i (h i, E)) H1) (hD : va_D A ((z_ws dA h (n, ρ, σ, τ)).set i (h i, E))) : va_P D vwCl (z_ws dA h (n, ρ, σ, z_up τ i j x)) H1 ∧ va_D A (z_ws dA h (n, ρ, σ, z_up τ i j x)) := by
  rw [z_wL hk hE] at hP hD
  exact ⟨hP, hD⟩
end ZW
/-- a row of a cell -/
def z_row (σ : Nat → Nat → Int32) (i : Nat) (f : Nat → Int32) : Nat → Nat → Int32 := fun a => if a = i then f else σ a
theorem z_wRow {dA : Nat → ClassId} {h : Nat → Nat} {n : Nat} {ρ : Nat → Nat → Option Nat} {σ : Nat → Nat → Int32} {τ : Nat → Nat → Int64} {i : Nat} {k : Nat × Nat} {f : Nat → Int32} {E : va_E} (hk : z_k i = k) (hE : z_ent dA h k (ρ i) f (τ i) = E) : (z_ws dA h (n, ρ, σ, τ)).set i (h i, E) = z_ws dA h (n, ρ, z_row σ i f, τ) := by
  refine z_ws_set (X := (n, ρ, σ, τ)) (X' := (n, ρ, z_row σ i f, τ)) rfl ?_ (fun a ha => ⟨rfl, by simp [z_row, ha], rfl⟩)
  show z_ent dA h (z_k i) (ρ i) (z_row σ i f i) (τ i) = E
  rw [hk, show z_row σ i f i = f by simp [z_row], hE]
theorem z_sl.tl {n : Nat} {v : Value} {st : List Value} (h : z_sl n (v :: st)) : z_sl n st := fun w hw => h w (List.mem_cons_of_mem _ hw)
theorem z_sl.cons {n : Nat} {v : Value} {st : List Value} (hv : z_sv n v) (h : z_sl n st) : z_sl n (v :: st) := fun w hw => (List.mem_cons.mp hw).elim (fun q => q ▸ hv) (h w)
theorem z_sl.hd {n : Nat} {v : Value} {st : List Value} (h : z_sl n (v :: st)) : z_sv n v := h v List.mem_cons_self
section ZF
variable {M : z_M} {d mc ms rc rs : Nat} {r : Option Value} {X1 : z_X} {n : Nat} {ρ : Nat → Nat → Option Nat} {σ : Nat → Nat → Int32} {τ : Nat → Nat → Int64} {pc : Nat} {lv : List (Option Value)} {st : List Value}
theorem z_getI {idx ci k i : Nat} {x : Int32} (hd : decode M.2.1 pc = .ok (.getfield idx, 3)) (hl : z_fl M.1.cls idx ci k) (hr : z_rf ci k = false) (hk : z_k i = (0, ci)) (hx : σ i k = x) (kk : z_V M d mc ms rc rs r X1 (pc + 3) lv (.int x :: st) (n, ρ, σ, τ)) : z_V M d mc ms rc rs r X1 pc lv (.ref i :: st) (n, ρ, σ, τ) := by
  intro p l e s m args below meth c D dA A n0 h0 h H ls locs cells slots C hat hS hlv hst hc hs
  have he := z_cell (dA := dA) (h := h) (ρ := ρ) (σ := σ) (τ := τ) hst.hd.of hk
  obtain ⟨hx', hb, hml, hret, hown, hts, hlk, hnm, hK, hA, hnw, hstt⟩ := id C
  refine va_get hx' hb hts (z_uw ci hl.1) hown hK hat.2.2.2.1 i (fs := z_fs h ci (ρ i) (σ i)) he (z_cl ci hl.1) k hl.2.1 (hts _ hl.2.2) (fun x h => h) (v := .int x) ?_ hd (kk p l e s m args below meth c D dA A n0 h0 h H ls locs cells slots C hat hS hlv (hst.tl.cons z_sv.int) hc hs)
  unfold z_fs
  rw [z_rget _ hl.2.1, hr]
  exact congrArg (fun z => some (Value.int z)) hx
theorem z_getR {idx ci k i o : Nat} (hd : decode M.2.1 pc = .ok (.getfield idx, 3)) (hl : z_fl M.1.cls idx ci k) (hr : z_rf ci k = true) (hk : z_k i = (0, ci)) (ho : ρ i k = some o) (kk : z_V M d mc ms rc rs r X1 (pc + 3) lv (.ref o :: st) (n, ρ, σ, τ)) : z_V M d mc ms rc rs r X1 pc lv (.ref i :: st) (n, ρ, σ, τ) := by
  intro p l e s m args below meth c D dA A n0 h0 h H ls locs cells slots C hat hS hlv hst hc hs
  have he := z_cell (dA := dA) (h := h) (ρ := ρ) (σ := σ) (τ := τ) hst.hd.of hk
  obtain ⟨hx', hb, hml, hret, hown, hts, hlk, hnm, hK, hA, hnw, hstt⟩ := id C
  have hon : o < n := hat.2.2.1 i hst.hd.of k o ho
  refine va_get hx' hb hts (z_uw ci hl.1) hown hK hat.2.2.2.1 i (fs := z_fs h ci (ρ i) (σ i)) he (z_cl ci hl.1) k hl.2.1 (hts _ hl.2.2) (fun x h => h) (v := .ref (h o)) ?_ hd (kk p l e s m args below meth c D dA A n0 h0 h H ls locs cells slots C hat hS hlv (hst.tl.cons (z_sv.mk hon)) hc hs)
  unfold z_fs
  rw [z_rget _ hl.2.1, hr]
  show some (va_rf ((ρ i k).map h)) = _
  rw [ho]
  rfl
theorem z_putI {idx ci k i : Nat} {x : Int32} (hd : decode M.2.1 pc = .ok (.putfield idx, 3)) (hl : z_fl M.1.cls idx ci k) (hfin : (z_T ci k).2.2.2 = false) (hr : z_rf ci k = false) (hfit : z_ty ci k = .int ∨ (z_ty ci k = .boolean ∧ (x = 0 ∨ x = 1))) (hk : z_k i = (0, ci)) (kk : z_V M d mc ms rc rs r X1 (pc + 3) lv st (n, ρ, z_up σ i k x, τ)) : z_V M d mc ms rc rs r X1 pc lv (.int x :: .ref i :: st) (n, ρ, σ, τ) := by
  intro p l e s m args below meth c D dA A n0 h0 h H ls locs cells slots C hat hS hlv hst hc hs
  have he := z_cell (dA := dA) (h := h) (ρ := ρ) (σ := σ) (τ := τ) hst.tl.hd.of hk
  obtain ⟨hx', hb, hml, hret, hown, hts, hlk, hnm, hK, hA, hnw, hstt⟩ := id C
  refine va_put hx' hb hts (z_uw ci hl.1) (z_ty ci) (z_tyok ci hl.1) (z_nm ci hl.1) hown hK hat.2.2.2.1 hat.2.2.2.2 hS i (fs := z_fs h ci (ρ i) (σ i)) he (z_cl ci hl.1) k hl.2.1 (hts _ hl.2.2) (fun x h => h) hfin (v := .int x) (z_tyok ci hl.1 k hl.2.1) (z_fit_int hfit).1 (z_fit_int hfit).2 (by simp [z_fs]; exact hl.2.1) hd ?_
  intro H1 locs1 hP1 hD1 hS1
  rw [z_set_int hr] at hP1 hD1
  obtain ⟨hP1, hD1⟩ := z_PI (j := k) (x := x) hk rfl hP1 hD1
  exact kk p l e s m args below meth c D dA A n0 h0 h H1 ls locs1 cells slots C ⟨hat.1, hat.2.1, hat.2.2.1, hP1, hD1⟩ hS1 hlv hst.tl.tl hc hs
theorem z_scR {i k o : Nat} (h : z_sc (n, ρ, σ, τ)) (ho : o < n) : z_sc (n, z_up ρ i k (some o), σ, τ) := by
  intro a ha b c hc
  have hc : z_up ρ i k (some o) a b = some c := hc
  unfold z_up at hc
  split at hc
  · cases hc; exact ho
  · exact h a ha b c hc
theorem z_putRF {idx ci k i o : Nat} (hd : decode M.2.1 pc = .ok (.putfield idx, 3)) (hl : z_fl M.1.cls idx ci k) (hfin : (z_T ci k).2.2.2 = true) (hr : z_rf ci k = true) (hin : M.1.name = "<init>") (hdc : (z_T ci k).1 = M.1.cls) (hk : z_k i = (0, ci)) (kk : z_V M d mc ms rc rs r X1 (pc + 3) lv st (n, z_up ρ i k (some o), σ, τ)) : z_V M d mc ms rc rs r X1 pc lv (.ref o :: .ref i :: st) (n, ρ, σ, τ) := by
  intro p l e s m args below meth c D dA A n0 h0 h H ls locs cells slots C hat hS hlv hst hc hs
  have he := z_cell (dA := dA) (h := h) (ρ := ρ) (σ := σ) (τ := τ) hst.tl.hd.of hk
  obtain ⟨hx', hb, hml, hret, hown, hts, hlk, hnm, hK, hA, hnw, hstt⟩ := id C
  refine va_putF hx' hb hts (z_uw ci hl.1) (z_ty ci) (z_tyok ci hl.1) (z_nm ci hl.1) hown hK hat.2.2.2.1 hat.2.2.2.2 hS i (fs := z_fs h ci (ρ i) (σ i)) he (z_cl ci hl.1) k hl.2.1 (hts _ hl.2.2) (fun x h => h) hfin (hnm.trans hin) hdc (v := .ref (h o)) (z_tyok ci hl.1 k hl.2.1) (z_fit_ref hr).1 (z_fit_ref hr).2 (by simp [z_fs]; exact hl.2.1) hd ?_
  intro H1 locs1 hP1 hD1 hS1
  rw [z_set_ref hr] at hP1 hD1
  obtain ⟨hP1, hD1⟩ := z_PR (j := k) (o := some o) hk rfl hP1 hD1
  exact kk p l e s m args below meth c D dA A n0 h0 h H1 ls locs1 cells slots C ⟨hat.1, hat.2.1, z_scR hat.2.2.1 hst.hd.of, hP1, hD1⟩ hS1 hlv hst.tl.tl hc hs
theorem z_iald {i len j : Nat} {x y : Int32} (hd : decode M.2.1 pc = .ok (.iaload, 1)) (hk : z_k i = (1, len)) (hx : x = nI j) (hj : j < len) (hy : σ i j = y) (kk : z_V M d mc ms rc rs r X1 (pc + 1) lv (.int y :: st) (n, ρ, σ, τ)) : z_V M d mc ms rc rs r X1 pc lv (.int x :: .ref i :: st) (n, ρ, σ, τ) := by
  intro p l e s m args below meth c D dA A n0 h0 h H ls locs cells slots C hat hS hlv hst hc hs
  have he := z_cell (dA := dA) (h := h) (ρ := ρ) (σ := σ) (τ := τ) hst.tl.hd.of hk
  obtain ⟨hx', hb, hml, hret, hown, hts, hlk, hnm, hK, hA, hnw, hstt⟩ := id C
  obtain ⟨hin, hcl⟩ := z_in hk hx hj
  refine va_iald hx' hb hK hat.2.2.2.1 i 0 (f := σ i) he rfl hin hd ?_
  rw [hcl, hy]
  exact kk p l e s m args below meth c D dA A n0 h0 h H ls locs cells slots C hat hS hlv (hst.tl.tl.cons z_sv.int) hc hs
theorem z_zald {i len j : Nat} {x y : Int32} (hd : decode M.2.1 pc = .ok (.baload, 1)) (hk : z_k i = (2, len)) (hx : x = nI j) (hj : j < len) (hy : σ i j = y) (kk : z_V M d mc ms rc rs r X1 (pc + 1) lv (.int y :: st) (n, ρ, σ, τ)) : z_V M d mc ms rc rs r X1 pc lv (.int x :: .ref i :: st) (n, ρ, σ, τ) := by
  intro p l e s m args below meth c D dA A n0 h0 h H ls locs cells slots C hat hS hlv hst hc hs
  have he := z_cell (dA := dA) (h := h) (ρ := ρ) (σ := σ) (τ := τ) hst.tl.hd.of hk
  obtain ⟨hx', hb, hml, hret, hown, hts, hlk, hnm, hK, hA, hnw, hstt⟩ := id C
  obtain ⟨hin, hcl⟩ := z_in hk hx hj
  refine va_zald hx' hb hK hat.2.2.2.1 i 1 (f := σ i) he rfl hin hd ?_
  rw [hcl, hy]
  exact kk p l e s m args below meth c D dA A n0 h0 h H ls locs cells slots C hat hS hlv (hst.tl.tl.cons z_sv.int) hc hs
theorem z_iast {i len j : Nat} {x y : Int32} (hd : decode M.2.1 pc = .ok (.iastore, 1)) (hk : z_k i = (1, len)) (hx : x = nI j) (hj : j < len) (kk : z_V M d mc ms rc rs r X1 (pc + 1) lv st (n, ρ, z_up σ i j y, τ)) : z_V M d mc ms rc rs r X1 pc lv (.int y :: .int x :: .ref i :: st) (n, ρ, σ, τ) := by
  intro p l e s m args below meth c D dA A n0 h0 h H ls locs cells slots C hat hS hlv hst hc hs
  have he := z_cell (dA := dA) (h := h) (ρ := ρ) (σ := σ) (τ := τ) hst.tl.tl.hd.of hk
  obtain ⟨hx', hb, hml, hret, hown, hts, hlk, hnm, hK, hA, hnw, hstt⟩ := id C
  obtain ⟨hin, hcl⟩ := z_in hk hx hj
  refine va_iast hx' hb hK hat.2.2.2.1 hat.2.2.2.2 hS i 0 (f := σ i) he rfl hin hd ?_
  intro H1 locs1 hP1 hD1 hS1
  rw [hcl] at hP1 hD1
  obtain ⟨hP1, hD1⟩ := z_PI (j := j) (x := y) hk rfl hP1 hD1
  exact kk p l e s m args below meth c D dA A n0 h0 h H1 ls locs1 cells slots C ⟨hat.1, hat.2.1, hat.2.2.1, hP1, hD1⟩ hS1 hlv hst.tl.tl.tl hc hs
theorem z_zast {i len j : Nat} {x y : Int32} (hd : decode M.2.1 pc = .ok (.bastore, 1)) (hk : z_k i = (2, len)) (hx : x = nI j) (hj : j < len) (hy : y = 0 ∨ y = 1) (kk : z_V M d mc ms rc rs r X1 (pc + 1) lv st (n, ρ, z_up σ i j y, τ)) : z_V M d mc ms rc rs r X1 pc lv (.int y :: .int x :: .ref i :: st) (n, ρ, σ, τ) := by
  intro p l e s m args below meth c D dA A n0 h0 h H ls locs cells slots C hat hS hlv hst hc hs
  have he := z_cell (dA := dA) (h := h) (ρ := ρ) (σ := σ) (τ := τ) hst.tl.tl.hd.of hk
  obtain ⟨hx', hb, hml, hret, hown, hts, hlk, hnm, hK, hA, hnw, hstt⟩ := id C
  obtain ⟨hin, hcl⟩ := z_in hk hx hj
  refine va_zast hx' hb hK hat.2.2.2.1 hat.2.2.2.2 hS i 1 (f := σ i) he rfl hin hd ?_
  intro H1 locs1 hP1 hD1 hS1
  rw [hcl, z_nar_b hy] at hP1 hD1
  obtain ⟨hP1, hD1⟩ := z_PI (j := j) (x := y) hk rfl hP1 hD1
  exact kk p l e s m args below meth c D dA A n0 h0 h H1 ls locs1 cells slots C ⟨hat.1, hat.2.1, hat.2.2.1, hP1, hD1⟩ hS1 hlv hst.tl.tl.tl hc hs
theorem z_lald {i len j : Nat} {x : Int32} {y : Int64} (hd : decode M.2.1 pc = .ok (.laload, 1)) (hk : z_k i = (3, len)) (hx : x = nI j) (hj : j < len) (hy : τ i j = y) (kk : z_V M d mc ms rc rs r X1 (pc + 1) lv (.long y :: st) (n, ρ, σ, τ)) : z_V M d mc ms rc rs r X1 pc lv (.int x :: .ref i :: st) (n, ρ, σ, τ) := by
  intro p l e s m args below meth c D dA A n0 h0 h H ls locs cells slots C hat hS hlv hst hc hs
  have he := z_cell (dA := dA) (h := h) (ρ := ρ) (σ := σ) (τ := τ) hst.tl.hd.of hk
  obtain ⟨hx', hb, hml, hret, hown, hts, hlk, hnm, hK, hA, hnw, hstt⟩ := id C
  obtain ⟨hin, hcl⟩ := z_in hk hx hj
  refine va_lald hx' hb hK hat.2.2.2.1 i 2 (f := τ i) he rfl hin hd ?_
  rw [hcl, hy]
  exact kk p l e s m args below meth c D dA A n0 h0 h H ls locs cells slots C hat hS hlv (hst.tl.tl.cons z_sv.long) hc hs
theorem z_last {i len j : Nat} {x : Int32} {y : Int64} (hd : decode M.2.1 pc = .ok (.lastore, 1)) (hk : z_k i = (3, len)) (hx : x = nI j) (hj : j < len) (kk : z_V M d mc ms rc rs r X1 (pc + 1) lv st (n, ρ, σ, z_up τ i j y)) : z_V M d mc ms rc rs r X1 pc lv (.long y :: .int x :: .ref i :: st) (n, ρ, σ, τ) := by
  intro p l e s m args below meth c D dA A n0 h0 h H ls locs cells slots C hat hS hlv hst hc hs
  have he := z_cell (dA := dA) (h := h) (ρ := ρ) (σ := σ) (τ := τ) hst.tl.tl.hd.of hk
  obtain ⟨hx', hb, hml, hret, hown, hts, hlk, hnm, hK, hA, hnw, hstt⟩ := id C
  obtain ⟨hin, hcl⟩ := z_in hk hx hj
  refine va_last hx' hb hK hat.2.2.2.1 hat.2.2.2.2 hS i 2 (f := τ i) he rfl hin hd ?_
  intro H1 locs1 hP1 hD1 hS1
  rw [hcl] at hP1 hD1
  obtain ⟨hP1, hD1⟩ := z_PL (j := j) (x := y) hk rfl hP1 hD1
  exact kk p l e s m args below meth c D dA A n0 h0 h H1 ls locs1 cells slots C ⟨hat.1, hat.2.1, hat.2.2.1, hP1, hD1⟩ hS1 hlv hst.tl.tl.tl hc hs
theorem z_aald {i len j o : Nat} {x : Int32} (hd : decode M.2.1 pc = .ok (.aaload, 1)) (hk : z_k i = (4, len)) (hx : x = nI j) (hj : j < len) (ho : ρ i j = some o) (kk : z_V M d mc ms rc rs r X1 (pc + 1) lv (.ref o :: st) (n, ρ, σ, τ)) : z_V M d mc ms rc rs r X1 pc lv (.int x :: .ref i :: st) (n, ρ, σ, τ) := by
  intro p l e s m args below meth c D dA A n0 h0 h H ls locs cells slots C hat hS hlv hst hc hs
  have he := z_cell (dA := dA) (h := h) (ρ := ρ) (σ := σ) (τ := τ) hst.tl.hd.of hk
  obtain ⟨hx', hb, hml, hret, hown, hts, hlk, hnm, hK, hA, hnw, hstt⟩ := id C
  obtain ⟨hin, hcl⟩ := z_in hk hx hj
  have hon : o < n := hat.2.2.1 i hst.tl.hd.of j o ho
  refine va_aldq hx' hb hK hat.2.2.2.1 i 3 (f := fun j => (ρ i j).map h) he rfl hin hd ?_
  rw [hcl, ho]
  exact kk p l e s m args below meth c D dA A n0 h0 h H ls locs cells slots C hat hS hlv (hst.tl.tl.cons (z_sv.mk hon)) hc hs
theorem z_alen {i k len : Nat} {y : Int32} (hd : decode M.2.1 pc = .ok (.arraylength, 1)) (hk : z_k i = (k, len)) (hkk : k = 1 ∨ k = 2) (hy : nI len = y) (kk : z_V M d mc ms rc rs r X1 (pc + 1) lv (.int y :: st) (n, ρ, σ, τ)) : z_V M d mc ms rc rs r X1 pc lv (.ref i :: st) (n, ρ, σ, τ) := by
  intro p l e s m args below meth c D dA A n0 h0 h H ls locs cells slots C hat hS hlv hst hc hs
  have he := z_cell (dA := dA) (h := h) (ρ := ρ) (σ := σ) (τ := τ) hst.hd.of hk
  obtain ⟨hx', hb, hml, hret, hown, hts, hlk, hnm, hK, hA, hnw, hstt⟩ := id C
  have k2 := kk p l e s m args below meth c D dA A n0 h0 h H ls locs cells slots C hat hS hlv (hst.tl.cons z_sv.int) hc hs
  rcases hkk with rfl | rfl
  · exact va_alen hx' hb hK hat.2.2.2.1 i 0 (x := (len, .inl (σ i))) he rfl hy hd k2
  · exact va_alen hx' hb hK hat.2.2.2.1 i 1 (x := (len, .inl (σ i))) he rfl hy hd k2
theorem z_i2l {x : Int32} {y : Int64} (hd : decode M.2.1 pc = .ok (.i2l, 1)) (hy : x.toInt64 = y) {X : z_X} (kk : z_V M d mc ms rc rs r X1 (pc + 1) lv (.long y :: st) X) : z_V M d mc ms rc rs r X1 pc lv (.int x :: st) X := by
  refine z_pure (fun hst => hst.tl.cons z_sv.long) (fun h hx hb kk => lv_i2l hx hb hd hy kk) kk
theorem z_iret {x : Int32} {X : z_X} (hd : decode M.2.1 pc = .ok (.ireturn, 1)) (ht : M.2.2.2 = some .int) (hr : r = some (.int x)) (hX : X = X1) : z_V M d mc ms rc rs r X1 pc lv [.int x] X := by
  subst hr; subst hX
  intro p l e s m args below meth c D dA A n0 h0 h H ls locs cells slots C hat hS hlv hst hc hs
  obtain ⟨hx', hb, hml, hret, hown, hts, hlk, hnm, hK, hA, hnw, hstt⟩ := id C
  refine W.widen (k := mc) (n := ms) (by omega) (by omega) ?_
  exact W.iret hx' hb (hret.trans ht) (fun t hT hW => ⟨⟨h, rfl, ⟨hat.1, hat.2.1, hat.2.2.1, by rw [hT]; exact hat.2.2.2.1, hat.2.2.2.2⟩, fun v hv => by cases hv; exact z_sv.int⟩, hS.F hT⟩) hS.2.2 hd hlk
theorem z_zret {x : Int32} {X : z_X} (hd : decode M.2.1 pc = .ok (.ireturn, 1)) (ht : M.2.2.2 = some .boolean) (hx : x = 0 ∨ x = 1) (hr : r = some (.int x)) (hX : X = X1) : z_V M d mc ms rc rs r X1 pc lv [.int x] X := by
  subst hr; subst hX
  intro p l e s m args below meth c D dA A n0 h0 h H ls locs cells slots C hat hS hlv hst hc hs
  obtain ⟨hx', hb, hml, hret, hown, hts, hlk, hnm, hK, hA, hnw, hstt⟩ := id C
  refine W.widen (k := mc) (n := ms) (by omega) (by omega) ?_
  exact W.zret hx' hb (hret.trans ht) (by rcases hx with rfl | rfl <;> rfl) (fun t hT hW => ⟨⟨h, rfl, ⟨hat.1, hat.2.1, hat.2.2.1, by rw [hT]; exact hat.2.2.2.1, hat.2.2.2.2⟩, fun v hv => by cases hv; exact z_sv.int⟩, hS.F hT⟩) hS.2.2 hd hlk
theorem z_vret {X : z_X} (hd : decode M.2.1 pc = .ok (.return_, 1)) (ht : M.2.2.2 = none) (hr : r = none) (hX : X = X1) : z_V M d mc ms rc rs r X1 pc lv [] X := by
  subst hr; subst hX
  intro p l e s m args below meth c D dA A n0 h0 h H ls locs cells slots C hat hS hlv hst hc hs
  obtain ⟨hx', hb, hml, hret, hown, hts, hlk, hnm, hK, hA, hnw, hstt⟩ := id C
  refine W.widen (k := mc) (n := ms) (by omega) (by omega) ?_
  exact W.vret hx' hb (hret.trans ht) (fun t hT hW => ⟨⟨h, rfl, ⟨hat.1, hat.2.1, hat.2.2.1, by rw [hT]; exact hat.2.2.2.1, hat.2.2.2.2⟩, fun v hv => by cases hv⟩, hS.F hT⟩) hS.2.2 hd hlk
end ZF
end
section
/-! PART 12: a method's contract out of its walk; calls -/
theorem z_sl_args {vs : List Value} (h : ∀ v ∈ vs, v.category = 1) : (lg_sl vs).length = vs.length := by
  induction vs with
  | nil => rfl
  | cons v vs ih =>
    have h1 := h v List.mem_cons_self
    have h2 := ih (fun w hw => h w (List.mem_cons_of_mem _ hw))
    unfold lg_sl at h2 ⊢
    rw [List.flatMap_cons, List.length_append, h2, if_neg (by omega)]
    simp
    omega
theorem z_args_mem {vs : List Value} (h : ∀ v ∈ vs, v.category = 1) : ∀ (i j : Nat) (v : Value), vs[j]? = some v → (i + j, v) ∈ lv_args i vs := by
  induction vs with
  | nil => intro i j v hj; simp at hj
  | cons w vs ih =>
    intro i j v hj
    have h1 := h w List.mem_cons_self
    unfold lv_args
    rw [if_neg (by omega)]
    cases j with
    | zero => simp at hj; subst hj; exact List.mem_cons_self
    | succ j =>
      have := ih (fun w hw => h w (List.mem_cons_of_mem _ hw)) (i + 1) j v (by simpa using hj)
      rw [show i + (j + 1) = i + 1 + j by omega]
      exact List.mem_cons_of_mem _ this
theorem z_MV.of {M : z_M} {d mc ms : Nat} {as : List Value} {X X1 : z_X} {r : Option Value} {lv : List (Option Value)} (hy : plainName M.1.cls = true) (hlen : as.length ≤ M.2.2.1) (hcat : ∀ v ∈ as, v.category = 1) (hlv : as.map some ++ List.replicate (M.2.2.1 - as.length) none = lv)
    (k : z_V M d mc ms mc ms r X1 0 lv [] X) : z_MV M d mc ms as X r X1 := by
  subst hlv
  intro l D dA h sz
  refine Met.ofW (cc := M.2.1) (maxL := M.2.2.1) (ret := M.2.2.2) hy rfl ?_
  intro p e s m args below meth c s₁ B hml hv
  obtain ⟨rfl, hsz, hK, hP, hD0, hsc, hsl, hnw, hst⟩ := hv
  have hts := atoms_spec (ws := z_w M) B.pre
  have hown : s.vm.findClass M.1.cls = some m.cls := findClass_of_methodNamed B.named
  have hin : meth.name = M.1.name := (name_of_methodNamed B.named B.method).1
  subst hsz
  have hD := hD0.self (sz := s.heap.size)
  have hcat' : ∀ v ∈ as.map (z_v h), v.category = 1 := fun v hv => by
    obtain ⟨w, hw, rfl⟩ := List.mem_map.mp hv
    rw [z_v_cat]
    exact hcat w hw
  have hl := lv_entry (as.map (z_v h)) (n := M.2.2.1) (by rw [z_sl_args hcat', List.length_map]; exact hlen)
  rw [lg_entry_eq]
  generalize (lg_sl (as.map (z_v h)) ++ List.replicate (M.2.2.1 - (lg_sl (as.map (z_v h))).length) Slot.unset).toArray = ls at hl ⊢
  refine k p l e s m _ below meth c D dA (va_A (z_ws dA h X) s.heap.size) X.1 h h s.heap ls [] 0 0 ⟨B.exec, B.bytes, hml, B.returns, hown, fun w hw => hts w (List.mem_cons_of_mem _ hw), B.notSynchronized, hin, hK, fun q hq => Or.inr hq, hnw, hst⟩ ⟨Nat.le_refl _, fun _ _ => rfl, hsc, hP, hD⟩ va_S.rf ⟨hl.1, hl.2.1, fun i v hv => ?_⟩ (fun v hv => by cases hv) (by omega) (by omega)
  have hv2 : as[i]? = some v := by
    rw [List.getElem?_append] at hv
    split at hv
    · rw [List.getElem?_map] at hv
      cases hq : as[i]? with
      | none => rw [hq] at hv; cases hv
      | some w => rw [hq] at hv; cases hv; rfl
    · have := List.eq_of_mem_replicate (List.mem_of_getElem? hv)
      cases this
  have hm := List.mem_of_getElem? hv2
  refine ⟨hl.2.2 (i, z_v h v) ?_, hsl v hm, hcat v hm⟩
  have := z_args_mem hcat' 0 i (z_v h v) (by rw [List.getElem?_map, hv2]; rfl)
  rwa [Nat.zero_add] at this
theorem z_good {L : List Cond} (h : ∀ w ∈ L, w ∈ z_G) : GoodIn z_G L := fun w hw => ⟨h w hw, good_of_word (List.mem_filter.mp (h w hw)).2⟩
def z_pl (M : z_M) (n : Nat) : Prop := (M.1.cls ≠ "java/lang/invoke/MethodHandle" ∧ M.1.cls ≠ "java/lang/invoke/VarHandle" ∧ (parseMethodDescriptor M.1.desc).map (fun d => d.parameters.length) = some n) ∧ M.2.2.1 ≤ 15
def z_cd (M : z_M) : Cond := .code M.1 M.2.1 M.2.2.1 M.2.2.2
def z_lV (own : String) (idx : Nat) (M : z_M) (n : Nat) : Prop := (∀ w ∈ ([.methodLink own idx M.1, .instanceMethod M.1, .selects M.1.cls M.1 M.1, .initialized M.1.cls, z_cd M] : List Cond), w ∈ z_G) ∧ z_pl M n
def z_lS (own : String) (idx : Nat) (M : z_M) (n : Nat) : Prop := (∀ w ∈ ([.methodLink own idx M.1, .static M.1, .initialized M.1.cls, z_cd M] : List Cond), w ∈ z_G) ∧ z_pl M n
def z_lI (own : String) (idx : Nat) (M : z_M) (n : Nat) : Prop := (∀ w ∈ ([.methodLink own idx M.1, .instanceMethod M.1, .initialized M.1.cls, z_cd M] : List Cond), w ∈ z_G) ∧ z_pl M n ∧ M.1.name = "<init>" ∧ M.2.2.2 = none
def z_lN (own : String) (idx : Nat) (M : z_M) (n : Nat) : Prop := Cond.methodLinkNest own idx M.1 "TraceTier" ∈ z_N ∧ (∀ w ∈ ([.instanceMethod M.1, .initialized M.1.cls, z_cd M] : List Cond), w ∈ z_G) ∧ z_pl M n ∧ M.1.name = "<init>" ∧ M.2.2.2 = none
theorem z_cats (h : Nat → Nat) (st : List Value) : ((st.map (z_v h)).map fun v => v.category) = st.map fun v => v.category := by
  rw [List.map_map]
  apply List.map_congr_left
  intro v _
  exact z_v_cat h v
def z_Pc (dA : Nat → ClassId) (D : va_G) (h : Nat → Nat) (sz : Nat) (as : List Value) (X : z_X) : Array Value → State → Prop := va_Pc (as.map (z_v h)) (fun U => U.heap.size = sz ∧ va_K D vwCl (z_tys dA) U ∧ va_P D vwCl (z_ws dA h X) U.heap ∧ va_D (fun _ => True) (z_ws dA h X) ∧ z_sc X ∧ z_sl X.1 as ∧ z_nw U ∧ z_st (va_A (z_ws dA h X) sz) U U.heap)
theorem z_blind {dA : Nat → ClassId} {D : va_G} {h : Nat → Nat} {sz : Nat} {as : List Value} {X : z_X} : FrameBlind (z_Pc dA D h sz as X) := by
  intro a U g mk q
  obtain ⟨q0, q1, qK, qP, qD, qs, ql, qn, qt⟩ := q
  exact ⟨q0, q1, va_K.moved (u := U) (U := U.calling g mk a) (Vm.Alike.refl U.vm) qK, qP, qD, qs, ql, ⟨fun w hw => va_Nw.same (u := U) (U := U.calling g mk a) (by
    have h2 := (List.mem_filter.mp hw).2
    cases w with
    | fieldLinkNest _ _ _ _ _ _ => rfl
    | methodLinkNest _ _ _ _ => rfl
    | _ => simp [z_nest] at h2) rfl (qn.1 w hw), va_AO.moved (u := U) (U := U.calling g mk a) (Vm.Alike.refl U.vm) qn.2⟩, z_st.moved (u := U) (U := U.calling g mk a) (Vm.Alike.refl U.vm) qt⟩
theorem z_sub {M : z_M} {p : Program} {s : State} {m : MethodId} {args : Array Value} {meth : Method} {c : Code} {D : va_G} {dA : Nat → ClassId} {A : Nat → Prop} {n0 : Nat} {h0 h : Nat → Nat} {X : z_X} {H : Heap} {locs : List Loc} (C : z_C M p s m args meth c D dA A) (hat : z_at D dA A n0 h0 h X H) (hS : va_S A s.heap H locs) : ∀ q, va_A (z_ws dA h X) H.size q → A q := by
  obtain ⟨-, -, -, -, -, -, -, -, -, hA, -, -⟩ := C
  intro q hq
  rcases hq with ⟨k, e, hke⟩ | hq
  · exact hat.2.2.2.2.2 k (q, e) hke
  · exact hA q (Nat.le_trans hS.1 hq)
/-- what a callee may take as given -/
theorem z_pre {M : z_M} {p : Program} {s : State} {m : MethodId} {args : Array Value} {meth : Method} {c : Code} {D : va_G} {dA : Nat → ClassId} {A : Nat → Prop} {n0 : Nat} {h0 h : Nat → Nat} {X : z_X} {H : Heap} {locs : List Loc} {as : List Value} (C : z_C M p s m args meth c D dA A) (hat : z_at D dA A n0 h0 h X H) (hS : va_S A s.heap H locs) (hsl : z_sl X.1 as) :
    ∀ U : State, U.heap = H → s.WarmedH U.vm → z_Pc dA D h H.size as X (as.map (z_v h)).toArray U := by
  intro U hU hW
  have hsub := z_sub C hat hS
  obtain ⟨-, -, -, -, -, -, -, -, hK, -, hnw, hst⟩ := C
  refine ⟨rfl, by rw [hU], va_K.moved hW.alike hK, by rw [hU]; exact hat.2.2.2.1, hat.2.2.2.2.weaken (fun _ _ _ _ => trivial), hat.2.2.1, hsl, hnw.warm hW, ?_⟩
  rw [hU]
  exact (z_st.moved hW.alike (hst.kept hS.2.1)).narrow hsub
theorem z_after {M : z_M} {d mc ms rc rs rc' rs' mc' ms' : Nat} {r r' : Option Value} {X X1 X2 : z_X} {pc : Nat} {lv : List (Option Value)} {st st0 : List Value} {p : Program} {l : Launch} {e : Env} {s : State} {m : MethodId} {args a : Array Value} {below : List Frame} {meth : Method} {c : Code} {D : va_G} {dA : Nat → ClassId} {A : Nat → Prop} {n0 : Nat} {h0 h : Nat → Nat} {H : Heap} {ls : Array Slot} {locs : List Loc} {cells slots : Nat}
    (hr : va_Run p l e (z_rm d mc ms) s m args below meth c H locs cells slots mc' ms' (F0 m pc ls st0) (st.map (z_v h)) (z_Qc r' X2 D dA (va_A (z_ws dA h X) H.size) X.1 h a) (va_A (z_ws dA h X) H.size))
    (C : z_C M p s m args meth c D dA A) (hat : z_at D dA A n0 h0 h X H) (hS : va_S A s.heap H locs) (hlv : z_lv M.2.2.1 h X.1 ls lv) (hst : z_sl X.1 st) (hc : cells + rc ≤ mc) (hs : slots + rs ≤ ms) (hb : mc' + rc' ≤ rc ∧ ms' + rs' ≤ rs)
    (kk : z_V M d mc ms rc' rs' r X1 (pc + 3) lv (r'.toList ++ st) X2) : W p l e (z_rm d mc ms) s m args below meth c H locs cells slots (MQ below (z_Qc r X1 D dA A n0 h0) args s mc ms A) (F0 m pc ls st0) := by
  intro T hT Xs
  obtain ⟨v, st₀, t, T', L, e0, X', hL, e1, e2, hq, stp⟩ := hr T hT Xs
  obtain ⟨⟨h1, hv, hat1, hrs⟩, hz, hk⟩ := hq
  cases hv
  rw [e0] at hz hk
  have hsub := z_sub C hat hS
  have hS1 : va_S A s.heap T'.heap (locs ++ L) := ⟨Nat.le_trans hS.1 (by rw [e1]; exact hz), fun q g1 g2 => by
      rw [e1, hk q (Nat.lt_of_lt_of_le g1 hS.1) (fun z => g2 (hsub q z))]
      exact hS.2.1 q g1 g2, fun q hq => by
      rcases List.mem_append.mp hq with g | g
      · exact hS.2.2 q g
      · exact hsub _ (hL q g)⟩
  have hat2 : z_at D dA A n0 h0 h1 X2 T'.heap := ⟨Nat.le_trans hat.1 hat1.1, fun i hi => (hat1.2.1 i (Nat.lt_of_lt_of_le hi hat.1)).trans (hat.2.1 i hi), hat1.2.2.1, by rw [e1]; exact hat1.2.2.2.1, hat1.2.2.2.2.weaken (fun k q _ g => hsub q.1 g)⟩
  have k2 := kk p l e s m args below meth c D dA A n0 h0 h1 T'.heap ls (locs ++ L) (cells + mc') (slots + ms') C hat2 hS1 (hlv.mv hat1.2.1 hat1.1) (fun v hv => by
      rcases List.mem_append.mp hv with g | g
      · exact hrs v (by simpa using g)
      · exact (hst v g).up hat1.1) (by omega) (by omega)
  obtain ⟨t2, a1, b1⟩ := k2 T' rfl X'
  refine ⟨t2, stp t2 ?_, b1⟩
  have e3 : (r'.toList ++ st).map (z_v h1) = (r'.map (z_v h1)).toList ++ st.map (z_v h) := by
    rw [List.map_append, z_vs_eq hat1.2.1 hst]
    cases r' <;> rfl
  rw [e3] at a1
  exact a1
section ZK
variable {M M' : z_M} {d mc ms rc rs rc' rs' mc' ms' : Nat} {r r' : Option Value} {X X1 X2 : z_X} {pc : Nat} {lv : List (Option Value)} {st stk : List Value} {idx na : Nat} {as : List Value} {o ci : Nat}
theorem z_callV (hd : decode M.2.1 pc = .ok (.invokevirtual idx, 3)) (hl : z_lV M.1.cls idx M' na) (hsp : z_MV M' d mc' ms' (.ref o :: as) X r' X2) (hk : z_k o = (0, ci)) (hci : ci < 12 ∧ z_R ci = M'.1.cls) (hstk : as.reverse ++ .ref o :: st = stk) (hn : as.length = na) (hrest : (st.map fun v => v.category).sum ≤ 8) (hb : mc' + rc' ≤ rc ∧ ms' + rs' ≤ rs)
    (kk : z_V M (d + 1) mc ms rc' rs' r X1 (pc + 3) lv (r'.toList ++ st) X2) : z_V M (d + 1) mc ms rc rs r X1 pc lv stk X := by
  subst hstk
  intro p l e s m args below meth c D dA A n0 h0 h H ls locs cells slots C hat hS hlv hst hc hs
  obtain ⟨hx', hb', hml, hret, hown, hts, hlk, hnm, hK, hA, hnw, hstt⟩ := id C
  have hso : z_sl X.1 (.ref o :: as) := fun v hv => hst v (by
    rcases List.mem_cons.mp hv with rfl | hv
    · exact List.mem_append_right _ List.mem_cons_self
    · exact List.mem_append_left _ (List.mem_reverse.mpr hv))
  have hst' : z_sl X.1 st := fun v hv => hst v (List.mem_append_right _ (List.mem_cons_of_mem _ hv))
  obtain ⟨n, ρ, σ, τ⟩ := X
  have he := z_cell (dA := dA) (h := h) (ρ := ρ) (σ := σ) (τ := τ) hso.hd.of hk
  have hw := hl.1
  refine z_after (a := (as.map (z_v h)).toArray) (va_runV (As := as.map (z_v h)) (rest := st.map (z_v h)) (b := h o) (C := M'.1.cls) (n := na) (Pc := z_Pc dA D h H.size (.ref o :: as) (n, ρ, σ, τ)) (Qc := z_Qc r' X2 D dA (va_A (z_ws dA h (n, ρ, σ, τ)) H.size) n h) ⟨hx', hb', hml, hown, hts⟩ (hsp l D dA h H.size) (cwV na hts (z_good ?_) rfl rfl rfl ⟨rfl, hl.2.1⟩ ⟨?_, ?_⟩) ⟨z_blind, ?_, z_pre C hat hS hso⟩ rfl (by rw [List.length_map]; exact hn) hlv.1 (by simp [z_v]) (lv_room (by rw [z_cats]; exact hrest)) hd ⟨?_, ?_⟩) C hat hS hlv hst' hc hs hb kk
  · intro w h2
    rcases List.mem_append.mp h2 with h2 | h2
    · exact hw w (by simp at h2 ⊢; rcases h2 with h2 | h2 | h2 | h2 <;> simp [h2])
    · rcases List.mem_cons.mp h2 with rfl | h2
      · exact hw _ (by simp [z_cd])
      · exact h2
  · show d + 1 + 1 ≤ d + 1 + 1; omega
  · show 8 + (M'.2.2.1 + 11) + (34 * d + 40) ≤ 34 * (d + 1) + 40
    have := hl.2.2
    omega
  · have := va_recv hK hat.2.2.2.1 (z_cl ci hci.1) he
    rwa [hci.2] at this
  · show cells + mc' ≤ mc; omega
  · show slots + ms' ≤ ms; omega
end ZK
end
section
/-! PART 13: static calls, constructors, the class's tables, copies, new cells -/
section ZS
variable {M M' : z_M} {d mc ms rc rs rc' rs' mc' ms' : Nat} {r r' : Option Value} {X X1 X2 : z_X} {pc : Nat} {lv : List (Option Value)} {st stk : List Value} {idx na : Nat} {as : List Value} {o ci : Nat}
theorem z_callS (hd : decode M.2.1 pc = .ok (.invokestatic idx, 3)) (hl : z_lS M.1.cls idx M' na) (hsp : z_MV M' d mc' ms' as X r' X2) (hstk : as.reverse ++ st = stk) (hn : as.length = na) (hrest : (st.map fun v => v.category).sum ≤ 8) (hb : mc' + rc' ≤ rc ∧ ms' + rs' ≤ rs)
    (kk : z_V M (d + 1) mc ms rc' rs' r X1 (pc + 3) lv (r'.toList ++ st) X2) : z_V M (d + 1) mc ms rc rs r X1 pc lv stk X := by
  subst hstk
  intro p l e s m args below meth c D dA A n0 h0 h H ls locs cells slots C hat hS hlv hst hc hs
  obtain ⟨hx', hb', hml, hret, hown, hts, hlk, hnm, hK, hA, hnw, hstt⟩ := id C
  have hso : z_sl X.1 as := fun v hv => hst v (List.mem_append_left _ (List.mem_reverse.mpr hv))
  have hst' : z_sl X.1 st := fun v hv => hst v (List.mem_append_right _ hv)
  have hw := hl.1
  refine z_after (a := (as.map (z_v h)).toArray) (va_runS (As := as.map (z_v h)) (rest := st.map (z_v h)) (n := na) (Pc := z_Pc dA D h H.size as X) (Qc := z_Qc r' X2 D dA (va_A (z_ws dA h X) H.size) X.1 h) ⟨hx', hb', hml, hown, hts⟩ (hsp l D dA h H.size) ⟨callB_of na hts (z_good ?_) rfl rfl rfl (hts _ (hw _ (by simp))) (hts _ (hw _ (by simp))) hl.2.1 ⟨?_, ?_⟩, hts _ (hw _ (by simp))⟩ ⟨z_blind, z_pre C hat hS hso⟩ rfl (by rw [List.length_map]; exact hn) hlv.1 (by simp) (lv_room (by rw [z_cats]; exact hrest)) hd ⟨?_, ?_⟩) C hat hS hlv hst' hc hs hb kk
  · intro w h2
    rcases List.mem_cons.mp h2 with rfl | h2
    · exact hw _ (by simp [z_cd])
    · exact h2
  · show d + 1 + 1 ≤ d + 1 + 1; omega
  · show 8 + (M'.2.2.1 + 11) + (34 * d + 40) ≤ 34 * (d + 1) + 40
    have := hl.2.2
    omega
  · show cells + mc' ≤ mc; omega
  · show slots + ms' ≤ ms; omega
theorem z_callI (hd : decode M.2.1 pc = .ok (.invokespecial idx, 3)) (hl : z_lI M.1.cls idx M' na) (hsp : z_MV M' d mc' ms' (.ref o :: as) X r' X2) (hstk : as.reverse ++ .ref o :: st = stk) (hn : as.length = na) (hrest : (st.map fun v => v.category).sum ≤ 8) (hb : mc' + rc' ≤ rc ∧ ms' + rs' ≤ rs)
    (kk : z_V M (d + 1) mc ms rc' rs' r X1 (pc + 3) lv (r'.toList ++ st) X2) : z_V M (d + 1) mc ms rc rs r X1 pc lv stk X := by
  subst hstk
  intro p l e s m args below meth c D dA A n0 h0 h H ls locs cells slots C hat hS hlv hst hc hs
  obtain ⟨hx', hb', hml, hret, hown, hts, hlk, hnm, hK, hA, hnw, hstt⟩ := id C
  have hso : z_sl X.1 (.ref o :: as) := fun v hv => hst v (by
    rcases List.mem_cons.mp hv with rfl | hv
    · exact List.mem_append_right _ List.mem_cons_self
    · exact List.mem_append_left _ (List.mem_reverse.mpr hv))
  have hst' : z_sl X.1 st := fun v hv => hst v (List.mem_append_right _ (List.mem_cons_of_mem _ hv))
  obtain ⟨y, cc, mL, rt⟩ := M'
  obtain ⟨hw, ⟨hpl, hmx⟩, hin, hrt⟩ := hl
  have hrt : rt = none := hrt
  subst hrt
  refine z_after (a := (as.map (z_v h)).toArray) (va_runI (As := as.map (z_v h)) (rest := st.map (z_v h)) (b := h o) (n := na) (Pc := z_Pc dA D h H.size (.ref o :: as) X) (Qc := z_Qc r' X2 D dA (va_A (z_ws dA h X) H.size) X.1 h) ⟨hx', hb', hml, hown, hts⟩ (hsp l D dA h H.size) ⟨callB_of na hts (z_good ?_) rfl rfl rfl (hts _ (hw _ (by simp))) (hts _ (hw _ (by simp))) hpl ⟨?_, ?_⟩, hin, hts _ (hw _ (by simp))⟩ ⟨z_blind, z_pre C hat hS hso⟩ rfl (by rw [List.length_map]; exact hn) hlv.1 (by simp [z_v]) (lv_room (by rw [z_cats]; exact hrest)) hd ⟨?_, ?_⟩) C hat hS hlv hst' hc hs hb kk
  · intro w h2
    rcases List.mem_cons.mp h2 with rfl | h2
    · exact hw _ (by simp [z_cd])
    · exact h2
  · show d + 1 + 1 ≤ d + 1 + 1; omega
  · show 8 + (mL + 11) + (34 * d + 40) ≤ 34 * (d + 1) + 40
    have : mL ≤ 15 := hmx
    omega
  · show cells + mc' ≤ mc; omega
  · show slots + ms' ≤ ms; omega
theorem z_callN (hd : decode M.2.1 pc = .ok (.invokespecial idx, 3)) (hl : z_lN M.1.cls idx M' na) (hsp : z_MV M' d mc' ms' (.ref o :: as) X r' X2) (hstk : as.reverse ++ .ref o :: st = stk) (hn : as.length = na) (hrest : (st.map fun v => v.category).sum ≤ 8) (hb : mc' + rc' ≤ rc ∧ ms' + rs' ≤ rs)
    (kk : z_V M (d + 1) mc ms rc' rs' r X1 (pc + 3) lv (r'.toList ++ st) X2) : z_V M (d + 1) mc ms rc rs r X1 pc lv stk X := by
  subst hstk
  intro p l e s m args below meth c D dA A n0 h0 h H ls locs cells slots C hat hS hlv hst hc hs
  obtain ⟨hx', hb', hml, hret, hown, hts, hlk, hnm, hK, hA, hnw, hstt⟩ := id C
  have hso : z_sl X.1 (.ref o :: as) := fun v hv => hst v (by
    rcases List.mem_cons.mp hv with rfl | hv
    · exact List.mem_append_right _ List.mem_cons_self
    · exact List.mem_append_left _ (List.mem_reverse.mpr hv))
  have hst' : z_sl X.1 st := fun v hv => hst v (List.mem_append_right _ (List.mem_cons_of_mem _ hv))
  obtain ⟨y, cc, mL, rt⟩ := M'
  obtain ⟨hnl, hw, ⟨hpl, hmx⟩, hin, hrt⟩ := hl
  have hrt : rt = none := hrt
  subst hrt
  refine z_after (a := (as.map (z_v h)).toArray) (va_runIN (As := as.map (z_v h)) (rest := st.map (z_v h)) (b := h o) (n := na) (host := "TraceTier") (Pc := z_Pc dA D h H.size (.ref o :: as) X) (Qc := z_Qc r' X2 D dA (va_A (z_ws dA h X) H.size) X.1 h) ⟨hx', hb', hml, hown, hts⟩ (hsp l D dA h H.size) ⟨va_cnB na hts (z_good ?_) rfl rfl rfl (hnw.1 _ hnl) (hts _ (hw _ (by simp))) hpl ⟨?_, ?_⟩, hin, hts _ (hw _ (by simp))⟩ ⟨z_blind, z_pre C hat hS hso⟩ rfl (by rw [List.length_map]; exact hn) hlv.1 (by simp [z_v]) (lv_room (by rw [z_cats]; exact hrest)) hd ⟨?_, ?_⟩) C hat hS hlv hst' hc hs hb kk
  · intro w h2
    rcases List.mem_cons.mp h2 with rfl | h2
    · exact hw _ (by simp [z_cd])
    · exact h2
  · show d + 1 + 1 ≤ d + 1 + 1; omega
  · show 8 + (mL + 11) + (34 * d + 40) ≤ 34 * (d + 1) + 40
    have : mL ≤ 15 := hmx
    omega
  · show cells + mc' ≤ mc; omega
  · show slots + ms' ≤ ms; omega
end ZS
section ZT
variable {M : z_M} {d mc ms rc rs : Nat} {r : Option Value} {X1 : z_X} {n : Nat} {ρ : Nat → Nat → Option Nat} {σ : Nat → Nat → Int32} {τ : Nat → Nat → Int64} {pc : Nat} {lv : List (Option Value)} {st : List Value}
/-- getstatic of a table, a local, iaload: three instructions -/
theorem z_tab {idx j : Nat} {nm : String} {f : Nat → Int32} {k : Fin 4} {i : Nat} {x y : Int32} (hd : decode M.2.1 pc = .ok (.getstatic idx, 3)) (hd2 : decode M.2.1 (pc + 3) = .ok (.iload_n k, 1)) (hd3 : decode M.2.1 (pc + 4) = .ok (.iaload, 1)) (hm : (nm, f) ∈ z_sts) (hl : Cond.fieldLinkNest M.1.cls idx "TraceTier" nm "[I" "TraceTier" ∈ z_N) (hi : (k : Nat) = i) (hv : lv[i]? = some (some (.int x))) (hx : x = nI j) (hj : j < 16) (hy : f j = y) {X : z_X}
    (kk : z_V M d mc ms rc rs r X1 (pc + 5) lv (.int y :: st) X) : z_V M d mc ms rc rs r X1 pc lv st X := by
  intro p l e s m args below meth c D dA A n0 h0 h H ls locs cells slots C hat hS hlv hst hc hs
  obtain ⟨hx', hb', hml, hret, hown, hts, hlk, hnm, hK, hA, hnw, hstt⟩ := id C
  obtain ⟨t, hZ, hT⟩ := hstt _ hm
  refine va_getsN hx' hb' hZ hS hown (va_Nw.use rfl (hnw.1 _ hl)) (fun x h => h) hd ?_
  refine lv_iload_n hx' hb' hd2 hi (hlv.2.2 i _ hv).1 ?_
  subst hx
  obtain ⟨cell, g1, g2, g3, g4, g5, g6, g7⟩ := hT
  have g1' : H[t]? = some cell := by rw [hS.2.1 t (Array.getElem?_eq_some_iff.mp g1).1 g7]; exact g1
  have hcl : (nI j).toNatClampNeg = j := nI_clamp (by omega)
  refine W.iald hx' hb' g1' g2 g3 (fun q => ?_) (v := .int y) (by rw [hcl, g6 j hj, ← hy]) rfl rfl hd3 ?_
  · rcases q with q | q
    · exact nI_pos (by omega) q
    · rw [hcl] at q; omega
  · exact kk p l e s m args below meth c D dA A n0 h0 h H ls locs cells slots C hat hS hlv (hst.cons z_sv.int) hc hs
/-- System.arraycopy of ints -/
theorem z_copy {idx a b la lb sp dp k : Nat} {xs xd xn : Int32} (hd : decode M.2.1 pc = .ok (.invokestatic idx, 3)) (hl : ∀ w ∈ ([.methodLink M.1.cls idx arraycopyName, .native arraycopyName, .static arraycopyName, .initialized "java/lang/System"] : List Cond), w ∈ z_G) (hka : z_k a = (1, la)) (hkb : z_k b = (1, lb)) (hxs : xs = nI sp) (hxd : xd = nI dp) (hxn : xn = nI k) (hsa : sp + k ≤ la) (hdb : dp + k ≤ lb) (hst0 : st = [])
    (kk : z_V M d mc ms rc rs r X1 (pc + 3) lv st (n, ρ, z_row σ b (va_cpy (σ a) (σ b) sp dp k), τ)) : z_V M d mc ms rc rs r X1 pc lv (.int xn :: .int xd :: .ref b :: .int xs :: .ref a :: st) (n, ρ, σ, τ) := by
  intro p l e s m args below meth c D dA A n0 h0 h H ls locs cells slots C hat hS hlv hst hc hs
  obtain ⟨hx', hb', hml, hret, hown, hts, hlk, hnm, hK, hA, hnw, hstt⟩ := id C
  have hla := z_len hka
  have hlb := z_len hkb
  have c1 : (nI sp).toNatClampNeg = sp := nI_clamp (by omega)
  have c2 : (nI dp).toNatClampNeg = dp := nI_clamp (by omega)
  have c3 : (nI k).toNatClampNeg = k := nI_clamp (by omega)
  subst hxs; subst hxd; subst hxn; subst hst0
  have hea := z_cell (dA := dA) (h := h) (ρ := ρ) (σ := σ) (τ := τ) hst.tl.tl.tl.tl.hd.of hka
  have heb := z_cell (dA := dA) (h := h) (ρ := ρ) (σ := σ) (τ := τ) hst.tl.tl.hd.of hkb
  refine va_copyi (f := σ a) (g := σ b) (ty := .int) hx' hb' (hml.trans hlv.1.symm) hown (hts _ (hl _ (by simp))) (hts _ (hl _ (by simp))) (hts _ (hl _ (by simp))) (hts _ (hl _ (by simp))) hK hat.2.2.2.1 hat.2.2.2.2 hS a b 0 0 hea heb rfl rfl rfl (nI_pos (by omega)) (nI_pos (by omega)) (nI_pos (by omega)) (by rw [c1, c3]; exact hsa) (by rw [c2, c3]; exact hdb) (fun i hi => rfl) (by show 1 ≤ d + 1; omega) (by show _ + _ ≤ 34 * d + 40; simp [nativeFrameWords]) hd ?_
  intro H1 locs1 hP1 hD1 hS1
  rw [c1, c2, c3] at hP1 hD1
  have ew := z_wRow (dA := dA) (h := h) (n := n) (ρ := ρ) (σ := σ) (τ := τ) (f := va_cpy (σ a) (σ b) sp dp k) (E := z_ent dA h (1, lb) (ρ b) (va_cpy (σ a) (σ b) sp dp k) (τ b)) hkb rfl
  exact kk p l e s m args below meth c D dA A n0 h0 h H1 ls locs1 cells slots C ⟨hat.1, hat.2.1, hat.2.2.1, ew ▸ hP1, ew ▸ hD1⟩ hS1 hlv hst.tl.tl.tl.tl.tl hc hs
end ZT
end
section
/-! PART 14: new cells -/
theorem z_ent_eq {dA : Nat → ClassId} {h h1 : Nat → Nat} {k : Nat × Nat} {f : Nat → Option Nat} {x : Nat → Int32} {t : Nat → Int64} (he : ∀ j i, f j = some i → h1 i = h i) : z_ent dA h1 k f x t = z_ent dA h k f x t := by
  have hm : ∀ j, (f j).map h1 = (f j).map h := fun j => by
    cases hj : f j with
    | none => rfl
    | some i => simp [he j i hj]
  obtain ⟨a, b⟩ := k
  unfold z_ent
  match a with
  | 0 => simp only [hm]
  | 1 => rfl
  | 2 => rfl
  | 3 => rfl
  | a + 4 => simp only [hm]
theorem z_ws_push {dA : Nat → ClassId} {h : Nat → Nat} {n q : Nat} {ρ : Nat → Nat → Option Nat} {σ : Nat → Nat → Int32} {τ : Nat → Nat → Int64} {E : va_E} (hsc : z_sc (n, ρ, σ, τ)) (hn : ρ n = fun _ => none) (hE : z_ent dA h (z_k n) (fun _ => none) (σ n) (τ n) = E) :
    z_ws dA h (n, ρ, σ, τ) ++ [(q, E)] = z_ws dA (va_up h n q) (n + 1, ρ, σ, τ) := by
  unfold z_ws
  show (List.range n).map _ ++ [(q, E)] = (List.range (n + 1)).map _
  rw [z_rpush]
  apply List.map_congr_left
  intro i hi
  have hi := List.mem_range.mp hi
  by_cases hin : i = n
  · subst hin
    simp only [va_up, ↓reduceIte]
    rw [hn, ← hE]
    congr 1
  · have hlt : i < n := by omega
    simp only [va_up, hin, ↓reduceIte]
    congr 1
    exact (z_ent_eq (fun j k hk => by
      have := hsc i hlt j k hk
      have hk : k < n := this
      simp only [va_up]
      rw [if_neg (by omega)])).symm
theorem z_def : ∀ c, c < 12 → ∀ j, j < z_nf c → defaultValue (z_ty c j) = bif z_rf c j then .null else .int 0 := by decide +kernel
theorem z_up_h {h : Nat → Nat} {n q : Nat} : ∀ i, i < n → va_up h n q i = h i := fun i hi => by simp only [va_up]; rw [if_neg (by omega)]
theorem z_sc_up {n : Nat} {ρ : Nat → Nat → Option Nat} {σ : Nat → Nat → Int32} {τ : Nat → Nat → Int64} (hsc : z_sc (n, ρ, σ, τ)) (hn : ρ n = fun _ => none) : z_sc (n + 1, ρ, σ, τ) := by
  intro i hi j k hk
  have hi' : i < n + 1 := hi
  have hk' : ρ i j = some k := hk
  by_cases hin : i = n
  · subst hin
    rw [hn] at hk'
    cases hk'
  · have : k < n := hsc i (show i < n by omega) j k hk'
    show k < n + 1
    omega
section ZN
variable {M : z_M} {d mc ms rc rs rc' rs' : Nat} {r : Option Value} {X1 : z_X} {n : Nat} {ρ : Nat → Nat → Option Nat} {σ : Nat → Nat → Int32} {τ : Nat → Nat → Int64} {pc : Nat} {lv : List (Option Value)} {st : List Value}
theorem z_objInit {idx o : Nat} {X : z_X} (hd : decode M.2.1 pc = .ok (.invokespecial idx, 3)) (hl : ∀ w ∈ ([.methodLink M.1.cls idx Lib.objectInit, .instanceMethod Lib.objectInit, .code Lib.objectInit ⟨#[0xb1]⟩ 1 none] : List Cond), w ∈ z_G) (hst0 : (st.map fun v => v.category).sum ≤ 8) (kk : z_V M d mc ms rc rs r X1 (pc + 3) lv st X) : z_V M d mc ms rc rs r X1 pc lv (.ref o :: st) X := by
  intro p l e s m args below meth c D dA A n0 h0 h H ls locs cells slots C hat hS hlv hst hc hs
  obtain ⟨hx', hb', hml, hret, hown, hts, hlk, hnm, hK, hA, hnw, hstt⟩ := id C
  refine W.objInit hx' hb' hown (hts _ (hl _ (by simp))) (hts _ (hl _ (by simp))) (hts _ (hl _ (by simp))) rfl (hlv.1.trans hml.symm) rfl hd (by show 1 ≤ d + 1; omega) ?_ (kk p l e s m args below meth c D dA A n0 h0 h H ls locs cells slots C hat hS hlv hst.tl hc hs)
  have := lv_room (m := m) (pc := pc) (ls := ls) (rest := (Value.ref o :: st).map (z_v h)) (st := st.map (z_v h)) (by rw [z_cats]; exact hst0)
  show _ + _ + 12 ≤ 34 * d + 40
  omega
theorem z_new {idx ci : Nat} (hd : decode M.2.1 pc = .ok (.new idx, 3)) (hci : ci < 12) (hl : ∀ w ∈ ([.classLink M.1.cls idx (z_R ci), .instantiable (z_R ci) (z_nf ci), .initialized (z_R ci)] : List Cond), w ∈ z_G) (hk : z_k n = (0, ci)) (hρ : ρ n = fun _ => none) (hσ : σ n = fun _ => 0) (hb : 1 + rc' ≤ rc ∧ z_nf ci + rs' ≤ rs)
    (kk : z_V M d mc ms rc' rs' r X1 (pc + 3) lv (.ref n :: st) (n + 1, ρ, σ, τ)) : z_V M d mc ms rc rs r X1 pc lv st (n, ρ, σ, τ) := by
  intro p l e s m args below meth c D dA A n0 h0 h H ls locs cells slots C hat hS hlv hst hc hs
  obtain ⟨hx', hb', hml, hret, hown, hts, hlk, hnm, hK, hA, hnw, hstt⟩ := id C
  refine va_new (ci := ci) (fs := z_fs h ci (fun _ => none) (fun _ => 0)) hx' hb' hts (z_uw ci hci) (z_ty ci) (z_tyok ci hci) hown (hts _ (hl _ (by simp))) (hts _ (hl _ (by simp))) (hts _ (hl _ (by simp))) hK hat.2.2.2.1 hat.2.2.2.2 hS hA (z_cl ci hci) ?_ (by show cells + 1 ≤ mc; omega) (by show slots + z_nf ci ≤ ms; omega) hd ?_
  · intro j hj
    rw [z_def ci hci j hj, vp_V, List.getD_eq_getElem?_getD]
    unfold z_fs
    rw [z_rget _ hj]
    rfl
  · intro q H1 hP1 hD1 hS1
    have ew := z_ws_push (dA := dA) (h := h) (q := q) (E := .inr (ci, z_fs h ci (fun _ => none) (fun _ => 0))) hat.2.2.1 hρ (by rw [hk, hσ]; rfl)
    have kq := kk p l e s m args below meth c D dA A n0 h0 (va_up h n q) H1 ls locs (cells + 1) (slots + z_nf ci) C ⟨Nat.le_succ_of_le hat.1, fun i hi => (z_up_h i (Nat.lt_of_lt_of_le hi hat.1)).trans (hat.2.1 i hi), z_sc_up hat.2.2.1 hρ, ew ▸ hP1, ew ▸ hD1⟩ hS1 (hlv.mv z_up_h (Nat.le_succ n)) (fun v hv => (List.mem_cons.mp hv).elim (fun q => q ▸ z_sv.mk (Nat.lt_succ_self n)) (fun q => (hst v q).up (Nat.le_succ n))) (by omega) (by omega)
    have e3 : (Value.ref n :: st).map (z_v (va_up h n q)) = Value.ref q :: st.map (z_v h) := by
      rw [List.map_cons, z_vs_eq z_up_h hst]
      simp [z_v, va_up]
    rw [e3] at kq
    exact kq
theorem z_arrc {D : va_G} {dA : Nat → ClassId} {s : State} {cA : ClassId} {ty : FieldType} (hK : va_K D vwCl (z_tys dA ++ [(cA, ty)]) s) (i : Nat) (hi : (z_tys dA)[i]? = some (dA i, ty)) (hty : ty = .int ∨ ty = .boolean ∨ ty = .long) : cA = dA i := by
  have h1 := (hK.2 4 (cA, ty) rfl).2
  have h2 := (hK.2 i (dA i, ty) (by rw [List.getElem?_append_left (List.getElem?_eq_some_iff.mp hi).1]; exact hi)).2
  rcases hty with rfl | rfl | rfl <;> exact Option.some.inj (h1.symm.trans h2)
theorem z_newI {N : Nat} {x : Int32} (hd : decode M.2.1 pc = .ok (.newarray .int, 2)) (hl : Cond.arrayClass .int ∈ z_G) (hx : x = nI N) (hk : z_k n = (1, N)) (hρ : ρ n = fun _ => none) (hσ : σ n = fun _ => 0) (hb : 1 + rc' ≤ rc ∧ N + rs' ≤ rs)
    (kk : z_V M d mc ms rc' rs' r X1 (pc + 2) lv (.ref n :: st) (n + 1, ρ, σ, τ)) : z_V M d mc ms rc rs r X1 pc lv (.int x :: st) (n, ρ, σ, τ) := by
  intro p l e s m args below meth c D dA A n0 h0 h H ls locs cells slots C hat hS hlv hst hc hs
  obtain ⟨hx', hb', hml, hret, hown, hts, hlk, hnm, hK, hA, hnw, hstt⟩ := id C
  have hN := z_klen n
  rw [hk] at hN
  have hN : N < 1000 := hN
  subst hx
  refine va_newa (atype := .int) (ty := .int) (a0 := (N, .inl (fun _ => 0))) hx' hb' (hts _ hl) rfl hK hat.2.2.2.1 hat.2.2.2.2 hS hA (fun cA => rfl) (nI_pos (by omega)) (nI_clamp (by omega)) (by show N * 4 ≤ _; omega) (by show cells + 1 ≤ mc; omega) (by show slots + N ≤ ms; omega) hd ?_
  intro q cA H1 hK1 hP1 hD1 hS1
  have hcA : cA = dA 0 := z_arrc hK1 0 rfl (Or.inl rfl)
  subst hcA
  have ew := z_ws_push (dA := dA) (h := h) (q := q) (E := .inl (dA 0, N, .inl (fun _ => 0))) hat.2.2.1 hρ (by rw [hk, hσ]; rfl)
  have kq := kk p l e s m args below meth c D dA A n0 h0 (va_up h n q) H1 ls locs (cells + 1) (slots + N) C ⟨Nat.le_succ_of_le hat.1, fun i hi => (z_up_h i (Nat.lt_of_lt_of_le hi hat.1)).trans (hat.2.1 i hi), z_sc_up hat.2.2.1 hρ, ew ▸ hP1, ew ▸ hD1⟩ hS1 (hlv.mv z_up_h (Nat.le_succ n)) (fun v hv => (List.mem_cons.mp hv).elim (fun q => q ▸ z_sv.mk (Nat.lt_succ_self n)) (fun q => (hst.tl v q).up (Nat.le_succ n))) (by omega) (by omega)
  have e3 : (Value.ref n :: st).map (z_v (va_up h n q)) = Value.ref q :: st.map (z_v h) := by
    rw [List.map_cons, z_vs_eq z_up_h hst.tl]
    simp [z_v, va_up]
  rw [e3] at kq
  exact kq
theorem z_newZ {N : Nat} {x : Int32} (hd : decode M.2.1 pc = .ok (.newarray .boolean, 2)) (hl : Cond.arrayClass .boolean ∈ z_G) (hx : x = nI N) (hk : z_k n = (2, N)) (hρ : ρ n = fun _ => none) (hσ : σ n = fun _ => 0) (hb : 1 + rc' ≤ rc ∧ N + rs' ≤ rs)
    (kk : z_V M d mc ms rc' rs' r X1 (pc + 2) lv (.ref n :: st) (n + 1, ρ, σ, τ)) : z_V M d mc ms rc rs r X1 pc lv (.int x :: st) (n, ρ, σ, τ) := by
  intro p l e s m args below meth c D dA A n0 h0 h H ls locs cells slots C hat hS hlv hst hc hs
  obtain ⟨hx', hb', hml, hret, hown, hts, hlk, hnm, hK, hA, hnw, hstt⟩ := id C
  have hN := z_klen n
  rw [hk] at hN
  have hN : N < 1000 := hN
  subst hx
  refine va_newa (atype := .boolean) (ty := .boolean) (a0 := (N, .inl (fun _ => 0))) hx' hb' (hts _ hl) rfl hK hat.2.2.2.1 hat.2.2.2.2 hS hA (fun cA => rfl) (nI_pos (by omega)) (nI_clamp (by omega)) (by show N * 1 ≤ _; omega) (by show cells + 1 ≤ mc; omega) (by show slots + N ≤ ms; omega) hd ?_
  intro q cA H1 hK1 hP1 hD1 hS1
  have hcA : cA = dA 1 := z_arrc hK1 1 rfl (Or.inr (Or.inl rfl))
  subst hcA
  have ew := z_ws_push (dA := dA) (h := h) (q := q) (E := .inl (dA 1, N, .inl (fun _ => 0))) hat.2.2.1 hρ (by rw [hk, hσ]; rfl)
  have kq := kk p l e s m args below meth c D dA A n0 h0 (va_up h n q) H1 ls locs (cells + 1) (slots + N) C ⟨Nat.le_succ_of_le hat.1, fun i hi => (z_up_h i (Nat.lt_of_lt_of_le hi hat.1)).trans (hat.2.1 i hi), z_sc_up hat.2.2.1 hρ, ew ▸ hP1, ew ▸ hD1⟩ hS1 (hlv.mv z_up_h (Nat.le_succ n)) (fun v hv => (List.mem_cons.mp hv).elim (fun q => q ▸ z_sv.mk (Nat.lt_succ_self n)) (fun q => (hst.tl v q).up (Nat.le_succ n))) (by omega) (by omega)
  have e3 : (Value.ref n :: st).map (z_v (va_up h n q)) = Value.ref q :: st.map (z_v h) := by
    rw [List.map_cons, z_vs_eq z_up_h hst.tl]
    simp [z_v, va_up]
  rw [e3] at kq
  exact kq
theorem z_aast {i len j o ci : Nat} {x : Int32} (hd : decode M.2.1 pc = .ok (.aastore, 1)) (hk : z_k i = (4, len)) (hx : x = nI j) (hj : j < len) (hko : z_k o = (0, 7)) (kk : z_V M d mc ms rc rs r X1 (pc + 1) lv st (n, z_up ρ i j (some o), σ, τ)) : z_V M d mc ms rc rs r X1 pc lv (.ref o :: .int x :: .ref i :: st) (n, ρ, σ, τ) := by
  intro p l e s m args below meth c D dA A n0 h0 h H ls locs cells slots C hat hS hlv hst hc hs
  have he := z_cell (dA := dA) (h := h) (ρ := ρ) (σ := σ) (τ := τ) hst.tl.tl.hd.of hk
  have heo := z_cell (dA := dA) (h := h) (ρ := ρ) (σ := σ) (τ := τ) hst.hd.of hko
  obtain ⟨hx', hb, hml, hret, hown, hts, hlk, hnm, hK, hA, hnw, hstt⟩ := id C
  obtain ⟨hin, hcl⟩ := z_in hk hx hj
  refine va_astq hx' hb hK hat.2.2.2.1 hat.2.2.2.2 hS i 3 o 7 (r := (RX7, TX7, 10)) (f := fun j => (ρ i j).map h) he rfl heo rfl hin hd ?_
  intro H1 locs1 hP1 hD1 hS1
  rw [hcl] at hP1 hD1
  have e4 : va_up (fun j => (ρ i j).map h) j (some (h o)) = fun a => (va_up (ρ i) j (some o) a).map h := by
    funext a
    by_cases ha : a = j <;> simp [va_up, ha]
  rw [e4] at hP1 hD1
  obtain ⟨hP1, hD1⟩ := z_PR (j := j) (o := some o) hk rfl hP1 hD1
  exact kk p l e s m args below meth c D dA A n0 h0 h H1 ls locs1 cells slots C ⟨hat.1, hat.2.1, z_scR hat.2.2.1 hst.hd.of, hP1, hD1⟩ hS1 hlv hst.tl.tl.tl hc hs
theorem z_newQ {idx N : Nat} {x : Int32} (hd : decode M.2.1 pc = .ok (.anewarray idx, 3)) (hl : Cond.classLink M.1.cls idx "TraceTier$Trace" ∈ z_G) (hx : x = nI N) (hk : z_k n = (4, N)) (hρ : ρ n = fun _ => none) (hb : 1 + rc' ≤ rc ∧ N + rs' ≤ rs)
    (kk : z_V M d mc ms rc' rs' r X1 (pc + 3) lv (.ref n :: st) (n + 1, ρ, σ, τ)) : z_V M d mc ms rc rs r X1 pc lv (.int x :: st) (n, ρ, σ, τ) := by
  intro p l e s m args below meth c D dA A n0 h0 h H ls locs cells slots C hat hS hlv hst hc hs
  obtain ⟨hx', hb', hml, hret, hown, hts, hlk, hnm, hK, hA, hnw, hstt⟩ := id C
  have hN := z_klen n
  rw [hk] at hN
  have hN : N < 1000 := hN
  subst hx
  refine va_newq hx' hb' hown (hts _ hl) hnw.2 hK hat.2.2.2.1 hat.2.2.2.2 hS hA (nI_pos (by omega)) (nI_clamp (by omega)) (by omega) (by show cells + 1 ≤ mc; omega) (by show slots + N ≤ ms; omega) hd ?_
  intro q cA H1 hK1 hP1 hD1 hS1
  have hcA : cA = dA 3 := by
    obtain ⟨_, _, _, _, _, h1⟩ := (hK1.2 4 (cA, .object "TraceTier$Trace") rfl).2
    obtain ⟨_, _, _, _, _, h2⟩ := (hK.2 3 (dA 3, .object "TraceTier$Trace") rfl).2
    exact Option.some.inj (h1.symm.trans h2)
  subst hcA
  have ew := z_ws_push (dA := dA) (h := h) (q := q) (E := .inl (dA 3, N, .inr (.inr (.inr (.inr (fun _ => none)))))) hat.2.2.1 hρ (by rw [hk]; rfl)
  have kq := kk p l e s m args below meth c D dA A n0 h0 (va_up h n q) H1 ls locs (cells + 1) (slots + N) C ⟨Nat.le_succ_of_le hat.1, fun i hi => (z_up_h i (Nat.lt_of_lt_of_le hi hat.1)).trans (hat.2.1 i hi), z_sc_up hat.2.2.1 hρ, ew ▸ hP1, ew ▸ hD1⟩ hS1 (hlv.mv z_up_h (Nat.le_succ n)) (fun v hv => (List.mem_cons.mp hv).elim (fun q => q ▸ z_sv.mk (Nat.lt_succ_self n)) (fun q => (hst.tl v q).up (Nat.le_succ n))) (by omega) (by omega)
  have e3 : (Value.ref n :: st).map (z_v (va_up h n q)) = Value.ref q :: st.map (z_v h) := by
    rw [List.map_cons, z_vs_eq z_up_h hst.tl]
    simp [z_v, va_up]
  rw [e3] at kq
  exact kq
end ZN
end
section
/-! PART 15: the methods, the links -/
abbrev M_J7_fill_53178 : z_M := (yJ7_fill_53178, cJ7_fill_53178, 4, none)
theorem pn_J7_fill_53178 : plainName M_J7_fill_53178.1.cls = true := by decide +kernel
abbrev M_J9_floorMod_7cf53 : z_M := (yJ9_floorMod_7cf53, cJ9_floorMod_7cf53, 3, (some .int))
abbrev M_X0_append : z_M := (yX0_append, cX0_append, 3, none)
theorem pn_X0_append : plainName M_X0_append.1.cls = true := by decide +kernel
abbrev M_X0_init : z_M := (yX0_init, cX0_init, 1, none)
theorem pn_X0_init : plainName M_X0_init.1.cls = true := by decide +kernel
abbrev M_X0_isInstruction : z_M := (yX0_isInstruction, cX0_isInstruction, 2, (some .boolean))
theorem pn_X0_isInstruction : plainName M_X0_isInstruction.1.cls = true := by decide +kernel
abbrev M_X0_isSound : z_M := (yX0_isSound, cX0_isSound, 3, (some .boolean))
theorem pn_X0_isSound : plainName M_X0_isSound.1.cls = true := by decide +kernel
abbrev M_X0_leadsOnWell : z_M := (yX0_leadsOnWell, cX0_leadsOnWell, 7, (some .boolean))
theorem pn_X0_leadsOnWell : plainName M_X0_leadsOnWell.1.cls = true := by decide +kernel
abbrev M_X0_reach : z_M := (yX0_reach, cX0_reach, 3, (some .boolean))
theorem pn_X0_reach : plainName M_X0_reach.1.cls = true := by decide +kernel
abbrev M_X10_add : z_M := (yX10_add, cX10_add, 3, (some .int))
theorem pn_X10_add : plainName M_X10_add.1.cls = true := by decide +kernel
abbrev M_X10_begin : z_M := (yX10_begin, cX10_begin, 5, (some .boolean))
theorem pn_X10_begin : plainName M_X10_begin.1.cls = true := by decide +kernel
abbrev M_X10_clear : z_M := (yX10_clear, cX10_clear, 2, (some .int))
theorem pn_X10_clear : plainName M_X10_clear.1.cls = true := by decide +kernel
abbrev M_X10_count : z_M := (yX10_count, cX10_count, 2, (some .int))
theorem pn_X10_count : plainName M_X10_count.1.cls = true := by decide +kernel
abbrev M_X10_countJumpTo : z_M := (yX10_countJumpTo, cX10_countJumpTo, 2, none)
theorem pn_X10_countJumpTo : plainName M_X10_countJumpTo.1.cls = true := by decide +kernel
abbrev M_X10_execute : z_M := (yX10_execute, cX10_execute, 6, (some .boolean))
theorem pn_X10_execute : plainName M_X10_execute.1.cls = true := by decide +kernel
abbrev M_X10_forgetProgram : z_M := (yX10_forgetProgram, cX10_forgetProgram, 1, none)
theorem pn_X10_forgetProgram : plainName M_X10_forgetProgram.1.cls = true := by decide +kernel
abbrev M_X10_giveUpRecording : z_M := (yX10_giveUpRecording, cX10_giveUpRecording, 1, none)
theorem pn_X10_giveUpRecording : plainName M_X10_giveUpRecording.1.cls = true := by decide +kernel
abbrev M_X10_halt : z_M := (yX10_halt, cX10_halt, 1, none)
theorem pn_X10_halt : plainName M_X10_halt.1.cls = true := by decide +kernel
abbrev M_X10_init : z_M := (yX10_init, cX10_init, 2, none)
theorem pn_X10_init : plainName M_X10_init.1.cls = true := by decide +kernel
abbrev M_X10_interpret : z_M := (yX10_interpret, cX10_interpret, 3, none)
theorem pn_X10_interpret : plainName M_X10_interpret.1.cls = true := by decide +kernel
abbrev M_X10_keepTrace : z_M := (yX10_keepTrace, cX10_keepTrace, 1, none)
theorem pn_X10_keepTrace : plainName M_X10_keepTrace.1.cls = true := by decide +kernel
abbrev M_X10_local : z_M := (yX10_local, cX10_local, 2, (some .int))
theorem pn_X10_local : plainName M_X10_local.1.cls = true := by decide +kernel
abbrev M_X10_out : z_M := (yX10_out, cX10_out, 2, (some .int))
theorem pn_X10_out : plainName M_X10_out.1.cls = true := by decide +kernel
abbrev M_X10_outs : z_M := (yX10_outs, cX10_outs, 1, (some .int))
theorem pn_X10_outs : plainName M_X10_outs.1.cls = true := by decide +kernel
abbrev M_X10_place : z_M := (yX10_place, cX10_place, 3, (some .int))
theorem pn_X10_place : plainName M_X10_place.1.cls = true := by decide +kernel
abbrev M_X10_run : z_M := (yX10_run, cX10_run, 3, (some .int))
theorem pn_X10_run : plainName M_X10_run.1.cls = true := by decide +kernel
abbrev M_X10_step : z_M := (yX10_step, cX10_step, 2, none)
theorem pn_X10_step : plainName M_X10_step.1.cls = true := by decide +kernel
abbrev M_X10_takeTurn : z_M := (yX10_takeTurn, cX10_takeTurn, 4, none)
theorem pn_X10_takeTurn : plainName M_X10_takeTurn.1.cls = true := by decide +kernel
abbrev M_X10_top : z_M := (yX10_top, cX10_top, 2, (some .int))
theorem pn_X10_top : plainName M_X10_top.1.cls = true := by decide +kernel
abbrev M_X10_trace : z_M := (yX10_trace, cX10_trace, 4, (some .int))
theorem pn_X10_trace : plainName M_X10_trace.1.cls = true := by decide +kernel
abbrev M_X11_add : z_M := (yX11_add, cX11_add, 4, (some .int))
theorem pn_X11_add : plainName M_X11_add.1.cls = true := by decide +kernel
abbrev M_X11_begin : z_M := (yX11_begin, cX11_begin, 5, (some .boolean))
theorem pn_X11_begin : plainName M_X11_begin.1.cls = true := by decide +kernel
abbrev M_X11_calculated : z_M := (yX11_calculated, cX11_calculated, 4, (some .int))
theorem pn_X11_calculated : plainName M_X11_calculated.1.cls = true := by decide +kernel
abbrev M_X11_clear : z_M := (yX11_clear, cX11_clear, 2, (some .int))
theorem pn_X11_clear : plainName M_X11_clear.1.cls = true := by decide +kernel
abbrev M_X11_count : z_M := (yX11_count, cX11_count, 2, (some .int))
theorem pn_X11_count : plainName M_X11_count.1.cls = true := by decide +kernel
abbrev M_X11_does : z_M := (yX11_does, cX11_does, 5, (some .int))
theorem pn_X11_does : plainName M_X11_does.1.cls = true := by decide +kernel
abbrev M_X11_fail : z_M := (yX11_fail, cX11_fail, 2, (some .int))
theorem pn_X11_fail : plainName M_X11_fail.1.cls = true := by decide +kernel
abbrev M_X11_fresh : z_M := (yX11_fresh, cX11_fresh, 2, none)
theorem pn_X11_fresh : plainName M_X11_fresh.1.cls = true := by decide +kernel
abbrev M_X11_give : z_M := (yX11_give, cX11_give, 3, none)
theorem pn_X11_give : plainName M_X11_give.1.cls = true := by decide +kernel
abbrev M_X11_giveUp : z_M := (yX11_giveUp, cX11_giveUp, 2, none)
theorem pn_X11_giveUp : plainName M_X11_giveUp.1.cls = true := by decide +kernel
abbrev M_X11_hot : z_M := (yX11_hot, cX11_hot, 2, none)
theorem pn_X11_hot : plainName M_X11_hot.1.cls = true := by decide +kernel
abbrev M_X11_init : z_M := (yX11_init, cX11_init, 1, none)
theorem pn_X11_init : plainName M_X11_init.1.cls = true := by decide +kernel
abbrev M_X11_interpret : z_M := (yX11_interpret, cX11_interpret, 5, none)
theorem pn_X11_interpret : plainName M_X11_interpret.1.cls = true := by decide +kernel
abbrev M_X11_keep : z_M := (yX11_keep, cX11_keep, 5, none)
theorem pn_X11_keep : plainName M_X11_keep.1.cls = true := by decide +kernel
abbrev M_X11_leads : z_M := (yX11_leads, cX11_leads, 3, (some .boolean))
theorem pn_X11_leads : plainName M_X11_leads.1.cls = true := by decide +kernel
abbrev M_X11_leaves : z_M := (yX11_leaves, cX11_leaves, 1, (some .int))
theorem pn_X11_leaves : plainName M_X11_leaves.1.cls = true := by decide +kernel
abbrev M_X11_local : z_M := (yX11_local, cX11_local, 2, (some .int))
theorem pn_X11_local : plainName M_X11_local.1.cls = true := by decide +kernel
abbrev M_X11_makeTrace : z_M := (yX11_makeTrace, cX11_makeTrace, 3, none)
theorem pn_X11_makeTrace : plainName M_X11_makeTrace.1.cls = true := by decide +kernel
abbrev M_X11_out : z_M := (yX11_out, cX11_out, 2, (some .int))
theorem pn_X11_out : plainName M_X11_out.1.cls = true := by decide +kernel
abbrev M_X11_outs : z_M := (yX11_outs, cX11_outs, 1, (some .int))
theorem pn_X11_outs : plainName M_X11_outs.1.cls = true := by decide +kernel
abbrev M_X11_picture : z_M := (yX11_picture, cX11_picture, 2, none)
theorem pn_X11_picture : plainName M_X11_picture.1.cls = true := by decide +kernel
abbrev M_X11_place : z_M := (yX11_place, cX11_place, 3, (some .int))
theorem pn_X11_place : plainName M_X11_place.1.cls = true := by decide +kernel
abbrev M_X11_pop : z_M := (yX11_pop, cX11_pop, 1, (some .int))
theorem pn_X11_pop : plainName M_X11_pop.1.cls = true := by decide +kernel
abbrev M_X11_push : z_M := (yX11_push, cX11_push, 2, none)
theorem pn_X11_push : plainName M_X11_push.1.cls = true := by decide +kernel
abbrev M_X11_run : z_M := (yX11_run, cX11_run, 4, (some .int))
theorem pn_X11_run : plainName M_X11_run.1.cls = true := by decide +kernel
abbrev M_X11_sound : z_M := (yX11_sound, cX11_sound, 6, (some .boolean))
theorem pn_X11_sound : plainName M_X11_sound.1.cls = true := by decide +kernel
abbrev M_X11_takes : z_M := (yX11_takes, cX11_takes, 1, (some .int))
theorem pn_X11_takes : plainName M_X11_takes.1.cls = true := by decide +kernel
abbrev M_X11_through : z_M := (yX11_through, cX11_through, 8, (some .int))
theorem pn_X11_through : plainName M_X11_through.1.cls = true := by decide +kernel
abbrev M_X11_thrown : z_M := (yX11_thrown, cX11_thrown, 1, (some .int))
theorem pn_X11_thrown : plainName M_X11_thrown.1.cls = true := by decide +kernel
abbrev M_X11_top : z_M := (yX11_top, cX11_top, 2, (some .int))
theorem pn_X11_top : plainName M_X11_top.1.cls = true := by decide +kernel
abbrev M_X11_trace : z_M := (yX11_trace, cX11_trace, 3, (some .int))
theorem pn_X11_trace : plainName M_X11_trace.1.cls = true := by decide +kernel
abbrev M_X11_traceOf : z_M := (yX11_traceOf, cX11_traceOf, 4, (some .int))
theorem pn_X11_traceOf : plainName M_X11_traceOf.1.cls = true := by decide +kernel
abbrev M_X11_turn : z_M := (yX11_turn, cX11_turn, 7, none)
theorem pn_X11_turn : plainName M_X11_turn.1.cls = true := by decide +kernel
abbrev M_X11_valueOf : z_M := (yX11_valueOf, cX11_valueOf, 6, (some .int))
theorem pn_X11_valueOf : plainName M_X11_valueOf.1.cls = true := by decide +kernel
abbrev M_X11_within : z_M := (yX11_within, cX11_within, 3, (some .boolean))
theorem pn_X11_within : plainName M_X11_within.1.cls = true := by decide +kernel
abbrev M_X11_worked : z_M := (yX11_worked, cX11_worked, 3, (some .int))
theorem pn_X11_worked : plainName M_X11_worked.1.cls = true := by decide +kernel
abbrev M_X1_init : z_M := (yX1_init, cX1_init, 1, none)
theorem pn_X1_init : plainName M_X1_init.1.cls = true := by decide +kernel
abbrev M_X1_move : z_M := (yX1_move, cX1_move, 6, none)
theorem pn_X1_move : plainName M_X1_move.1.cls = true := by decide +kernel
abbrev M_X1_pop : z_M := (yX1_pop, cX1_pop, 1, (some .int))
theorem pn_X1_pop : plainName M_X1_pop.1.cls = true := by decide +kernel
abbrev M_X1_push : z_M := (yX1_push, cX1_push, 2, none)
theorem pn_X1_push : plainName M_X1_push.1.cls = true := by decide +kernel
abbrev M_X1_reset : z_M := (yX1_reset, cX1_reset, 1, none)
theorem pn_X1_reset : plainName M_X1_reset.1.cls = true := by decide +kernel
abbrev M_X2_back : z_M := (yX2_back, cX2_back, 2, (some .int))
theorem pn_X2_back : plainName M_X2_back.1.cls = true := by decide +kernel
abbrev M_X2_give : z_M := (yX2_give, cX2_give, 2, none)
theorem pn_X2_give : plainName M_X2_give.1.cls = true := by decide +kernel
abbrev M_X2_init : z_M := (yX2_init, cX2_init, 1, none)
theorem pn_X2_init : plainName M_X2_init.1.cls = true := by decide +kernel
abbrev M_X2_keeps : z_M := (yX2_keeps, cX2_keeps, 2, (some .boolean))
theorem pn_X2_keeps : plainName M_X2_keeps.1.cls = true := by decide +kernel
abbrev M_X2_reset : z_M := (yX2_reset, cX2_reset, 1, none)
theorem pn_X2_reset : plainName M_X2_reset.1.cls = true := by decide +kernel
abbrev M_X3_has : z_M := (yX3_has, cX3_has, 4, (some .boolean))
theorem pn_X3_has : plainName M_X3_has.1.cls = true := by decide +kernel
abbrev M_X3_holds : z_M := (yX3_holds, cX3_holds, 3, (some .boolean))
theorem pn_X3_holds : plainName M_X3_holds.1.cls = true := by decide +kernel
abbrev M_X3_init : z_M := (yX3_init, cX3_init, 1, none)
theorem pn_X3_init : plainName M_X3_init.1.cls = true := by decide +kernel
abbrev M_X3_put : z_M := (yX3_put, cX3_put, 6, (some .int))
theorem pn_X3_put : plainName M_X3_put.1.cls = true := by decide +kernel
abbrev M_X3_restore : z_M := (yX3_restore, cX3_restore, 6, none)
theorem pn_X3_restore : plainName M_X3_restore.1.cls = true := by decide +kernel
abbrev M_X4_init : z_M := (yX4_init, cX4_init, 1, none)
theorem pn_X4_init : plainName M_X4_init.1.cls = true := by decide +kernel
abbrev M_X4_reset : z_M := (yX4_reset, cX4_reset, 1, none)
theorem pn_X4_reset : plainName M_X4_reset.1.cls = true := by decide +kernel
abbrev M_X5_closesAt : z_M := (yX5_closesAt, cX5_closesAt, 2, (some .boolean))
theorem pn_X5_closesAt : plainName M_X5_closesAt.1.cls = true := by decide +kernel
abbrev M_X5_init : z_M := (yX5_init, cX5_init, 1, none)
theorem pn_X5_init : plainName M_X5_init.1.cls = true := by decide +kernel
abbrev M_X5_isFull : z_M := (yX5_isFull, cX5_isFull, 1, (some .boolean))
theorem pn_X5_isFull : plainName M_X5_isFull.1.cls = true := by decide +kernel
abbrev M_X5_isOn : z_M := (yX5_isOn, cX5_isOn, 1, (some .boolean))
theorem pn_X5_isOn : plainName M_X5_isOn.1.cls = true := by decide +kernel
abbrev M_X5_note : z_M := (yX5_note, cX5_note, 3, none)
theorem pn_X5_note : plainName M_X5_note.1.cls = true := by decide +kernel
abbrev M_X5_startAt : z_M := (yX5_startAt, cX5_startAt, 2, none)
theorem pn_X5_startAt : plainName M_X5_startAt.1.cls = true := by decide +kernel
abbrev M_X5_stop : z_M := (yX5_stop, cX5_stop, 1, none)
theorem pn_X5_stop : plainName M_X5_stop.1.cls = true := by decide +kernel
abbrev M_X6_init : z_M := (yX6_init, cX6_init, 1, none)
theorem pn_X6_init : plainName M_X6_init.1.cls = true := by decide +kernel
abbrev M_X6_reset : z_M := (yX6_reset, cX6_reset, 1, none)
theorem pn_X6_reset : plainName M_X6_reset.1.cls = true := by decide +kernel
abbrev M_X7_bodyOperations : z_M := (yX7_bodyOperations, cX7_bodyOperations, 1, (some .int))
theorem pn_X7_bodyOperations : plainName M_X7_bodyOperations.1.cls = true := by decide +kernel
abbrev M_X7_countStaying : z_M := (yX7_countStaying, cX7_countStaying, 3, (some .int))
theorem pn_X7_countStaying : plainName M_X7_countStaying.1.cls = true := by decide +kernel
abbrev M_X7_doBody : z_M := (yX7_doBody, cX7_doBody, 6, (some .boolean))
theorem pn_X7_doBody : plainName M_X7_doBody.1.cls = true := by decide +kernel
abbrev M_X7_doHead : z_M := (yX7_doHead, cX7_doHead, 3, none)
theorem pn_X7_doHead : plainName M_X7_doHead.1.cls = true := by decide +kernel
abbrev M_X7_init : z_M := (yX7_init, cX7_init, 1, none)
theorem pn_X7_init : plainName M_X7_init.1.cls = true := by decide +kernel
abbrev M_X7_putInBody : z_M := (yX7_putInBody, cX7_putInBody, 3, none)
theorem pn_X7_putInBody : plainName M_X7_putInBody.1.cls = true := by decide +kernel
abbrev M_X7_putInHead : z_M := (yX7_putInHead, cX7_putInHead, 2, none)
theorem pn_X7_putInHead : plainName M_X7_putInHead.1.cls = true := by decide +kernel
abbrev M_X7_resetAt : z_M := (yX7_resetAt, cX7_resetAt, 2, none)
theorem pn_X7_resetAt : plainName M_X7_resetAt.1.cls = true := by decide +kernel
abbrev M_X7_stays : z_M := (yX7_stays, cX7_stays, 2, (some .boolean))
theorem pn_X7_stays : plainName M_X7_stays.1.cls = true := by decide +kernel
abbrev M_X8_came : z_M := (yX8_came, cX8_came, 3, none)
theorem pn_X8_came : plainName M_X8_came.1.cls = true := by decide +kernel
abbrev M_X8_combine : z_M := (yX8_combine, cX8_combine, 7, (some .int))
theorem pn_X8_combine : plainName M_X8_combine.1.cls = true := by decide +kernel
abbrev M_X8_follow : z_M := (yX8_follow, cX8_follow, 10, none)
theorem pn_X8_follow : plainName M_X8_follow.1.cls = true := by decide +kernel
abbrev M_X8_forgetLast : z_M := (yX8_forgetLast, cX8_forgetLast, 2, none)
theorem pn_X8_forgetLast : plainName M_X8_forgetLast.1.cls = true := by decide +kernel
abbrev M_X8_guard : z_M := (yX8_guard, cX8_guard, 6, none)
theorem pn_X8_guard : plainName M_X8_guard.1.cls = true := by decide +kernel
abbrev M_X8_init : z_M := (yX8_init, cX8_init, 1, none)
theorem pn_X8_init : plainName M_X8_init.1.cls = true := by decide +kernel
abbrev M_X8_make : z_M := (yX8_make, cX8_make, 6, none)
theorem pn_X8_make : plainName M_X8_make.1.cls = true := by decide +kernel
abbrev M_X8_markConstant : z_M := (yX8_markConstant, cX8_markConstant, 4, none)
theorem pn_X8_markConstant : plainName M_X8_markConstant.1.cls = true := by decide +kernel
abbrev M_X8_markParts : z_M := (yX8_markParts, cX8_markParts, 3, none)
theorem pn_X8_markParts : plainName M_X8_markParts.1.cls = true := by decide +kernel
abbrev M_X8_sortOut : z_M := (yX8_sortOut, cX8_sortOut, 5, none)
theorem pn_X8_sortOut : plainName M_X8_sortOut.1.cls = true := by decide +kernel
abbrev M_X9_init : z_M := (yX9_init, cX9_init, 1, none)
theorem pn_X9_init : plainName M_X9_init.1.cls = true := by decide +kernel
abbrev M_X9_isNumber : z_M := (yX9_isNumber, cX9_isNumber, 2, (some .boolean))
theorem pn_X9_isNumber : plainName M_X9_isNumber.1.cls = true := by decide +kernel
abbrev M_X9_isOperation : z_M := (yX9_isOperation, cX9_isOperation, 2, (some .boolean))
theorem pn_X9_isOperation : plainName M_X9_isOperation.1.cls = true := by decide +kernel
abbrev M_X9_reset : z_M := (yX9_reset, cX9_reset, 2, none)
theorem pn_X9_reset : plainName M_X9_reset.1.cls = true := by decide +kernel
abbrev M_X9_result : z_M := (yX9_result, cX9_result, 3, (some .int))
theorem pn_X9_result : plainName M_X9_result.1.cls = true := by decide +kernel
abbrev M_X9_share : z_M := (yX9_share, cX9_share, 5, (some .int))
theorem pn_X9_share : plainName M_X9_share.1.cls = true := by decide +kernel
abbrev M_X9_takeLocals : z_M := (yX9_takeLocals, cX9_takeLocals, 2, none)
theorem pn_X9_takeLocals : plainName M_X9_takeLocals.1.cls = true := by decide +kernel
abbrev M_X9_work : z_M := (yX9_work, cX9_work, 2, none)
theorem pn_X9_work : plainName M_X9_work.1.cls = true := by decide +kernel
theorem ol_X10_3 : ∀ w ∈ ([.methodLink RX10 3 Lib.objectInit, .instanceMethod Lib.objectInit, .code Lib.objectInit ⟨#[0xb1]⟩ 1 none] : List Cond), w ∈ z_G := by decide +kernel
theorem nl_X10_9 : ∀ w ∈ ([.classLink RX10 9 (z_R 0), .instantiable (z_R 0) (z_nf 0), .initialized (z_R 0)] : List Cond), w ∈ z_G := by decide +kernel
theorem ml_X10_11 : z_lN RX10 11 M_X0_init 0 := by unfold z_lN z_pl; decide +kernel
theorem fl_X10_12 : z_fl RX10 12 10 0 := by unfold z_fl; decide +kernel
theorem nl_X10_16 : ∀ w ∈ ([.classLink RX10 16 (z_R 1), .instantiable (z_R 1) (z_nf 1), .initialized (z_R 1)] : List Cond), w ∈ z_G := by decide +kernel
theorem ml_X10_18 : z_lN RX10 18 M_X1_init 0 := by unfold z_lN z_pl; decide +kernel
theorem fl_X10_19 : z_fl RX10 19 10 1 := by unfold z_fl; decide +kernel
theorem nl_X10_23 : ∀ w ∈ ([.classLink RX10 23 (z_R 2), .instantiable (z_R 2) (z_nf 2), .initialized (z_R 2)] : List Cond), w ∈ z_G := by decide +kernel
theorem ml_X10_25 : z_lN RX10 25 M_X2_init 0 := by unfold z_lN z_pl; decide +kernel
theorem fl_X10_26 : z_fl RX10 26 10 2 := by unfold z_fl; decide +kernel
theorem nl_X10_30 : ∀ w ∈ ([.classLink RX10 30 (z_R 6), .instantiable (z_R 6) (z_nf 6), .initialized (z_R 6)] : List Cond), w ∈ z_G := by decide +kernel
theorem ml_X10_32 : z_lN RX10 32 M_X6_init 0 := by unfold z_lN z_pl; decide +kernel
theorem fl_X10_33 : z_fl RX10 33 10 3 := by unfold z_fl; decide +kernel
theorem nl_X10_37 : ∀ w ∈ ([.classLink RX10 37 (z_R 4), .instantiable (z_R 4) (z_nf 4), .initialized (z_R 4)] : List Cond), w ∈ z_G := by decide +kernel
theorem ml_X10_39 : z_lN RX10 39 M_X4_init 0 := by unfold z_lN z_pl; decide +kernel
theorem fl_X10_40 : z_fl RX10 40 10 4 := by unfold z_fl; decide +kernel
theorem nl_X10_44 : ∀ w ∈ ([.classLink RX10 44 (z_R 5), .instantiable (z_R 5) (z_nf 5), .initialized (z_R 5)] : List Cond), w ∈ z_G := by decide +kernel
theorem ml_X10_46 : z_lN RX10 46 M_X5_init 0 := by unfold z_lN z_pl; decide +kernel
theorem fl_X10_47 : z_fl RX10 47 10 5 := by unfold z_fl; decide +kernel
theorem nl_X10_51 : ∀ w ∈ ([.classLink RX10 51 (z_R 8), .instantiable (z_R 8) (z_nf 8), .initialized (z_R 8)] : List Cond), w ∈ z_G := by decide +kernel
theorem ml_X10_53 : z_lN RX10 53 M_X8_init 0 := by unfold z_lN z_pl; decide +kernel
theorem fl_X10_54 : z_fl RX10 54 10 6 := by unfold z_fl; decide +kernel
theorem nl_X10_58 : ∀ w ∈ ([.classLink RX10 58 (z_R 7), .instantiable (z_R 7) (z_nf 7), .initialized (z_R 7)] : List Cond), w ∈ z_G := by decide +kernel
theorem fl_X10_60 : z_fl RX10 60 10 7 := by unfold z_fl; decide +kernel
theorem ml_X10_64 : z_lN RX10 64 M_X7_init 0 := by unfold z_lN z_pl; decide +kernel
theorem fl_X10_65 : z_fl RX10 65 10 12 := by unfold z_fl; decide +kernel
theorem ml_X10_69 : z_lS RX10 69 M_X0_isInstruction 2 := by unfold z_lS z_pl; decide +kernel
theorem fl_X10_80 : z_fl RX10 80 10 9 := by unfold z_fl; decide +kernel
theorem fl_X10_84 : z_fl RX10 84 0 2 := by unfold z_fl; decide +kernel
theorem ml_X10_92 : z_lV RX10 92 M_X0_append 2 := by unfold z_lV z_pl; decide +kernel
theorem ml_X10_96 : z_lV RX10 96 M_X0_isSound 0 := by unfold z_lV z_pl; decide +kernel
theorem ml_X10_102 : z_lV RX10 102 M_X10_forgetProgram 0 := by unfold z_lV z_pl; decide +kernel
theorem fl_X10_105 : z_fl RX10 105 1 0 := by unfold z_fl; decide +kernel
theorem fl_X10_109 : z_fl RX10 109 10 11 := by unfold z_fl; decide +kernel
theorem fl_X10_116 : z_fl RX10 116 10 10 := by unfold z_fl; decide +kernel
theorem ml_X10_119 : z_lV RX10 119 M_X10_step 0 := by unfold z_lV z_pl; decide +kernel
theorem fl_X10_127 : z_fl RX10 127 1 2 := by unfold z_fl; decide +kernel
theorem fl_X10_132 : z_fl RX10 132 1 1 := by unfold z_fl; decide +kernel
theorem fl_X10_135 : z_fl RX10 135 2 2 := by unfold z_fl; decide +kernel
theorem ml_X10_138 : z_lV RX10 138 M_X2_keeps 1 := by unfold z_lV z_pl; decide +kernel
theorem ml_X10_144 : z_lV RX10 144 M_X2_back 1 := by unfold z_lV z_pl; decide +kernel
theorem fl_X10_148 : z_fl RX10 148 1 3 := by unfold z_fl; decide +kernel
theorem fl_X10_151 : z_fl RX10 151 6 0 := by unfold z_fl; decide +kernel
theorem fl_X10_154 : z_fl RX10 154 6 1 := by unfold z_fl; decide +kernel
theorem fl_X10_157 : z_fl RX10 157 6 2 := by unfold z_fl; decide +kernel
theorem fl_X10_160 : z_fl RX10 160 6 3 := by unfold z_fl; decide +kernel
theorem fl_X10_163 : z_fl RX10 163 10 8 := by unfold z_fl; decide +kernel
theorem ml_X10_166 : z_lV RX10 166 M_X5_isOn 0 := by unfold z_lV z_pl; decide +kernel
theorem fl_X10_173 : z_fl RX10 173 4 0 := by unfold z_fl; decide +kernel
theorem fl_X10_176 : z_fl RX10 176 4 1 := by unfold z_fl; decide +kernel
theorem fl_X10_181 : z_fl RX10 181 7 3 := by unfold z_fl; decide +kernel
theorem fl_X10_184 : z_fl RX10 184 7 4 := by unfold z_fl; decide +kernel
theorem ml_X10_187 : z_lV RX10 187 M_X7_bodyOperations 0 := by unfold z_lV z_pl; decide +kernel
theorem fl_X10_191 : z_fl RX10 191 7 1 := by unfold z_fl; decide +kernel
theorem fl_X10_195 : z_fl RX10 195 3 5 := by unfold z_fl; decide +kernel
theorem fl_X10_198 : z_fl RX10 198 7 5 := by unfold z_fl; decide +kernel
theorem ml_X10_201 : z_lV RX10 201 M_X7_countStaying 0 := by unfold z_lV z_pl; decide +kernel
theorem ml_X10_206 : z_lV RX10 206 M_X1_reset 0 := by unfold z_lV z_pl; decide +kernel
theorem ml_X10_209 : z_lV RX10 209 M_X2_reset 0 := by unfold z_lV z_pl; decide +kernel
theorem ml_X10_210 : z_lV RX10 210 M_X6_reset 0 := by unfold z_lV z_pl; decide +kernel
theorem ml_X10_211 : z_lV RX10 211 M_X4_reset 0 := by unfold z_lV z_pl; decide +kernel
theorem ml_X10_212 : z_lV RX10 212 M_X5_stop 0 := by unfold z_lV z_pl; decide +kernel
theorem fl_X10_215 : z_fl RX10 215 4 2 := by unfold z_fl; decide +kernel
theorem ml_X10_218 : z_lV RX10 218 M_X10_interpret 0 := by unfold z_lV z_pl; decide +kernel
theorem ml_X10_221 : z_lV RX10 221 M_X10_takeTurn 1 := by unfold z_lV z_pl; decide +kernel
theorem ml_X10_225 : z_lV RX10 225 M_X5_closesAt 1 := by unfold z_lV z_pl; decide +kernel
theorem ml_X10_228 : z_lV RX10 228 M_X10_keepTrace 0 := by unfold z_lV z_pl; decide +kernel
theorem fl_X10_231 : z_fl RX10 231 7 0 := by unfold z_fl; decide +kernel
theorem ml_X10_235 : z_lV RX10 235 M_X9_takeLocals 1 := by unfold z_lV z_pl; decide +kernel
theorem ml_X10_241 : z_lV RX10 241 M_X7_doHead 1 := by unfold z_lV z_pl; decide +kernel
theorem ml_X10_245 : z_lV RX10 245 M_X7_doBody 3 := by unfold z_lV z_pl; decide +kernel
theorem ml_X10_249 : z_lV RX10 249 M_X5_isFull 0 := by unfold z_lV z_pl; decide +kernel
theorem ml_X10_252 : z_lV RX10 252 M_X10_giveUpRecording 0 := by unfold z_lV z_pl; decide +kernel
theorem fl_X10_255 : z_fl RX10 255 0 0 := by unfold z_fl; decide +kernel
theorem fl_X10_258 : z_fl RX10 258 0 1 := by unfold z_fl; decide +kernel
theorem ml_X10_261 : z_lV RX10 261 M_X10_execute 2 := by unfold z_lV z_pl; decide +kernel
theorem ml_X10_264 : z_lV RX10 264 M_X5_note 2 := by unfold z_lV z_pl; decide +kernel
theorem ml_X10_268 : z_lV RX10 268 M_X10_countJumpTo 1 := by unfold z_lV z_pl; decide +kernel
theorem ml_X10_271 : z_lV RX10 271 M_X1_push 1 := by unfold z_lV z_pl; decide +kernel
theorem ml_X10_274 : z_lV RX10 274 M_X1_pop 0 := by unfold z_lV z_pl; decide +kernel
theorem ml_X10_277 : z_lS RX10 277 M_X9_result 3 := by unfold z_lS z_pl; decide +kernel
theorem ml_X10_281 : z_lV RX10 281 M_X2_give 1 := by unfold z_lV z_pl; decide +kernel
theorem ml_X10_284 : z_lV RX10 284 M_X10_halt 0 := by unfold z_lV z_pl; decide +kernel
theorem ml_X10_287 : z_lV RX10 287 M_X1_move 2 := by unfold z_lV z_pl; decide +kernel
theorem ml_X10_290 : z_lV RX10 290 M_X5_startAt 1 := by unfold z_lV z_pl; decide +kernel
theorem fl_X10_293 : z_fl RX10 293 5 2 := by unfold z_fl; decide +kernel
theorem ml_X10_294 : z_lV RX10 294 M_X8_make 3 := by unfold z_lV z_pl; decide +kernel
theorem ol_X0_3 : ∀ w ∈ ([.methodLink RX0 3 Lib.objectInit, .instanceMethod Lib.objectInit, .code Lib.objectInit ⟨#[0xb1]⟩ 1 none] : List Cond), w ∈ z_G := by decide +kernel
theorem fl_X0_9 : z_fl RX0 9 0 0 := by unfold z_fl; decide +kernel
theorem fl_X0_15 : z_fl RX0 15 0 1 := by unfold z_fl; decide +kernel
theorem fl_X0_18 : z_fl RX0 18 0 3 := by unfold z_fl; decide +kernel
theorem fl_X0_21 : z_fl RX0 21 0 4 := by unfold z_fl; decide +kernel
theorem fl_X0_24 : z_fl RX0 24 0 2 := by unfold z_fl; decide +kernel
theorem ml_X0_28 : z_lS RX0 28 M_J7_fill_53178 2 := by unfold z_lS z_pl; decide +kernel
theorem fl_X0_34 : z_fl RX0 34 0 5 := by unfold z_fl; decide +kernel
theorem ml_X0_37 : z_lV RX0 37 M_X0_reach 2 := by unfold z_lV z_pl; decide +kernel
theorem ml_X0_41 : z_lV RX0 41 M_X0_leadsOnWell 1 := by unfold z_lV z_pl; decide +kernel
theorem ol_X1_3 : ∀ w ∈ ([.methodLink RX1 3 Lib.objectInit, .instanceMethod Lib.objectInit, .code Lib.objectInit ⟨#[0xb1]⟩ 1 none] : List Cond), w ∈ z_G := by decide +kernel
theorem fl_X1_9 : z_fl RX1 9 1 0 := by unfold z_fl; decide +kernel
theorem fl_X1_15 : z_fl RX1 15 1 1 := by unfold z_fl; decide +kernel
theorem ml_X1_18 : z_lS RX1 18 M_J7_fill_53178 2 := by unfold z_lS z_pl; decide +kernel
theorem fl_X1_24 : z_fl RX1 24 1 2 := by unfold z_fl; decide +kernel
theorem fl_X1_28 : z_fl RX1 28 1 3 := by unfold z_fl; decide +kernel
theorem ml_X1_31 : z_lV RX1 31 M_X1_push 1 := by unfold z_lV z_pl; decide +kernel
theorem ml_X1_35 : z_lV RX1 35 M_X1_pop 0 := by unfold z_lV z_pl; decide +kernel
theorem ol_X2_3 : ∀ w ∈ ([.methodLink RX2 3 Lib.objectInit, .instanceMethod Lib.objectInit, .code Lib.objectInit ⟨#[0xb1]⟩ 1 none] : List Cond), w ∈ z_G := by decide +kernel
theorem fl_X2_9 : z_fl RX2 9 2 0 := by unfold z_fl; decide +kernel
theorem fl_X2_15 : z_fl RX2 15 2 1 := by unfold z_fl; decide +kernel
theorem fl_X2_19 : z_fl RX2 19 2 2 := by unfold z_fl; decide +kernel
theorem ml_X2_22 : z_lS RX2 22 M_J9_floorMod_7cf53 2 := by unfold z_lS z_pl; decide +kernel
theorem ol_X3_3 : ∀ w ∈ ([.methodLink RX3 3 Lib.objectInit, .instanceMethod Lib.objectInit, .code Lib.objectInit ⟨#[0xb1]⟩ 1 none] : List Cond), w ∈ z_G := by decide +kernel
theorem fl_X3_9 : z_fl RX3 9 3 0 := by unfold z_fl; decide +kernel
theorem fl_X3_15 : z_fl RX3 15 3 1 := by unfold z_fl; decide +kernel
theorem fl_X3_19 : z_fl RX3 19 3 2 := by unfold z_fl; decide +kernel
theorem fl_X3_22 : z_fl RX3 22 3 3 := by unfold z_fl; decide +kernel
theorem fl_X3_25 : z_fl RX3 25 3 4 := by unfold z_fl; decide +kernel
theorem fl_X3_28 : z_fl RX3 28 3 5 := by unfold z_fl; decide +kernel
theorem fl_X3_32 : z_fl RX3 32 1 2 := by unfold z_fl; decide +kernel
theorem fl_X3_37 : z_fl RX3 37 1 0 := by unfold z_fl; decide +kernel
theorem al_X3_40 : ∀ w ∈ ([.methodLink RX3 40 arraycopyName, .native arraycopyName, .static arraycopyName, .initialized "java/lang/System"] : List Cond), w ∈ z_G := by decide +kernel
theorem fl_X3_46 : z_fl RX3 46 1 1 := by unfold z_fl; decide +kernel
theorem fl_X3_49 : z_fl RX3 49 1 3 := by unfold z_fl; decide +kernel
theorem ol_X4_3 : ∀ w ∈ ([.methodLink RX4 3 Lib.objectInit, .instanceMethod Lib.objectInit, .code Lib.objectInit ⟨#[0xb1]⟩ 1 none] : List Cond), w ∈ z_G := by decide +kernel
theorem fl_X4_9 : z_fl RX4 9 4 0 := by unfold z_fl; decide +kernel
theorem fl_X4_15 : z_fl RX4 15 4 1 := by unfold z_fl; decide +kernel
theorem fl_X4_18 : z_fl RX4 18 4 2 := by unfold z_fl; decide +kernel
theorem ml_X4_21 : z_lS RX4 21 M_J7_fill_53178 2 := by unfold z_lS z_pl; decide +kernel
theorem ol_X5_3 : ∀ w ∈ ([.methodLink RX5 3 Lib.objectInit, .instanceMethod Lib.objectInit, .code Lib.objectInit ⟨#[0xb1]⟩ 1 none] : List Cond), w ∈ z_G := by decide +kernel
theorem fl_X5_9 : z_fl RX5 9 5 0 := by unfold z_fl; decide +kernel
theorem fl_X5_15 : z_fl RX5 15 5 1 := by unfold z_fl; decide +kernel
theorem fl_X5_19 : z_fl RX5 19 5 2 := by unfold z_fl; decide +kernel
theorem ml_X5_23 : z_lV RX5 23 M_X5_isOn 0 := by unfold z_lV z_pl; decide +kernel
theorem fl_X5_27 : z_fl RX5 27 5 3 := by unfold z_fl; decide +kernel
theorem ol_X6_1 : ∀ w ∈ ([.methodLink RX6 1 Lib.objectInit, .instanceMethod Lib.objectInit, .code Lib.objectInit ⟨#[0xb1]⟩ 1 none] : List Cond), w ∈ z_G := by decide +kernel
theorem fl_X6_7 : z_fl RX6 7 6 0 := by unfold z_fl; decide +kernel
theorem fl_X6_13 : z_fl RX6 13 6 1 := by unfold z_fl; decide +kernel
theorem fl_X6_16 : z_fl RX6 16 6 2 := by unfold z_fl; decide +kernel
theorem fl_X6_19 : z_fl RX6 19 6 3 := by unfold z_fl; decide +kernel
theorem ol_X7_3 : ∀ w ∈ ([.methodLink RX7 3 Lib.objectInit, .instanceMethod Lib.objectInit, .code Lib.objectInit ⟨#[0xb1]⟩ 1 none] : List Cond), w ∈ z_G := by decide +kernel
theorem nl_X7_9 : ∀ w ∈ ([.classLink RX7 9 (z_R 9), .instantiable (z_R 9) (z_nf 9), .initialized (z_R 9)] : List Cond), w ∈ z_G := by decide +kernel
theorem ml_X7_11 : z_lN RX7 11 M_X9_init 0 := by unfold z_lN z_pl; decide +kernel
theorem fl_X7_12 : z_fl RX7 12 7 0 := by unfold z_fl; decide +kernel
theorem nl_X7_18 : ∀ w ∈ ([.classLink RX7 18 (z_R 3), .instantiable (z_R 3) (z_nf 3), .initialized (z_R 3)] : List Cond), w ∈ z_G := by decide +kernel
theorem ml_X7_20 : z_lN RX7 20 M_X3_init 0 := by unfold z_lN z_pl; decide +kernel
theorem fl_X7_21 : z_fl RX7 21 7 1 := by unfold z_fl; decide +kernel
theorem fl_X7_25 : z_fl RX7 25 7 2 := by unfold z_fl; decide +kernel
theorem fl_X7_29 : z_fl RX7 29 7 6 := by unfold z_fl; decide +kernel
theorem fl_X7_32 : z_fl RX7 32 7 7 := by unfold z_fl; decide +kernel
theorem fl_X7_35 : z_fl RX7 35 7 8 := by unfold z_fl; decide +kernel
theorem ml_X7_38 : z_lV RX7 38 M_X9_reset 0 := by unfold z_lV z_pl; decide +kernel
theorem fl_X7_41 : z_fl RX7 41 3 5 := by unfold z_fl; decide +kernel
theorem fl_X7_45 : z_fl RX7 45 7 3 := by unfold z_fl; decide +kernel
theorem fl_X7_48 : z_fl RX7 48 7 4 := by unfold z_fl; decide +kernel
theorem fl_X7_51 : z_fl RX7 51 7 9 := by unfold z_fl; decide +kernel
theorem fl_X7_54 : z_fl RX7 54 7 5 := by unfold z_fl; decide +kernel
theorem ml_X7_57 : z_lV RX7 57 M_X7_stays 1 := by unfold z_lV z_pl; decide +kernel
theorem ml_X7_61 : z_lV RX7 61 M_X9_work 1 := by unfold z_lV z_pl; decide +kernel
theorem fl_X7_65 : z_fl RX7 65 6 3 := by unfold z_fl; decide +kernel
theorem fl_X7_70 : z_fl RX7 70 9 3 := by unfold z_fl; decide +kernel
theorem ml_X7_73 : z_lV RX7 73 M_X2_give 1 := by unfold z_lV z_pl; decide +kernel
theorem ml_X7_78 : z_lV RX7 78 M_X3_holds 2 := by unfold z_lV z_pl; decide +kernel
theorem ml_X7_82 : z_lV RX7 82 M_X3_restore 3 := by unfold z_lV z_pl; decide +kernel
theorem fl_X7_86 : z_fl RX7 86 1 0 := by unfold z_fl; decide +kernel
theorem ol_X8_3 : ∀ w ∈ ([.methodLink RX8 3 Lib.objectInit, .instanceMethod Lib.objectInit, .code Lib.objectInit ⟨#[0xb1]⟩ 1 none] : List Cond), w ∈ z_G := by decide +kernel
theorem nl_X8_9 : ∀ w ∈ ([.classLink RX8 9 (z_R 1), .instantiable (z_R 1) (z_nf 1), .initialized (z_R 1)] : List Cond), w ∈ z_G := by decide +kernel
theorem ml_X8_11 : z_lN RX8 11 M_X1_init 0 := by unfold z_lN z_pl; decide +kernel
theorem fl_X8_12 : z_fl RX8 12 8 0 := by unfold z_fl; decide +kernel
theorem fl_X8_18 : z_fl RX8 18 8 1 := by unfold z_fl; decide +kernel
theorem fl_X8_22 : z_fl RX8 22 8 2 := by unfold z_fl; decide +kernel
theorem fl_X8_25 : z_fl RX8 25 8 4 := by unfold z_fl; decide +kernel
theorem fl_X8_29 : z_fl RX8 29 8 5 := by unfold z_fl; decide +kernel
theorem fl_X8_32 : z_fl RX8 32 5 2 := by unfold z_fl; decide +kernel
theorem ml_X8_38 : z_lV RX8 38 M_X7_resetAt 1 := by unfold z_lV z_pl; decide +kernel
theorem ml_X8_44 : z_lV RX8 44 M_X8_forgetLast 0 := by unfold z_lV z_pl; decide +kernel
theorem fl_X8_47 : z_fl RX8 47 5 3 := by unfold z_fl; decide +kernel
theorem fl_X8_50 : z_fl RX8 50 5 0 := by unfold z_fl; decide +kernel
theorem fl_X8_53 : z_fl RX8 53 5 1 := by unfold z_fl; decide +kernel
theorem ml_X8_56 : z_lV RX8 56 M_X8_follow 4 := by unfold z_lV z_pl; decide +kernel
theorem fl_X8_60 : z_fl RX8 60 7 2 := by unfold z_fl; decide +kernel
theorem fl_X8_63 : z_fl RX8 63 1 0 := by unfold z_fl; decide +kernel
theorem fl_X8_66 : z_fl RX8 66 7 0 := by unfold z_fl; decide +kernel
theorem ml_X8_70 : z_lV RX8 70 M_X8_markParts 1 := by unfold z_lV z_pl; decide +kernel
theorem ml_X8_74 : z_lV RX8 74 M_X8_markConstant 1 := by unfold z_lV z_pl; decide +kernel
theorem ml_X8_78 : z_lV RX8 78 M_X8_sortOut 1 := by unfold z_lV z_pl; decide +kernel
theorem ml_X8_81 : z_lV RX8 81 M_X1_reset 0 := by unfold z_lV z_pl; decide +kernel
theorem fl_X8_84 : z_fl RX8 84 8 3 := by unfold z_fl; decide +kernel
theorem fl_X8_87 : z_fl RX8 87 0 0 := by unfold z_fl; decide +kernel
theorem fl_X8_92 : z_fl RX8 92 0 1 := by unfold z_fl; decide +kernel
theorem ml_X8_95 : z_lV RX8 95 M_X9_share 3 := by unfold z_lV z_pl; decide +kernel
theorem ml_X8_101 : z_lV RX8 101 M_X1_push 1 := by unfold z_lV z_pl; decide +kernel
theorem ml_X8_104 : z_lV RX8 104 M_X1_pop 0 := by unfold z_lV z_pl; decide +kernel
theorem ml_X8_108 : z_lV RX8 108 M_X8_combine 4 := by unfold z_lV z_pl; decide +kernel
theorem ml_X8_112 : z_lV RX8 112 M_X8_came 2 := by unfold z_lV z_pl; decide +kernel
theorem ml_X8_116 : z_lV RX8 116 M_X8_guard 4 := by unfold z_lV z_pl; decide +kernel
theorem ml_X8_120 : z_lV RX8 120 M_X1_move 2 := by unfold z_lV z_pl; decide +kernel
theorem ml_X8_123 : z_lV RX8 123 M_X9_isNumber 1 := by unfold z_lV z_pl; decide +kernel
theorem fl_X8_127 : z_fl RX8 127 9 1 := by unfold z_fl; decide +kernel
theorem ml_X8_130 : z_lS RX8 130 M_X9_result 3 := by unfold z_lS z_pl; decide +kernel
theorem fl_X8_133 : z_fl RX8 133 9 4 := by unfold z_fl; decide +kernel
theorem fl_X8_136 : z_fl RX8 136 7 1 := by unfold z_fl; decide +kernel
theorem ml_X8_140 : z_lV RX8 140 M_X3_has 2 := by unfold z_lV z_pl; decide +kernel
theorem ml_X8_146 : z_lV RX8 146 M_X3_put 4 := by unfold z_lV z_pl; decide +kernel
theorem fl_X8_150 : z_fl RX8 150 1 2 := by unfold z_fl; decide +kernel
theorem fl_X8_153 : z_fl RX8 153 1 1 := by unfold z_fl; decide +kernel
theorem ml_X8_156 : z_lV RX8 156 M_X9_isOperation 1 := by unfold z_lV z_pl; decide +kernel
theorem fl_X8_159 : z_fl RX8 159 9 2 := by unfold z_fl; decide +kernel
theorem ml_X8_162 : z_lV RX8 162 M_X7_stays 1 := by unfold z_lV z_pl; decide +kernel
theorem ml_X8_165 : z_lV RX8 165 M_X7_putInBody 2 := by unfold z_lV z_pl; decide +kernel
theorem ml_X8_168 : z_lV RX8 168 M_X7_putInHead 1 := by unfold z_lV z_pl; decide +kernel
theorem ol_X9_3 : ∀ w ∈ ([.methodLink RX9 3 Lib.objectInit, .instanceMethod Lib.objectInit, .code Lib.objectInit ⟨#[0xb1]⟩ 1 none] : List Cond), w ∈ z_G := by decide +kernel
theorem fl_X9_9 : z_fl RX9 9 9 0 := by unfold z_fl; decide +kernel
theorem fl_X9_15 : z_fl RX9 15 9 1 := by unfold z_fl; decide +kernel
theorem fl_X9_18 : z_fl RX9 18 9 2 := by unfold z_fl; decide +kernel
theorem fl_X9_21 : z_fl RX9 21 9 3 := by unfold z_fl; decide +kernel
theorem fl_X9_24 : z_fl RX9 24 9 4 := by unfold z_fl; decide +kernel
theorem ml_X9_28 : z_lV RX9 28 M_X9_share 3 := by unfold z_lV z_pl; decide +kernel
theorem al_X9_32 : ∀ w ∈ ([.methodLink RX9 32 arraycopyName, .native arraycopyName, .static arraycopyName, .initialized "java/lang/System"] : List Cond), w ∈ z_G := by decide +kernel
theorem ml_X9_38 : z_lS RX9 38 M_X9_result 3 := by unfold z_lS z_pl; decide +kernel
theorem nl_L_8 : ∀ w ∈ ([.classLink RL 8 (z_R 10), .instantiable (z_R 10) (z_nf 10), .initialized (z_R 10)] : List Cond), w ∈ z_G := by decide +kernel
theorem nl_L_46 : ∀ w ∈ ([.classLink RL 46 (z_R 11), .instantiable (z_R 11) (z_nf 11), .initialized (z_R 11)] : List Cond), w ∈ z_G := by decide +kernel
theorem ol_X11_1 : ∀ w ∈ ([.methodLink RX11 1 Lib.objectInit, .instanceMethod Lib.objectInit, .code Lib.objectInit ⟨#[0xb1]⟩ 1 none] : List Cond), w ∈ z_G := by decide +kernel
theorem fl_X11_7 : z_fl RX11 7 11 2 := by unfold z_fl; decide +kernel
theorem fl_X11_13 : z_fl RX11 13 11 3 := by unfold z_fl; decide +kernel
theorem fl_X11_16 : z_fl RX11 16 11 4 := by unfold z_fl; decide +kernel
theorem fl_X11_19 : z_fl RX11 19 11 7 := by unfold z_fl; decide +kernel
theorem fl_X11_23 : z_fl RX11 23 11 8 := by unfold z_fl; decide +kernel
theorem fl_X11_26 : z_fl RX11 26 11 10 := by unfold z_fl; decide +kernel
theorem fl_X11_29 : z_fl RX11 29 11 12 := by unfold z_fl; decide +kernel
theorem fl_X11_32 : z_fl RX11 32 11 13 := by unfold z_fl; decide +kernel
theorem fl_X11_35 : z_fl RX11 35 11 14 := by unfold z_fl; decide +kernel
theorem fl_X11_38 : z_fl RX11 38 11 15 := by unfold z_fl; decide +kernel
theorem fl_X11_41 : z_fl RX11 41 11 17 := by unfold z_fl; decide +kernel
theorem fl_X11_44 : z_fl RX11 44 11 18 := by unfold z_fl; decide +kernel
theorem fl_X11_48 : z_fl RX11 48 11 20 := by unfold z_fl; decide +kernel
theorem fl_X11_51 : z_fl RX11 51 11 21 := by unfold z_fl; decide +kernel
theorem fl_X11_54 : z_fl RX11 54 11 22 := by unfold z_fl; decide +kernel
theorem fl_X11_57 : z_fl RX11 57 11 23 := by unfold z_fl; decide +kernel
theorem fl_X11_60 : z_fl RX11 60 11 24 := by unfold z_fl; decide +kernel
theorem fl_X11_63 : z_fl RX11 63 11 25 := by unfold z_fl; decide +kernel
theorem fl_X11_66 : z_fl RX11 66 11 26 := by unfold z_fl; decide +kernel
theorem fl_X11_69 : z_fl RX11 69 11 27 := by unfold z_fl; decide +kernel
theorem fl_X11_72 : z_fl RX11 72 11 28 := by unfold z_fl; decide +kernel
theorem fl_X11_75 : z_fl RX11 75 11 29 := by unfold z_fl; decide +kernel
theorem fl_X11_78 : z_fl RX11 78 11 30 := by unfold z_fl; decide +kernel
theorem fl_X11_81 : z_fl RX11 81 11 36 := by unfold z_fl; decide +kernel
theorem fl_X11_84 : z_fl RX11 84 11 37 := by unfold z_fl; decide +kernel
theorem fl_X11_87 : z_fl RX11 87 11 38 := by unfold z_fl; decide +kernel
theorem fl_X11_90 : z_fl RX11 90 11 39 := by unfold z_fl; decide +kernel
theorem fl_X11_93 : z_fl RX11 93 11 40 := by unfold z_fl; decide +kernel
theorem fl_X11_96 : z_fl RX11 96 11 41 := by unfold z_fl; decide +kernel
theorem fl_X11_99 : z_fl RX11 99 11 42 := by unfold z_fl; decide +kernel
theorem fl_X11_102 : z_fl RX11 102 11 43 := by unfold z_fl; decide +kernel
theorem fl_X11_105 : z_fl RX11 105 11 45 := by unfold z_fl; decide +kernel
theorem fl_X11_108 : z_fl RX11 108 11 46 := by unfold z_fl; decide +kernel
theorem fl_X11_111 : z_fl RX11 111 11 0 := by unfold z_fl; decide +kernel
theorem ml_X11_114 : z_lS RX11 114 M_X11_within 3 := by unfold z_lS z_pl; decide +kernel
theorem ml_X11_118 : z_lV RX11 118 M_X11_fail 1 := by unfold z_lV z_pl; decide +kernel
theorem fl_X11_122 : z_fl RX11 122 11 1 := by unfold z_fl; decide +kernel
theorem fl_X11_125 : z_fl RX11 125 11 5 := by unfold z_fl; decide +kernel
theorem ml_X11_129 : z_lV RX11 129 M_X11_leads 2 := by unfold z_lV z_pl; decide +kernel
theorem ml_X11_133 : z_lS RX11 133 M_X11_takes 1 := by unfold z_lS z_pl; decide +kernel
theorem ml_X11_136 : z_lS RX11 136 M_X11_leaves 1 := by unfold z_lS z_pl; decide +kernel
theorem fl_X11_139 : z_fl RX11 139 11 9 := by unfold z_fl; decide +kernel
theorem fl_X11_142 : z_fl RX11 142 11 11 := by unfold z_fl; decide +kernel
theorem fl_X11_145 : z_fl RX11 145 11 19 := by unfold z_fl; decide +kernel
theorem fl_X11_148 : z_fl RX11 148 11 31 := by unfold z_fl; decide +kernel
theorem fl_X11_151 : z_fl RX11 151 11 32 := by unfold z_fl; decide +kernel
theorem fl_X11_154 : z_fl RX11 154 11 33 := by unfold z_fl; decide +kernel
theorem fl_X11_157 : z_fl RX11 157 11 34 := by unfold z_fl; decide +kernel
theorem ml_X11_160 : z_lV RX11 160 M_X11_sound 0 := by unfold z_lV z_pl; decide +kernel
theorem ml_X11_164 : z_lV RX11 164 M_X11_fresh 0 := by unfold z_lV z_pl; decide +kernel
theorem fl_X11_167 : z_fl RX11 167 11 6 := by unfold z_fl; decide +kernel
theorem ml_X11_170 : z_lV RX11 170 M_X11_push 1 := by unfold z_lV z_pl; decide +kernel
theorem ml_X11_174 : z_lV RX11 174 M_X11_pop 0 := by unfold z_lV z_pl; decide +kernel
theorem ml_X11_178 : z_lS RX11 178 M_X11_worked 3 := by unfold z_lS z_pl; decide +kernel
theorem ml_X11_182 : z_lV RX11 182 M_X11_give 1 := by unfold z_lV z_pl; decide +kernel
theorem fl_X11_185 : z_fl RX11 185 11 16 := by unfold z_fl; decide +kernel
theorem ml_X11_188 : z_lV RX11 188 M_X11_does 1 := by unfold z_lV z_pl; decide +kernel
theorem ml_X11_191 : z_lV RX11 191 M_X11_giveUp 1 := by unfold z_lV z_pl; decide +kernel
theorem ml_X11_194 : z_lV RX11 194 M_X11_hot 1 := by unfold z_lV z_pl; decide +kernel
theorem ml_X11_197 : z_lV RX11 197 M_X11_makeTrace 0 := by unfold z_lV z_pl; decide +kernel
theorem ml_X11_200 : z_lV RX11 200 M_X11_traceOf 1 := by unfold z_lV z_pl; decide +kernel
theorem ml_X11_203 : z_lV RX11 203 M_X11_turn 1 := by unfold z_lV z_pl; decide +kernel
theorem ml_X11_206 : z_lV RX11 206 M_X11_interpret 0 := by unfold z_lV z_pl; decide +kernel
theorem fl_X11_209 : z_fl RX11 209 11 35 := by unfold z_fl; decide +kernel
theorem ml_X11_212 : z_lV RX11 212 M_X11_valueOf 4 := by unfold z_lV z_pl; decide +kernel
theorem fl_X11_216 : z_fl RX11 216 11 44 := by unfold z_fl; decide +kernel
theorem ml_X11_219 : z_lV RX11 219 M_X11_calculated 3 := by unfold z_lV z_pl; decide +kernel
theorem ml_X11_222 : z_lV RX11 222 M_X11_picture 0 := by unfold z_lV z_pl; decide +kernel
theorem ml_X11_225 : z_lV RX11 225 M_X11_through 1 := by unfold z_lV z_pl; decide +kernel
theorem ml_X11_228 : z_lV RX11 228 M_X11_keep 1 := by unfold z_lV z_pl; decide +kernel
theorem acI : Cond.arrayClass .int ∈ z_G := by decide +kernel
theorem acZ : Cond.arrayClass .boolean ∈ z_G := by decide +kernel
theorem acL : Cond.arrayClass .long ∈ z_G := by decide +kernel
theorem sl_45 : Cond.fieldLinkNest RX0 45 "TraceTier" "TAKES" "[I" "TraceTier" ∈ z_N := by decide +kernel
theorem sl_48 : Cond.fieldLinkNest RX0 48 "TraceTier" "GIVES" "[I" "TraceTier" ∈ z_N := by decide +kernel
end
section
/-! PART 16: the shape of the two systems; calls with and without an answer -/
def z_rt : List (List (Option Nat)) := [[some 1, some 6, some 9, some 11, some 12, some 16, some 19, some 27, none, none, none, none, none], [some 2, some 3, none, some 4, some 5, none], [], [], [], [], [some 7, some 8, none, none], [], [], [some 10, none, none], [], [], [some 13, some 14, some 15], [], [], [], [some 17, some 18, none, none], [], [], [some 20, some 23, some 24, none, some 25, some 26], [some 21, some 22, none, none], [], [], [], [], [], [], [some 28, some 44, some 60, some 76], [some 29, some 34, some 40, none, none, none, some 41, some 42, some 43, none], [some 30, some 31, some 32, some 33, none], [], [], [], [], [some 35, some 36, some 37, some 38, some 39, none], [], [], [], [], [], [], [], [], [], [some 45, some 50, some 56, none, none, none, some 57, some 58, some 59, none], [some 46, some 47, some 48, some 49, none], [], [], [], [], [some 51, some 52, some 53, some 54, some 55, none], [], [], [], [], [], [], [], [], [], [some 61, some 66, some 72, none, none, none, some 73, some 74, some 75, none], [some 62, some 63, some 64, some 65, none], [], [], [], [], [some 67, some 68, some 69, some 70, some 71, none], [], [], [], [], [], [], [], [], [], [some 77, some 82, some 88, none, none, none, some 89, some 90, some 91, none], [some 78, some 79, some 80, some 81, none], [], [], [], [], [some 83, some 84, some 85, some 86, some 87, none], [], [], [], [], [], [], [], [], [], [none, none, some 93, some 94, some 95, none, none, none, some 96, none, some 97, none, some 98, some 99, some 100, none, none, some 101, some 102, none, none, some 103, some 104, some 105, some 106, some 107, some 108, some 109, some 110, some 111, some 112, none, none, none, none, none, some 113, some 114, some 115, some 116, some 117, some 118, some 119, some 120, none, some 121, some 122], [], [], [], [], [], [], [], [], [], [], [], [], [], [], [], [], [], [], [], [], [], [], [], [], [], [], [], [], [], [], []]
def z_r0 (i j : Nat) : Option Nat := (z_rt.getD i []).getD j none
theorem fr_k {f : Nat} (hf : f = 6 ∨ f = 20) : z_k f = (0, 1) ∧ z_k (f + 1) = (1, 6) ∧ z_k (f + 2) = (1, 6) ∧ z_r0 f 0 = some (f + 1) ∧ z_r0 f 1 = some (f + 2) := by
  rcases hf with rfl | rfl <;> exact ⟨rfl, rfl, rfl, rfl, rfl⟩
/-- the number of trace t -/
def tr (t : Nat) : Nat := 28 + 16 * t
theorem tr_k {t : Nat} (ht : t < 4) : z_k (tr t) = (0, 7) ∧ z_k (tr t + 1) = (0, 9) ∧ z_k (tr t + 2) = (1, 36) ∧ z_k (tr t + 3) = (1, 36) ∧ z_k (tr t + 4) = (1, 36) ∧ z_k (tr t + 5) = (1, 36) ∧ z_k (tr t + 6) = (0, 3) ∧ z_k (tr t + 7) = (1, 15) ∧ z_k (tr t + 8) = (2, 15) ∧ z_k (tr t + 9) = (1, 15) ∧ z_k (tr t + 10) = (1, 15) ∧ z_k (tr t + 11) = (1, 180) ∧ z_k (tr t + 12) = (1, 6) ∧ z_k (tr t + 13) = (1, 30) ∧ z_k (tr t + 14) = (1, 30) ∧ z_k (tr t + 15) = (1, 30) := by
  match t, ht with
  | 0, _ => exact ⟨rfl, rfl, rfl, rfl, rfl, rfl, rfl, rfl, rfl, rfl, rfl, rfl, rfl, rfl, rfl, rfl⟩
  | 1, _ => exact ⟨rfl, rfl, rfl, rfl, rfl, rfl, rfl, rfl, rfl, rfl, rfl, rfl, rfl, rfl, rfl, rfl⟩
  | 2, _ => exact ⟨rfl, rfl, rfl, rfl, rfl, rfl, rfl, rfl, rfl, rfl, rfl, rfl, rfl, rfl, rfl, rfl⟩
  | 3, _ => exact ⟨rfl, rfl, rfl, rfl, rfl, rfl, rfl, rfl, rfl, rfl, rfl, rfl, rfl, rfl, rfl, rfl⟩
theorem tr_r {t : Nat} (ht : t < 4) : z_r0 27 t = some (tr t) ∧ z_r0 (tr t) 0 = some (tr t + 1) ∧ z_r0 (tr t) 1 = some (tr t + 6) ∧ z_r0 (tr t) 2 = some (tr t + 12) ∧ z_r0 (tr t) 6 = some (tr t + 13) ∧ z_r0 (tr t) 7 = some (tr t + 14) ∧ z_r0 (tr t) 8 = some (tr t + 15) ∧
    z_r0 (tr t + 1) 0 = some (tr t + 2) ∧ z_r0 (tr t + 1) 1 = some (tr t + 3) ∧ z_r0 (tr t + 1) 2 = some (tr t + 4) ∧ z_r0 (tr t + 1) 3 = some (tr t + 5) ∧
    z_r0 (tr t + 6) 0 = some (tr t + 7) ∧ z_r0 (tr t + 6) 1 = some (tr t + 8) ∧ z_r0 (tr t + 6) 2 = some (tr t + 9) ∧ z_r0 (tr t + 6) 3 = some (tr t + 10) ∧ z_r0 (tr t + 6) 4 = some (tr t + 11) := by
  match t, ht with
  | 0, _ => exact ⟨rfl, rfl, rfl, rfl, rfl, rfl, rfl, rfl, rfl, rfl, rfl, rfl, rfl, rfl, rfl, rfl⟩
  | 1, _ => exact ⟨rfl, rfl, rfl, rfl, rfl, rfl, rfl, rfl, rfl, rfl, rfl, rfl, rfl, rfl, rfl, rfl⟩
  | 2, _ => exact ⟨rfl, rfl, rfl, rfl, rfl, rfl, rfl, rfl, rfl, rfl, rfl, rfl, rfl, rfl, rfl, rfl⟩
  | 3, _ => exact ⟨rfl, rfl, rfl, rfl, rfl, rfl, rfl, rfl, rfl, rfl, rfl, rfl, rfl, rfl, rfl, rfl⟩
section ZC
variable {M M' : z_M} {d mc ms rc rs rc' rs' mc' ms' : Nat} {r : Option Value} {v : Value} {X X1 X2 : z_X} {pc : Nat} {lv : List (Option Value)} {st stk : List Value} {idx na : Nat} {as : List Value} {o ci : Nat}
theorem z_cV1 (hd : decode M.2.1 pc = .ok (.invokevirtual idx, 3)) (hl : z_lV M.1.cls idx M' na) (hsp : z_MV M' d 0 0 (.ref o :: as) X (some v) X2) (hk : z_k o = (0, ci)) (hci : ci < 12 ∧ z_R ci = M'.1.cls) (hstk : as.reverse ++ .ref o :: st = stk) (hn : as.length = na) (hrest : (st.map fun v => v.category).sum ≤ 8)
    (kk : z_V M (d + 1) mc ms rc rs r X1 (pc + 3) lv (v :: st) X2) : z_V M (d + 1) mc ms rc rs r X1 pc lv stk X := z_callV hd hl hsp hk hci hstk hn hrest ⟨by omega, by omega⟩ kk
theorem z_cV0 (hd : decode M.2.1 pc = .ok (.invokevirtual idx, 3)) (hl : z_lV M.1.cls idx M' na) (hsp : z_MV M' d 0 0 (.ref o :: as) X none X2) (hk : z_k o = (0, ci)) (hci : ci < 12 ∧ z_R ci = M'.1.cls) (hstk : as.reverse ++ .ref o :: st = stk) (hn : as.length = na) (hrest : (st.map fun v => v.category).sum ≤ 8)
    (kk : z_V M (d + 1) mc ms rc rs r X1 (pc + 3) lv st X2) : z_V M (d + 1) mc ms rc rs r X1 pc lv stk X := z_callV hd hl hsp hk hci hstk hn hrest ⟨by omega, by omega⟩ kk
theorem z_cS1 (hd : decode M.2.1 pc = .ok (.invokestatic idx, 3)) (hl : z_lS M.1.cls idx M' na) (hsp : z_MV M' d 0 0 as X (some v) X2) (hstk : as.reverse ++ st = stk) (hn : as.length = na) (hrest : (st.map fun v => v.category).sum ≤ 8)
    (kk : z_V M (d + 1) mc ms rc rs r X1 (pc + 3) lv (v :: st) X2) : z_V M (d + 1) mc ms rc rs r X1 pc lv stk X := z_callS hd hl hsp hstk hn hrest ⟨by omega, by omega⟩ kk
theorem z_cS0 (hd : decode M.2.1 pc = .ok (.invokestatic idx, 3)) (hl : z_lS M.1.cls idx M' na) (hsp : z_MV M' d 0 0 as X none X2) (hstk : as.reverse ++ st = stk) (hn : as.length = na) (hrest : (st.map fun v => v.category).sum ≤ 8)
    (kk : z_V M (d + 1) mc ms rc rs r X1 (pc + 3) lv st X2) : z_V M (d + 1) mc ms rc rs r X1 pc lv stk X := z_callS hd hl hsp hstk hn hrest ⟨by omega, by omega⟩ kk
end ZC
theorem z_up_s {α : Type} (f : Nat → Nat → α) (i j : Nat) (x : α) : z_up f i j x i j = x := by simp [z_up]
theorem z_up_o {α : Type} (f : Nat → Nat → α) {i j a b : Nat} (x : α) (h : a ≠ i ∨ b ≠ j) : z_up f i j x a b = f a b := by
  unfold z_up
  rw [if_neg]
  rintro ⟨h1, h2⟩
  rcases h with h | h
  · exact h h1
  · exact h h2
theorem z_ofF {l : Launch} {y : MethodName} {ws ws' : List Cond} {rm : Room} {Pc : Array Value → State → Prop} {Qc : Array Value → State → Outcome → State → Prop} {mc ms : Nat} {free : Addr → Prop} {cc : ByteArray} {maxL : Nat} {ret : Option FieldType}
    (hy : plainFor y = true) (hw : ws = Cond.code y cc maxL ret :: ws')
    (body : ∀ p e s m args below meth c s₁, BodyLoose p l y (headSpec ws rm) cc maxL ret e s m args below meth c s₁ → c.maxLocals = maxL → Pc args s →
      W p l e (headSpec ws rm).room s m args below meth c s.heap [] 0 0 (MQ below Qc args s mc ms free) (entryFrame m args maxL)) : Met l y ws rm Pc Qc mc ms free := by
  refine MetFree.of_bodySF (code := cc) (maxLocals := maxL) (ret := ret) hy ?_ ?_
  · intro args s m h hn
    obtain ⟨meth, c, h1, h2, h3, h4, h5, h6, -, -⟩ := Cond.code_spec hn (atoms_spec (ws := ws) h _ (by rw [hw]; exact List.mem_cons_self))
    exact ⟨meth, c, h1, h2, h3, h4, h5, h6⟩
  · intro p e s m args below meth c s₁ B hml hP _
    have hh0 : s₁.heap = s.heap := by rw [B.state]; rfl
    obtain ⟨t, a1, o, b1, b2, b3⟩ := body p e s m args below meth c s₁ B hml hP s₁ hh0 (Stand.of_body B)
    exact ⟨t, o, a1, b1, b2, ⟨b3.1, b3.2⟩⟩
theorem z_MV.ofF {M : z_M} {d mc ms : Nat} {as : List Value} {X X1 : z_X} {r : Option Value} {lv : List (Option Value)} (hy : plainFor M.1 = true) (hlen : as.length ≤ M.2.2.1) (hcat : ∀ v ∈ as, v.category = 1) (hlv : as.map some ++ List.replicate (M.2.2.1 - as.length) none = lv)
    (k : z_V M d mc ms mc ms r X1 0 lv [] X) : z_MV M d mc ms as X r X1 := by
  subst hlv
  intro l D dA h sz
  refine z_ofF (cc := M.2.1) (maxL := M.2.2.1) (ret := M.2.2.2) hy rfl ?_
  intro p e s m args below meth c s₁ B hml hv
  obtain ⟨rfl, hsz, hK, hP, hD0, hsc, hsl, hnw, hst⟩ := hv
  have hts := atoms_spec (ws := z_w M) B.pre
  have hown : s.vm.findClass M.1.cls = some m.cls := findClass_of_methodNamed B.named
  have hin : meth.name = M.1.name := (name_of_methodNamed B.named B.method).1
  subst hsz
  have hD := hD0.self (sz := s.heap.size)
  have hcat' : ∀ v ∈ as.map (z_v h), v.category = 1 := fun v hv => by
    obtain ⟨w, hw, rfl⟩ := List.mem_map.mp hv
    rw [z_v_cat]
    exact hcat w hw
  have hl := lv_entry (as.map (z_v h)) (n := M.2.2.1) (by rw [z_sl_args hcat', List.length_map]; exact hlen)
  rw [lg_entry_eq]
  generalize (lg_sl (as.map (z_v h)) ++ List.replicate (M.2.2.1 - (lg_sl (as.map (z_v h))).length) Slot.unset).toArray = ls at hl ⊢
  refine k p l e s m _ below meth c D dA (va_A (z_ws dA h X) s.heap.size) X.1 h h s.heap ls [] 0 0 ⟨B.exec, B.bytes, hml, B.returns, hown, fun w hw => hts w (List.mem_cons_of_mem _ hw), B.notSynchronized, hin, hK, fun q hq => Or.inr hq, hnw, hst⟩ ⟨Nat.le_refl _, fun _ _ => rfl, hsc, hP, hD⟩ va_S.rf ⟨hl.1, hl.2.1, fun i v hv => ?_⟩ (fun v hv => by cases hv) (by omega) (by omega)
  have hv2 : as[i]? = some v := by
    rw [List.getElem?_append] at hv
    split at hv
    · rw [List.getElem?_map] at hv
      cases hq : as[i]? with
      | none => rw [hq] at hv; cases hv
      | some w => rw [hq] at hv; cases hv; rfl
    · have := List.eq_of_mem_replicate (List.mem_of_getElem? hv)
      cases this
  have hm := List.mem_of_getElem? hv2
  refine ⟨hl.2.2 (i, z_v h v) ?_, hsl v hm, hcat v hm⟩
  have := z_args_mem hcat' 0 i (z_v h v) (by rw [List.getElem?_map, hv2]; rfl)
  rwa [Nat.zero_add] at this
end
section
/-! PART 20: Frame, Recording, Tally, Given: small methods -/
theorem nI_i (a : Nat) : nI a + Int32.ofInt 1 = nI (a + 1) := by rw [show Int32.ofInt 1 = 1 by decide]; exact nI_1 a
set_option maxRecDepth 100000 in
set_option maxHeartbeats 4000000 in
theorem sp_push {d : Nat} {σ : Nat → Nat → Int32} {τ : Nat → Nat → Int64} {f e : Nat} {x : Int32} (hf0 : f = 6 ∨ f = 20) (hd : σ f 2 = nI e) (he : e < 6) : z_MV M_X1_push d 0 0 [.ref f, .int x] (124, z_r0, σ, τ) (none) (124, z_r0, z_up (z_up σ (f + 2) e x) f 2 (nI (e + 1)), τ) := by
  refine z_MV.of pn_X1_push (Nat.le_of_ble_eq_true rfl) (by simp [Value.category]) rfl ?_
  show z_V _ _ _ _ _ _ _ _ _ [_, _] _ _
  have hf := fr_k hf0
  refine z_aload_n dX1_push_0 rfl rfl ?_
  refine z_getI dX1_push_1 fl_X1_24 rfl hf.1 (show _ = nI e by simp [z_up, hd]) ?_
  refine z_bipush (v := nI 6) dX1_push_4 (by decide) ?_
  refine z_icmp_ge (tgt := 29) dX1_push_6 (by decide) (fun c_ => absurd c_ (nI_ge he (by decide))) (fun _ => ?_)
  refine z_aload_n dX1_push_9 rfl rfl ?_
  refine z_getR dX1_push_10 fl_X1_15 rfl hf.1 hf.2.2.2.2 ?_
  refine z_aload_n dX1_push_13 rfl rfl ?_
  refine z_getI dX1_push_14 fl_X1_24 rfl hf.1 (show _ = nI e by simp [z_up, hd]) ?_
  refine z_iload_n dX1_push_17 rfl rfl ?_
  refine z_iast dX1_push_18 hf.2.2.1 rfl (by omega) ?_
  refine z_aload_n dX1_push_19 rfl rfl ?_
  refine z_dup dX1_push_20 rfl ?_
  refine z_getI dX1_push_21 fl_X1_24 rfl hf.1 (show _ = nI e by simp [z_up, hd]) ?_
  refine z_iconst (v := 1) dX1_push_24 (by decide) ?_
  refine z_iadd dX1_push_25 (nI_1 _) ?_
  refine z_putI dX1_push_26 fl_X1_24 rfl rfl (Or.inl rfl) hf.1 ?_
  exact z_vret dX1_push_29 rfl rfl rfl
set_option maxRecDepth 100000 in
set_option maxHeartbeats 4000000 in
theorem sp_pop {d : Nat} {σ : Nat → Nat → Int32} {τ : Nat → Nat → Int64} {f e : Nat} (hf0 : f = 6 ∨ f = 20) (hd : σ f 2 = nI (e + 1)) (he : e < 6) : z_MV M_X1_pop d 0 0 [.ref f] (124, z_r0, σ, τ) (some (.int (σ (f + 2) e))) (124, z_r0, z_up σ f 2 (nI e), τ) := by
  refine z_MV.of pn_X1_pop (Nat.le_of_ble_eq_true rfl) (by simp [Value.category]) rfl ?_
  show z_V _ _ _ _ _ _ _ _ _ [_] _ _
  have hf := fr_k hf0
  refine z_aload_n dX1_pop_0 rfl rfl ?_
  refine z_getI dX1_pop_1 fl_X1_24 rfl hf.1 (show _ = nI (e + 1) by simp [z_up, hd]) ?_
  refine z_if_ne (tgt := 9) dX1_pop_4 (by decide) (fun _ => ?_) (fun c_ => absurd c_ (nI_ne0 (Nat.succ_pos e) (by omega)))
  refine z_aload_n dX1_pop_9 rfl rfl ?_
  refine z_dup dX1_pop_10 rfl ?_
  refine z_getI dX1_pop_11 fl_X1_24 rfl hf.1 (show _ = nI (e + 1) by simp [z_up, hd]) ?_
  refine z_iconst (v := 1) dX1_pop_14 (by decide) ?_
  refine z_isub dX1_pop_15 (nI_pred e) ?_
  refine z_putI dX1_pop_16 fl_X1_24 rfl rfl (Or.inl rfl) hf.1 ?_
  refine z_aload_n dX1_pop_19 rfl rfl ?_
  refine z_getR dX1_pop_20 fl_X1_15 rfl hf.1 hf.2.2.2.2 ?_
  refine z_aload_n dX1_pop_23 rfl rfl ?_
  refine z_getI dX1_pop_24 fl_X1_24 rfl hf.1 (show _ = nI e by simp [z_up]) ?_
  refine z_iald dX1_pop_27 hf.2.2.1 rfl (by omega) (show _ = σ (f + 2) e by simp [z_up]) ?_
  exact z_iret dX1_pop_28 rfl rfl rfl
set_option maxRecDepth 100000 in
set_option maxHeartbeats 4000000 in
theorem sp_treset {d : Nat} {σ : Nat → Nat → Int32} {τ : Nat → Nat → Int64} : z_MV M_X6_reset d 0 0 [.ref 11] (124, z_r0, σ, τ) (none) (124, z_r0, z_up (z_up (z_up (z_up σ 11 0 0) 11 1 0) 11 2 0) 11 3 0, τ) := by
  refine z_MV.of pn_X6_reset (Nat.le_of_ble_eq_true rfl) (by simp [Value.category]) rfl ?_
  show z_V _ _ _ _ _ _ _ _ _ [_] _ _
  refine z_aload_n dX6_reset_0 rfl rfl ?_
  refine z_iconst (v := 0) dX6_reset_1 (by decide) ?_
  refine z_putI dX6_reset_2 fl_X6_7 rfl rfl (Or.inl rfl) rfl ?_
  refine z_aload_n dX6_reset_5 rfl rfl ?_
  refine z_iconst (v := 0) dX6_reset_6 (by decide) ?_
  refine z_putI dX6_reset_7 fl_X6_13 rfl rfl (Or.inl rfl) rfl ?_
  refine z_aload_n dX6_reset_10 rfl rfl ?_
  refine z_iconst (v := 0) dX6_reset_11 (by decide) ?_
  refine z_putI dX6_reset_12 fl_X6_16 rfl rfl (Or.inl rfl) rfl ?_
  refine z_aload_n dX6_reset_15 rfl rfl ?_
  refine z_iconst (v := 0) dX6_reset_16 (by decide) ?_
  refine z_putI dX6_reset_17 fl_X6_19 rfl rfl (Or.inl rfl) rfl ?_
  exact z_vret dX6_reset_20 rfl rfl rfl
set_option maxRecDepth 100000 in
set_option maxHeartbeats 4000000 in
theorem sp_greset {d : Nat} {σ : Nat → Nat → Int32} {τ : Nat → Nat → Int64} : z_MV M_X2_reset d 0 0 [.ref 9] (124, z_r0, σ, τ) (none) (124, z_r0, z_up (z_up σ 9 1 0) 9 2 0, τ) := by
  refine z_MV.of pn_X2_reset (Nat.le_of_ble_eq_true rfl) (by simp [Value.category]) rfl ?_
  show z_V _ _ _ _ _ _ _ _ _ [_] _ _
  refine z_aload_n dX2_reset_0 rfl rfl ?_
  refine z_iconst (v := 0) dX2_reset_1 (by decide) ?_
  refine z_putI dX2_reset_2 fl_X2_15 rfl rfl (Or.inl rfl) rfl ?_
  refine z_aload_n dX2_reset_5 rfl rfl ?_
  refine z_iconst (v := 0) dX2_reset_6 (by decide) ?_
  refine z_putI dX2_reset_7 fl_X2_19 rfl rfl (Or.inl rfl) rfl ?_
  exact z_vret dX2_reset_10 rfl rfl rfl
set_option maxRecDepth 100000 in
set_option maxHeartbeats 4000000 in
theorem sp_stop {d : Nat} {σ : Nat → Nat → Int32} {τ : Nat → Nat → Int64} : z_MV M_X5_stop d 0 0 [.ref 16] (124, z_r0, σ, τ) (none) (124, z_r0, z_up σ 16 2 (-1), τ) := by
  refine z_MV.of pn_X5_stop (Nat.le_of_ble_eq_true rfl) (by simp [Value.category]) rfl ?_
  show z_V _ _ _ _ _ _ _ _ _ [_] _ _
  refine z_aload_n dX5_stop_0 rfl rfl ?_
  refine z_iconst (v := (-1)) dX5_stop_1 (by decide) ?_
  refine z_putI dX5_stop_2 fl_X5_19 rfl rfl (Or.inl rfl) rfl ?_
  exact z_vret dX5_stop_5 rfl rfl rfl
set_option maxRecDepth 100000 in
set_option maxHeartbeats 4000000 in
theorem sp_startAt {d : Nat} {σ : Nat → Nat → Int32} {τ : Nat → Nat → Int64} {x : Int32} : z_MV M_X5_startAt d 0 0 [.ref 16, .int x] (124, z_r0, σ, τ) (none) (124, z_r0, z_up (z_up σ 16 2 x) 16 3 0, τ) := by
  refine z_MV.of pn_X5_startAt (Nat.le_of_ble_eq_true rfl) (by simp [Value.category]) rfl ?_
  show z_V _ _ _ _ _ _ _ _ _ [_, _] _ _
  refine z_aload_n dX5_startAt_0 rfl rfl ?_
  refine z_iload_n dX5_startAt_1 rfl rfl ?_
  refine z_putI dX5_startAt_2 fl_X5_19 rfl rfl (Or.inl rfl) rfl ?_
  refine z_aload_n dX5_startAt_5 rfl rfl ?_
  refine z_iconst (v := 0) dX5_startAt_6 (by decide) ?_
  refine z_putI dX5_startAt_7 fl_X5_27 rfl rfl (Or.inl rfl) rfl ?_
  exact z_vret dX5_startAt_10 rfl rfl rfl
def b2i (p : Prop) [Decidable p] : Int32 := if p then 1 else 0
set_option maxRecDepth 100000 in
set_option maxHeartbeats 4000000 in
theorem sp_isOn {d : Nat} {σ : Nat → Nat → Int32} {τ : Nat → Nat → Int64} : z_MV M_X5_isOn d 0 0 [.ref 16] (124, z_r0, σ, τ) (some (.int (b2i (σ 16 2 ≠ -1)))) (124, z_r0, σ, τ) := by
  refine z_MV.of pn_X5_isOn (Nat.le_of_ble_eq_true rfl) (by simp [Value.category]) rfl ?_
  show z_V _ _ _ _ _ _ _ _ _ [_] _ _
  refine z_aload_n dX5_isOn_0 rfl rfl ?_
  refine z_getI dX5_isOn_1 fl_X5_19 rfl rfl rfl ?_
  refine z_iconst (v := (-1)) dX5_isOn_4 (by decide) ?_
  refine z_icmp_eq (tgt := 12) dX5_isOn_5 (by decide) (fun c5 => ?_) (fun c5 => ?_)
  · refine z_iconst (v := 0) dX5_isOn_12 (by decide) ?_
    exact z_zret dX5_isOn_13 rfl (by first | exact Or.inl rfl | exact Or.inr rfl) (by simp_all [b2i]) rfl
  · refine z_iconst (v := 1) dX5_isOn_8 (by decide) ?_
    refine z_goto (tgt := 13) dX5_isOn_9 (by decide) ?_
    exact z_zret dX5_isOn_13 rfl (by first | exact Or.inl rfl | exact Or.inr rfl) (by simp_all [b2i]) rfl
set_option maxRecDepth 100000 in
set_option maxHeartbeats 4000000 in
theorem sp_note {d : Nat} {σ : Nat → Nat → Int32} {τ : Nat → Nat → Int64} {e : Nat} {x y : Int32} (hd : σ 16 3 = nI e) (he : e < 30) (hw : y = 0 ∨ y = 1) : z_MV M_X5_note d 0 0 [.ref 16, .int x, .int y] (124, z_r0, σ, τ) (none) (124, z_r0, z_up (z_up (z_up σ 17 e x) 18 e y) 16 3 (nI (e + 1)), τ) := by
  refine z_MV.of pn_X5_note (Nat.le_of_ble_eq_true rfl) (by simp [Value.category]) rfl ?_
  show z_V _ _ _ _ _ _ _ _ _ [_, _, _] _ _
  refine z_aload_n dX5_note_0 rfl rfl ?_
  refine z_getR dX5_note_1 fl_X5_9 rfl rfl rfl ?_
  refine z_aload_n dX5_note_4 rfl rfl ?_
  refine z_getI dX5_note_5 fl_X5_27 rfl rfl (show _ = nI e by simp [z_up, hd]) ?_
  refine z_iload_n dX5_note_8 rfl rfl ?_
  refine z_iast dX5_note_9 rfl rfl (by omega) ?_
  refine z_aload_n dX5_note_10 rfl rfl ?_
  refine z_getR dX5_note_11 fl_X5_15 rfl rfl rfl ?_
  refine z_aload_n dX5_note_14 rfl rfl ?_
  refine z_getI dX5_note_15 fl_X5_27 rfl rfl (show _ = nI e by simp [z_up, hd]) ?_
  refine z_iload_n dX5_note_18 rfl rfl ?_
  refine z_zast dX5_note_19 rfl rfl (by omega) hw ?_
  refine z_aload_n dX5_note_20 rfl rfl ?_
  refine z_dup dX5_note_21 rfl ?_
  refine z_getI dX5_note_22 fl_X5_27 rfl rfl (show _ = nI e by simp [z_up, hd]) ?_
  refine z_iconst (v := 1) dX5_note_25 (by decide) ?_
  refine z_iadd dX5_note_26 (nI_1 _) ?_
  refine z_putI dX5_note_27 fl_X5_27 rfl rfl (Or.inl rfl) rfl ?_
  exact z_vret dX5_note_30 rfl rfl rfl
set_option maxRecDepth 100000 in
set_option maxHeartbeats 4000000 in
theorem sp_isFull {d : Nat} {σ : Nat → Nat → Int32} {τ : Nat → Nat → Int64} : z_MV M_X5_isFull (d + 1) 0 0 [.ref 16] (124, z_r0, σ, τ) (some (.int (b2i (σ 16 2 ≠ -1 ∧ σ 16 3 = nI 30)))) (124, z_r0, σ, τ) := by
  refine z_MV.of pn_X5_isFull (Nat.le_of_ble_eq_true rfl) (by simp [Value.category]) rfl ?_
  show z_V _ _ _ _ _ _ _ _ _ [_] _ _
  refine z_aload_n dX5_isFull_0 rfl rfl ?_
  refine z_cV1 dX5_isFull_1 ml_X5_23 (sp_isOn) rfl ⟨by decide, rfl⟩ rfl rfl (Nat.le_of_ble_eq_true rfl) ?_
  refine z_if_eq (tgt := 20) dX5_isFull_4 (by decide) (fun c4 => ?_) (fun c4 => ?_)
  · refine z_iconst (v := 0) dX5_isFull_20 (by decide) ?_
    exact z_zret dX5_isFull_21 rfl (by first | exact Or.inl rfl | exact Or.inr rfl) (by simp_all [b2i]) rfl
  · refine z_aload_n dX5_isFull_7 rfl rfl ?_
    refine z_getI dX5_isFull_8 fl_X5_27 rfl rfl rfl ?_
    refine z_bipush (v := nI 30) dX5_isFull_11 (by decide) ?_
    refine z_icmp_ne (tgt := 20) dX5_isFull_13 (by decide) (fun c13 => ?_) (fun c13 => ?_)
    · refine z_iconst (v := 0) dX5_isFull_20 (by decide) ?_
      exact z_zret dX5_isFull_21 rfl (by first | exact Or.inl rfl | exact Or.inr rfl) (by simp_all [b2i]) rfl
    · refine z_iconst (v := 1) dX5_isFull_16 (by decide) ?_
      refine z_goto (tgt := 21) dX5_isFull_17 (by decide) ?_
      exact z_zret dX5_isFull_21 rfl (by first | exact Or.inl rfl | exact Or.inr rfl) (by simp_all [b2i]) rfl
set_option maxRecDepth 100000 in
set_option maxHeartbeats 4000000 in
theorem sp_closesAt {d : Nat} {σ : Nat → Nat → Int32} {τ : Nat → Nat → Int64} {x : Int32} : z_MV M_X5_closesAt (d + 1) 0 0 [.ref 16, .int x] (124, z_r0, σ, τ) (some (.int (b2i (σ 16 2 ≠ -1 ∧ ¬ σ 16 3 ≤ 0 ∧ x = σ 16 2)))) (124, z_r0, σ, τ) := by
  refine z_MV.of pn_X5_closesAt (Nat.le_of_ble_eq_true rfl) (by simp [Value.category]) rfl ?_
  show z_V _ _ _ _ _ _ _ _ _ [_, _] _ _
  refine z_aload_n dX5_closesAt_0 rfl rfl ?_
  refine z_cV1 dX5_closesAt_1 ml_X5_23 (sp_isOn) rfl ⟨by decide, rfl⟩ rfl rfl (Nat.le_of_ble_eq_true rfl) ?_
  refine z_if_eq (tgt := 26) dX5_closesAt_4 (by decide) (fun c4 => ?_) (fun c4 => ?_)
  · refine z_iconst (v := 0) dX5_closesAt_26 (by decide) ?_
    exact z_zret dX5_closesAt_27 rfl (by first | exact Or.inl rfl | exact Or.inr rfl) (by simp_all [b2i]) rfl
  · refine z_aload_n dX5_closesAt_7 rfl rfl ?_
    refine z_getI dX5_closesAt_8 fl_X5_27 rfl rfl rfl ?_
    refine z_if_le (tgt := 26) dX5_closesAt_11 (by decide) (fun c11 => ?_) (fun c11 => ?_)
    · refine z_iconst (v := 0) dX5_closesAt_26 (by decide) ?_
      exact z_zret dX5_closesAt_27 rfl (by first | exact Or.inl rfl | exact Or.inr rfl) (by simp_all [b2i]) rfl
    · refine z_iload_n dX5_closesAt_14 rfl rfl ?_
      refine z_aload_n dX5_closesAt_15 rfl rfl ?_
      refine z_getI dX5_closesAt_16 fl_X5_19 rfl rfl rfl ?_
      refine z_icmp_ne (tgt := 26) dX5_closesAt_19 (by decide) (fun c19 => ?_) (fun c19 => ?_)
      · refine z_iconst (v := 0) dX5_closesAt_26 (by decide) ?_
        exact z_zret dX5_closesAt_27 rfl (by first | exact Or.inl rfl | exact Or.inr rfl) (by simp_all [b2i]) rfl
      · refine z_iconst (v := 1) dX5_closesAt_22 (by decide) ?_
        refine z_goto (tgt := 27) dX5_closesAt_23 (by decide) ?_
        exact z_zret dX5_closesAt_27 rfl (by first | exact Or.inl rfl | exact Or.inr rfl) (by simp_all [b2i]) rfl
def fillR (σ : Nat → Nat → Int32) (a : Nat) (x : Int32) (i : Nat) : Nat → Nat → Int32 := z_row σ a (fun j => if j < i then x else σ a j)
theorem fillR_0 (σ : Nat → Nat → Int32) (a : Nat) (x : Int32) : fillR σ a x 0 = σ := by
  funext b j
  by_cases hb : b = a <;> simp [fillR, z_row, hb]
theorem fillR_s (σ : Nat → Nat → Int32) (a : Nat) (x : Int32) (i : Nat) : z_up (fillR σ a x i) a i x = fillR σ a x (i + 1) := by
  funext b j
  by_cases hb : b = a
  · subst hb
    by_cases hj : j = i
    · subst hj; simp [fillR, z_row, z_up]
    · simp only [fillR, z_row, z_up, hj, and_false, ↓reduceIte]
      have : j < i + 1 ↔ j < i := by omega
      simp [this]
  · simp [fillR, z_row, z_up, hb]
set_option maxRecDepth 100000 in
set_option maxHeartbeats 4000000 in
theorem fill_loop {d : Nat} {σ : Nat → Nat → Int32} {τ : Nat → Nat → Int64} {a len : Nat} {x : Int32} (hk : z_k a = (1, len)) : ∀ (m i : Nat), i ≤ len → len - i < m → z_V M_J7_fill_53178 d 0 0 0 0 none (124, z_r0, fillR σ a x len, τ) 5 [some (.ref a), some (.int x), some (.int (nI i)), some (.int (nI len))] [] (124, z_r0, fillR σ a x i, τ) := by
  have hl := z_len hk
  intro m
  induction m with
  | zero => intro i _ h; omega
  | succ m ih =>
    intro i hi hm
    refine z_iload_n dJ7_fill_53178_5 rfl rfl ?_
    refine z_iload_n dJ7_fill_53178_6 rfl rfl ?_
    refine z_icmp_ge (tgt := 20) dJ7_fill_53178_7 (by decide) (fun c7 => ?_) (fun c7 => ?_)
    · have e0 : i = len := by
        rcases Nat.lt_or_ge i len with q | q
        · exact absurd c7 (nI_ge q hl)
        · omega
      subst e0
      exact z_vret dJ7_fill_53178_20 rfl rfl rfl
    · have hlt : i < len := by
        rcases Nat.lt_or_ge i len with q | q
        · exact q
        · exact absurd (nI_le q (by omega)) c7
      refine z_aload_n dJ7_fill_53178_10 rfl rfl ?_
      refine z_iload_n dJ7_fill_53178_11 rfl rfl ?_
      refine z_iload_n dJ7_fill_53178_12 rfl rfl ?_
      refine z_iast dJ7_fill_53178_13 hk rfl (by omega) ?_
      refine z_iinc dJ7_fill_53178_14 rfl (nI_i _) (by decide) ?_
      show z_V _ _ _ _ _ _ _ _ _ [_, _, _, _] _ _
      refine z_goto (tgt := 5) dJ7_fill_53178_17 (by decide) ?_
      rw [fillR_s]
      exact ih (i + 1) (by omega) (by omega)
set_option maxRecDepth 100000 in
set_option maxHeartbeats 4000000 in
theorem sp_fill {d : Nat} {σ : Nat → Nat → Int32} {τ : Nat → Nat → Int64} {a len : Nat} {x : Int32} (hk : z_k a = (1, len)) : z_MV M_J7_fill_53178 d 0 0 [.ref a, .int x] (124, z_r0, σ, τ) (none) (124, z_r0, fillR σ a x len, τ) := by
  refine z_MV.of pn_J7_fill_53178 (Nat.le_of_ble_eq_true rfl) (by simp [Value.category]) rfl ?_
  show z_V _ _ _ _ _ _ _ _ _ [_, _, _, _] _ _
  refine z_iconst (v := 0) dJ7_fill_53178_0 (by decide) ?_
  refine z_istore_n dJ7_fill_53178_1 rfl (by decide) ?_
  show z_V _ _ _ _ _ _ _ _ _ [_, _, _, _] _ _
  refine z_aload_n dJ7_fill_53178_2 rfl rfl ?_
  refine z_alen dJ7_fill_53178_3 hk (Or.inl rfl) rfl ?_
  refine z_istore_n dJ7_fill_53178_4 rfl (by decide) ?_
  show z_V _ _ _ _ _ _ _ _ _ [_, _, _, _] _ _
  have h0 := fill_loop (d := d) (σ := σ) (τ := τ) (x := x) hk (len + 1) 0 (Nat.zero_le _) (by omega)
  rw [fillR_0] at h0
  exact h0
set_option maxRecDepth 100000 in
set_option maxHeartbeats 4000000 in
theorem sp_freset {d : Nat} {σ : Nat → Nat → Int32} {τ : Nat → Nat → Int64} {f : Nat} (hf0 : f = 6 ∨ f = 20) : z_MV M_X1_reset (d + 1) 0 0 [.ref f] (124, z_r0, σ, τ) (none) (124, z_r0, z_up (z_up (fillR σ (f + 1) 0 6) f 2 0) f 3 0, τ) := by
  refine z_MV.of pn_X1_reset (Nat.le_of_ble_eq_true rfl) (by simp [Value.category]) rfl ?_
  show z_V _ _ _ _ _ _ _ _ _ [_] _ _
  have hf := fr_k hf0
  refine z_aload_n dX1_reset_0 rfl rfl ?_
  refine z_getR dX1_reset_1 fl_X1_9 rfl hf.1 hf.2.2.2.1 ?_
  refine z_iconst (v := 0) dX1_reset_4 (by decide) ?_
  refine z_cS0 dX1_reset_5 ml_X1_18 (sp_fill hf.2.1) rfl rfl (Nat.le_of_ble_eq_true rfl) ?_
  refine z_aload_n dX1_reset_8 rfl rfl ?_
  refine z_iconst (v := 0) dX1_reset_9 (by decide) ?_
  refine z_putI dX1_reset_10 fl_X1_24 rfl rfl (Or.inl rfl) hf.1 ?_
  refine z_aload_n dX1_reset_13 rfl rfl ?_
  refine z_iconst (v := 0) dX1_reset_14 (by decide) ?_
  refine z_putI dX1_reset_15 fl_X1_28 rfl rfl (Or.inl rfl) hf.1 ?_
  exact z_vret dX1_reset_18 rfl rfl rfl
set_option maxRecDepth 100000 in
set_option maxHeartbeats 4000000 in
theorem sp_preset {d : Nat} {σ : Nat → Nat → Int32} {τ : Nat → Nat → Int64} : z_MV M_X4_reset (d + 1) 0 0 [.ref 12] (124, z_r0, σ, τ) (none) (124, z_r0, fillR (fillR (fillR σ 13 0 40) 14 0 40) 15 (-1) 40, τ) := by
  refine z_MV.of pn_X4_reset (Nat.le_of_ble_eq_true rfl) (by simp [Value.category]) rfl ?_
  show z_V _ _ _ _ _ _ _ _ _ [_] _ _
  refine z_aload_n dX4_reset_0 rfl rfl ?_
  refine z_getR dX4_reset_1 fl_X4_9 rfl rfl rfl ?_
  refine z_iconst (v := 0) dX4_reset_4 (by decide) ?_
  refine z_cS0 dX4_reset_5 ml_X4_21 (sp_fill (by rfl)) rfl rfl (Nat.le_of_ble_eq_true rfl) ?_
  refine z_aload_n dX4_reset_8 rfl rfl ?_
  refine z_getR dX4_reset_9 fl_X4_15 rfl rfl rfl ?_
  refine z_iconst (v := 0) dX4_reset_12 (by decide) ?_
  refine z_cS0 dX4_reset_13 ml_X4_21 (sp_fill (by rfl)) rfl rfl (Nat.le_of_ble_eq_true rfl) ?_
  refine z_aload_n dX4_reset_16 rfl rfl ?_
  refine z_getR dX4_reset_17 fl_X4_18 rfl rfl rfl ?_
  refine z_iconst (v := (-1)) dX4_reset_20 (by decide) ?_
  refine z_cS0 dX4_reset_21 ml_X4_21 (sp_fill (by rfl)) rfl rfl (Nat.le_of_ble_eq_true rfl) ?_
  exact z_vret dX4_reset_24 rfl rfl rfl
end
section
/-! PART 21: Values -/
def wk (op : Nat) (a b : Int32) : Int32 := if op = 3 then a + b else if op = 4 then a - b else if op = 5 then a * b else if op = 6 then a &&& b else if op = 7 then (if a < b then 1 else 0) else (if a = b then 1 else 0)
set_option maxRecDepth 100000 in
set_option maxHeartbeats 4000000 in
theorem sp_result {d op : Nat} {a b : Int32} {X : z_X} (h3 : 3 ≤ op) (h8 : op ≤ 8) : z_MV M_X9_result d 0 0 [.int (nI op), .int a, .int b] X (some (.int (wk op a b))) X := by
  refine z_MV.of pn_X9_result (Nat.le_of_ble_eq_true rfl) (by simp [Value.category]) rfl ?_
  show z_V _ _ _ _ _ _ _ _ _ [_, _, _] _ _
  rcases (show op = 3 ∨ op = 4 ∨ op = 5 ∨ op = 6 ∨ op = 7 ∨ op = 8 by omega) with rfl | rfl | rfl | rfl | rfl | rfl
  · refine z_iload_n dX9_result_0 rfl rfl ?_
    refine z_tableIn (off := 35) (tgt := 36) dX9_result_1 (by decide) (by decide) (by decide) (by decide) ?_
    refine z_iload_n dX9_result_36 rfl rfl ?_
    refine z_iload_n dX9_result_37 rfl rfl ?_
    refine z_iadd dX9_result_38 rfl ?_
    exact z_iret dX9_result_39 rfl (by first | rfl | simp_all [wk]) rfl
  · refine z_iload_n dX9_result_0 rfl rfl ?_
    refine z_tableIn (off := 39) (tgt := 40) dX9_result_1 (by decide) (by decide) (by decide) (by decide) ?_
    refine z_iload_n dX9_result_40 rfl rfl ?_
    refine z_iload_n dX9_result_41 rfl rfl ?_
    refine z_isub dX9_result_42 rfl ?_
    exact z_iret dX9_result_43 rfl (by first | rfl | simp_all [wk]) rfl
  · refine z_iload_n dX9_result_0 rfl rfl ?_
    refine z_tableIn (off := 43) (tgt := 44) dX9_result_1 (by decide) (by decide) (by decide) (by decide) ?_
    refine z_iload_n dX9_result_44 rfl rfl ?_
    refine z_iload_n dX9_result_45 rfl rfl ?_
    refine z_imul dX9_result_46 rfl ?_
    exact z_iret dX9_result_47 rfl (by first | rfl | simp_all [wk]) rfl
  · refine z_iload_n dX9_result_0 rfl rfl ?_
    refine z_tableIn (off := 47) (tgt := 48) dX9_result_1 (by decide) (by decide) (by decide) (by decide) ?_
    refine z_iload_n dX9_result_48 rfl rfl ?_
    refine z_iload_n dX9_result_49 rfl rfl ?_
    refine z_iand dX9_result_50 rfl ?_
    exact z_iret dX9_result_51 rfl (by first | rfl | simp_all [wk]) rfl
  · refine z_iload_n dX9_result_0 rfl rfl ?_
    refine z_tableIn (off := 51) (tgt := 52) dX9_result_1 (by decide) (by decide) (by decide) (by decide) ?_
    refine z_iload_n dX9_result_52 rfl rfl ?_
    refine z_iload_n dX9_result_53 rfl rfl ?_
    refine z_icmp_ge (tgt := 61) dX9_result_54 (by decide) (fun c54 => ?_) (fun c54 => ?_)
    · refine z_iconst (v := 0) dX9_result_61 (by decide) ?_
      exact z_iret dX9_result_62 rfl (by first | rfl | simp_all [wk]) rfl
    · refine z_iconst (v := 1) dX9_result_57 (by decide) ?_
      refine z_goto (tgt := 62) dX9_result_58 (by decide) ?_
      exact z_iret dX9_result_62 rfl (by first | rfl | simp_all [wk]) rfl
  · refine z_iload_n dX9_result_0 rfl rfl ?_
    refine z_tableOut (tgt := 63) dX9_result_1 (by decide) (by decide) ?_
    refine z_iload_n dX9_result_63 rfl rfl ?_
    refine z_iload_n dX9_result_64 rfl rfl ?_
    refine z_icmp_ne (tgt := 72) dX9_result_65 (by decide) (fun c65 => ?_) (fun c65 => ?_)
    · refine z_iconst (v := 0) dX9_result_72 (by decide) ?_
      exact z_iret dX9_result_73 rfl (by first | rfl | simp_all [wk]) rfl
    · refine z_iconst (v := 1) dX9_result_68 (by decide) ?_
      refine z_goto (tgt := 73) dX9_result_69 (by decide) ?_
      exact z_iret dX9_result_73 rfl (by first | rfl | simp_all [wk]) rfl
set_option maxRecDepth 100000 in
set_option maxHeartbeats 4000000 in
theorem sp_isNumber {d : Nat} {σ : Nat → Nat → Int32} {τ : Nat → Nat → Int64} {t v : Nat} (ht : t < 4) (hv : v < 36) : z_MV M_X9_isNumber d 0 0 [.ref (tr t + 1), .int (nI v)] (124, z_r0, σ, τ) (some (.int (b2i (σ (tr t + 2) v = 0)))) (124, z_r0, σ, τ) := by
  refine z_MV.of pn_X9_isNumber (Nat.le_of_ble_eq_true rfl) (by simp [Value.category]) rfl ?_
  show z_V _ _ _ _ _ _ _ _ _ [_, _] _ _
  have hk := tr_k ht
  have hr := tr_r ht
  refine z_aload_n dX9_isNumber_0 rfl rfl ?_
  refine z_getR dX9_isNumber_1 fl_X9_9 rfl hk.2.1 hr.2.2.2.2.2.2.2.1 ?_
  refine z_iload_n dX9_isNumber_4 rfl rfl ?_
  refine z_iald dX9_isNumber_5 hk.2.2.1 rfl (by omega) rfl ?_
  refine z_if_ne (tgt := 13) dX9_isNumber_6 (by decide) (fun c6 => ?_) (fun c6 => ?_)
  · refine z_iconst (v := 0) dX9_isNumber_13 (by decide) ?_
    exact z_zret dX9_isNumber_14 rfl (by first | exact Or.inl rfl | exact Or.inr rfl) (by simp_all [b2i]) rfl
  · refine z_iconst (v := 1) dX9_isNumber_9 (by decide) ?_
    refine z_goto (tgt := 14) dX9_isNumber_10 (by decide) ?_
    exact z_zret dX9_isNumber_14 rfl (by first | exact Or.inl rfl | exact Or.inr rfl) (by simp_all [b2i]) rfl
set_option maxRecDepth 100000 in
set_option maxHeartbeats 4000000 in
theorem sp_isOperation {d : Nat} {σ : Nat → Nat → Int32} {τ : Nat → Nat → Int64} {t v : Nat} (ht : t < 4) (hv : v < 36) : z_MV M_X9_isOperation d 0 0 [.ref (tr t + 1), .int (nI v)] (124, z_r0, σ, τ) (some (.int (b2i (σ (tr t + 2) v ≠ 0 ∧ σ (tr t + 2) v ≠ 1)))) (124, z_r0, σ, τ) := by
  refine z_MV.of pn_X9_isOperation (Nat.le_of_ble_eq_true rfl) (by simp [Value.category]) rfl ?_
  show z_V _ _ _ _ _ _ _ _ _ [_, _] _ _
  have hk := tr_k ht
  have hr := tr_r ht
  refine z_aload_n dX9_isOperation_0 rfl rfl ?_
  refine z_getR dX9_isOperation_1 fl_X9_9 rfl hk.2.1 hr.2.2.2.2.2.2.2.1 ?_
  refine z_iload_n dX9_isOperation_4 rfl rfl ?_
  refine z_iald dX9_isOperation_5 hk.2.2.1 rfl (by omega) rfl ?_
  refine z_if_eq (tgt := 23) dX9_isOperation_6 (by decide) (fun c6 => ?_) (fun c6 => ?_)
  · refine z_iconst (v := 0) dX9_isOperation_23 (by decide) ?_
    exact z_zret dX9_isOperation_24 rfl (by first | exact Or.inl rfl | exact Or.inr rfl) (by simp_all [b2i]) rfl
  · refine z_aload_n dX9_isOperation_9 rfl rfl ?_
    refine z_getR dX9_isOperation_10 fl_X9_9 rfl hk.2.1 hr.2.2.2.2.2.2.2.1 ?_
    refine z_iload_n dX9_isOperation_13 rfl rfl ?_
    refine z_iald dX9_isOperation_14 hk.2.2.1 rfl (by omega) rfl ?_
    refine z_iconst (v := 1) dX9_isOperation_15 (by decide) ?_
    refine z_icmp_eq (tgt := 23) dX9_isOperation_16 (by decide) (fun c16 => ?_) (fun c16 => ?_)
    · refine z_iconst (v := 0) dX9_isOperation_23 (by decide) ?_
      exact z_zret dX9_isOperation_24 rfl (by first | exact Or.inl rfl | exact Or.inr rfl) (by simp_all [b2i]) rfl
    · refine z_iconst (v := 1) dX9_isOperation_19 (by decide) ?_
      refine z_goto (tgt := 24) dX9_isOperation_20 (by decide) ?_
      exact z_zret dX9_isOperation_24 rfl (by first | exact Or.inl rfl | exact Or.inr rfl) (by simp_all [b2i]) rfl
set_option maxRecDepth 100000 in
set_option maxHeartbeats 4000000 in
theorem sp_work {d : Nat} {σ : Nat → Nat → Int32} {τ : Nat → Nat → Int64} {t v : Nat} (ht : t < 4) (hv : v < 36) {op a b : Nat} (hop : σ (tr t + 2) v = nI op) (h3 : 3 ≤ op) (h8 : op ≤ 8) (hla : σ (tr t + 3) v = nI a) (ha : a < 36) (hlb : σ (tr t + 4) v = nI b) (hb : b < 36) : z_MV M_X9_work (d + 1) 0 0 [.ref (tr t + 1), .int (nI v)] (124, z_r0, σ, τ) (none) (124, z_r0, z_up σ (tr t + 5) v (wk op (σ (tr t + 5) a) (σ (tr t + 5) b)), τ) := by
  refine z_MV.of pn_X9_work (Nat.le_of_ble_eq_true rfl) (by simp [Value.category]) rfl ?_
  show z_V _ _ _ _ _ _ _ _ _ [_, _] _ _
  have hk := tr_k ht
  have hr := tr_r ht
  refine z_aload_n dX9_work_0 rfl rfl ?_
  refine z_getR dX9_work_1 fl_X9_21 rfl hk.2.1 hr.2.2.2.2.2.2.2.2.2.2.1 ?_
  refine z_iload_n dX9_work_4 rfl rfl ?_
  refine z_aload_n dX9_work_5 rfl rfl ?_
  refine z_getR dX9_work_6 fl_X9_9 rfl hk.2.1 hr.2.2.2.2.2.2.2.1 ?_
  refine z_iload_n dX9_work_9 rfl rfl ?_
  refine z_iald dX9_work_10 hk.2.2.1 rfl (by omega) hop ?_
  refine z_aload_n dX9_work_11 rfl rfl ?_
  refine z_getR dX9_work_12 fl_X9_21 rfl hk.2.1 hr.2.2.2.2.2.2.2.2.2.2.1 ?_
  refine z_aload_n dX9_work_15 rfl rfl ?_
  refine z_getR dX9_work_16 fl_X9_15 rfl hk.2.1 hr.2.2.2.2.2.2.2.2.1 ?_
  refine z_iload_n dX9_work_19 rfl rfl ?_
  refine z_iald dX9_work_20 hk.2.2.2.1 rfl (by omega) hla ?_
  refine z_iald dX9_work_21 hk.2.2.2.2.2.1 rfl (by omega) rfl ?_
  refine z_aload_n dX9_work_22 rfl rfl ?_
  refine z_getR dX9_work_23 fl_X9_21 rfl hk.2.1 hr.2.2.2.2.2.2.2.2.2.2.1 ?_
  refine z_aload_n dX9_work_26 rfl rfl ?_
  refine z_getR dX9_work_27 fl_X9_18 rfl hk.2.1 hr.2.2.2.2.2.2.2.2.2.1 ?_
  refine z_iload_n dX9_work_30 rfl rfl ?_
  refine z_iald dX9_work_31 hk.2.2.2.2.1 rfl (by omega) hlb ?_
  refine z_iald dX9_work_32 hk.2.2.2.2.2.1 rfl (by omega) rfl ?_
  refine z_cS1 dX9_work_33 ml_X9_38 (sp_result h3 h8) rfl rfl (Nat.le_of_ble_eq_true rfl) ?_
  refine z_iast dX9_work_36 hk.2.2.2.2.2.1 rfl (by omega) ?_
  exact z_vret dX9_work_37 rfl rfl rfl
end
section
/-! PART 22: Values.share, Values.reset, Values.takeLocals -/
def mt (σ : Nat → Nat → Int32) (T j : Nat) (k l r : Int32) : Prop := σ (T + 2) j = k ∧ σ (T + 3) j = l ∧ σ (T + 4) j = r
def shr (σ : Nat → Nat → Int32) (T n : Nat) (k l r : Int32) : Nat → Nat → Int32 := z_up (z_up (z_up (z_up (z_up σ (T + 2) n k) (T + 3) n l) (T + 4) n r) (T + 5) n (if k = 0 then l else 0)) (T + 1) 4 (nI (n + 1))
set_option maxRecDepth 100000 in
set_option maxHeartbeats 4000000 in
theorem share_old_loop {d : Nat} {σ : Nat → Nat → Int32} {τ : Nat → Nat → Int64} {t n : Nat} {k l r : Int32} (ht : t < 4) (hn : σ (tr t + 1) 4 = nI n) {v0 : Nat} (h36 : n ≤ 36) (hv0 : v0 < n) (hm : mt σ (tr t) v0 k l r) (hno : ∀ j, j < v0 → ¬ mt σ (tr t) j k l r) : ∀ (m v : Nat), v ≤ v0 → v0 - v < m → z_V M_X9_share d 0 0 0 0 (some (.int (nI v0))) (124, z_r0, σ, τ) 3 [some (.ref (tr t + 1)), some (.int k), some (.int l), some (.int r), some (.int (nI v))] [] (124, z_r0, σ, τ) := by
  have hk := tr_k ht
  have hr := tr_r ht
  intro m
  induction m with
  | zero => intro v _ h; omega
  | succ m ih =>
    intro v hv1 hv2
    refine z_iload dX9_share_3 rfl ?_
    refine z_aload_n dX9_share_5 rfl rfl ?_
    refine z_getI dX9_share_6 fl_X9_24 rfl hk.2.1 (show _ = nI n by simp [z_up, hn]) ?_
    refine z_icmp_ge (tgt := 54) dX9_share_9 (by decide) (fun c_ => absurd c_ (nI_ge (show v < n by omega) (by omega))) (fun _ => ?_)
    refine z_aload_n dX9_share_12 rfl rfl ?_
    refine z_getR dX9_share_13 fl_X9_9 rfl hk.2.1 hr.2.2.2.2.2.2.2.1 ?_
    refine z_iload dX9_share_16 rfl ?_
    refine z_iald dX9_share_18 hk.2.2.1 rfl (by omega) rfl ?_
    refine z_iload_n dX9_share_19 rfl rfl ?_
    refine z_icmp_ne (tgt := 48) dX9_share_20 (by decide) (fun c20 => ?_) (fun c20 => ?_)
    · refine z_iinc dX9_share_48 rfl (nI_i _) (by decide) ?_
      show z_V _ _ _ _ _ _ _ _ _ [_, _, _, _, _] _ _
      refine z_goto (tgt := 3) dX9_share_51 (by decide) ?_
      have hne : v ≠ v0 := by
        intro q
        subst q
        obtain ⟨m1, m2, m3⟩ := hm
        first | exact c20 m1 | exact c31 m2 | exact c42 m3
      exact ih (v + 1) (by omega) (by omega)
    · refine z_aload_n dX9_share_23 rfl rfl ?_
      refine z_getR dX9_share_24 fl_X9_15 rfl hk.2.1 hr.2.2.2.2.2.2.2.2.1 ?_
      refine z_iload dX9_share_27 rfl ?_
      refine z_iald dX9_share_29 hk.2.2.2.1 rfl (by omega) rfl ?_
      refine z_iload_n dX9_share_30 rfl rfl ?_
      refine z_icmp_ne (tgt := 48) dX9_share_31 (by decide) (fun c31 => ?_) (fun c31 => ?_)
      · refine z_iinc dX9_share_48 rfl (nI_i _) (by decide) ?_
        show z_V _ _ _ _ _ _ _ _ _ [_, _, _, _, _] _ _
        refine z_goto (tgt := 3) dX9_share_51 (by decide) ?_
        have hne : v ≠ v0 := by
          intro q
          subst q
          obtain ⟨m1, m2, m3⟩ := hm
          first | exact c20 m1 | exact c31 m2 | exact c42 m3
        exact ih (v + 1) (by omega) (by omega)
      · refine z_aload_n dX9_share_34 rfl rfl ?_
        refine z_getR dX9_share_35 fl_X9_18 rfl hk.2.1 hr.2.2.2.2.2.2.2.2.2.1 ?_
        refine z_iload dX9_share_38 rfl ?_
        refine z_iald dX9_share_40 hk.2.2.2.2.1 rfl (by omega) rfl ?_
        refine z_iload_n dX9_share_41 rfl rfl ?_
        refine z_icmp_ne (tgt := 48) dX9_share_42 (by decide) (fun c42 => ?_) (fun c42 => ?_)
        · refine z_iinc dX9_share_48 rfl (nI_i _) (by decide) ?_
          show z_V _ _ _ _ _ _ _ _ _ [_, _, _, _, _] _ _
          refine z_goto (tgt := 3) dX9_share_51 (by decide) ?_
          have hne : v ≠ v0 := by
            intro q
            subst q
            obtain ⟨m1, m2, m3⟩ := hm
            first | exact c20 m1 | exact c31 m2 | exact c42 m3
          exact ih (v + 1) (by omega) (by omega)
        · have hv : v = v0 := by
            rcases Nat.lt_or_ge v v0 with q | q
            · exact absurd ⟨c20, c31, c42⟩ (hno v q)
            · omega
          subst hv
          refine z_iload dX9_share_45 rfl ?_
          exact z_iret dX9_share_47 rfl rfl rfl
set_option maxRecDepth 100000 in
set_option maxHeartbeats 4000000 in
theorem sp_share_old {d : Nat} {σ : Nat → Nat → Int32} {τ : Nat → Nat → Int64} {t n : Nat} {k l r : Int32} (ht : t < 4) (hn : σ (tr t + 1) 4 = nI n) {v0 : Nat} (h36 : n ≤ 36) (hv0 : v0 < n) (hm : mt σ (tr t) v0 k l r) (hno : ∀ j, j < v0 → ¬ mt σ (tr t) j k l r) : z_MV M_X9_share d 0 0 [.ref (tr t + 1), .int k, .int l, .int r] (124, z_r0, σ, τ) (some (.int (nI v0))) (124, z_r0, σ, τ) := by
  refine z_MV.of pn_X9_share (Nat.le_of_ble_eq_true rfl) (by simp [Value.category]) rfl ?_
  show z_V _ _ _ _ _ _ _ _ _ [_, _, _, _, _] _ _
  refine z_iconst (v := 0) dX9_share_0 (by decide) ?_
  refine z_istore dX9_share_1 (by decide) ?_
  show z_V _ _ _ _ _ _ _ _ _ [_, _, _, _, _] _ _
  exact share_old_loop ht hn h36 hv0 hm hno (v0 + 1) 0 (Nat.zero_le _) (by omega)
set_option maxRecDepth 100000 in
set_option maxHeartbeats 4000000 in
theorem share_new_loop {d : Nat} {σ : Nat → Nat → Int32} {τ : Nat → Nat → Int64} {t n : Nat} {k l r : Int32} (ht : t < 4) (hn : σ (tr t + 1) 4 = nI n) (h36 : n < 36) (hno : ∀ j, j < n → ¬ mt σ (tr t) j k l r) : ∀ (m v : Nat), v ≤ n → n - v < m → z_V M_X9_share d 0 0 0 0 (some (.int (nI n))) (124, z_r0, shr σ (tr t) n k l r, τ) 3 [some (.ref (tr t + 1)), some (.int k), some (.int l), some (.int r), some (.int (nI v))] [] (124, z_r0, σ, τ) := by
  have hk := tr_k ht
  have hr := tr_r ht
  intro m
  induction m with
  | zero => intro v _ h; omega
  | succ m ih =>
    intro v hv1 hv2
    refine z_iload dX9_share_3 rfl ?_
    refine z_aload_n dX9_share_5 rfl rfl ?_
    refine z_getI dX9_share_6 fl_X9_24 rfl hk.2.1 (show _ = nI n by simp [z_up, hn]) ?_
    refine z_icmp_ge (tgt := 54) dX9_share_9 (by decide) (fun c9 => ?_) (fun c9 => ?_)
    · have e0 : n = v := by
        rcases Nat.lt_or_ge v n with q | q
        · exact absurd c9 (nI_ge q (by omega))
        · omega
      subst e0
      refine z_aload_n dX9_share_54 rfl rfl ?_
      refine z_getR dX9_share_55 fl_X9_9 rfl hk.2.1 hr.2.2.2.2.2.2.2.1 ?_
      refine z_aload_n dX9_share_58 rfl rfl ?_
      refine z_getI dX9_share_59 fl_X9_24 rfl hk.2.1 (show _ = nI n by simp [z_up, hn]) ?_
      refine z_iload_n dX9_share_62 rfl rfl ?_
      refine z_iast dX9_share_63 hk.2.2.1 rfl (by omega) ?_
      refine z_aload_n dX9_share_64 rfl rfl ?_
      refine z_getR dX9_share_65 fl_X9_15 rfl hk.2.1 hr.2.2.2.2.2.2.2.2.1 ?_
      refine z_aload_n dX9_share_68 rfl rfl ?_
      refine z_getI dX9_share_69 fl_X9_24 rfl hk.2.1 (show _ = nI n by simp [z_up, hn]) ?_
      refine z_iload_n dX9_share_72 rfl rfl ?_
      refine z_iast dX9_share_73 hk.2.2.2.1 rfl (by omega) ?_
      refine z_aload_n dX9_share_74 rfl rfl ?_
      refine z_getR dX9_share_75 fl_X9_18 rfl hk.2.1 hr.2.2.2.2.2.2.2.2.2.1 ?_
      refine z_aload_n dX9_share_78 rfl rfl ?_
      refine z_getI dX9_share_79 fl_X9_24 rfl hk.2.1 (show _ = nI n by simp [z_up, hn]) ?_
      refine z_iload_n dX9_share_82 rfl rfl ?_
      refine z_iast dX9_share_83 hk.2.2.2.2.1 rfl (by omega) ?_
      refine z_aload_n dX9_share_84 rfl rfl ?_
      refine z_getR dX9_share_85 fl_X9_21 rfl hk.2.1 hr.2.2.2.2.2.2.2.2.2.2.1 ?_
      refine z_aload_n dX9_share_88 rfl rfl ?_
      refine z_getI dX9_share_89 fl_X9_24 rfl hk.2.1 (show _ = nI n by simp [z_up, hn]) ?_
      refine z_iload_n dX9_share_92 rfl rfl ?_
      refine z_if_ne (tgt := 100) dX9_share_93 (by decide) (fun c93 => ?_) (fun c93 => ?_)
      · refine z_iconst (v := 0) dX9_share_100 (by decide) ?_
        refine z_iast dX9_share_101 hk.2.2.2.2.2.1 rfl (by omega) ?_
        refine z_aload_n dX9_share_102 rfl rfl ?_
        refine z_dup dX9_share_103 rfl ?_
        refine z_getI dX9_share_104 fl_X9_24 rfl hk.2.1 (show _ = nI n by simp [z_up, hn]) ?_
        refine z_iconst (v := 1) dX9_share_107 (by decide) ?_
        refine z_iadd dX9_share_108 (nI_1 _) ?_
        refine z_putI dX9_share_109 fl_X9_24 rfl rfl (Or.inl rfl) hk.2.1 ?_
        refine z_aload_n dX9_share_112 rfl rfl ?_
        refine z_getI dX9_share_113 fl_X9_24 rfl hk.2.1 (show _ = nI (n + 1) by simp [z_up]) ?_
        refine z_iconst (v := 1) dX9_share_116 (by decide) ?_
        refine z_isub dX9_share_117 (nI_pred _) ?_
        exact z_iret dX9_share_118 rfl rfl (by simp [shr, c93])
      · refine z_iload_n dX9_share_96 rfl rfl ?_
        refine z_goto (tgt := 101) dX9_share_97 (by decide) ?_
        refine z_iast dX9_share_101 hk.2.2.2.2.2.1 rfl (by omega) ?_
        refine z_aload_n dX9_share_102 rfl rfl ?_
        refine z_dup dX9_share_103 rfl ?_
        refine z_getI dX9_share_104 fl_X9_24 rfl hk.2.1 (show _ = nI n by simp [z_up, hn]) ?_
        refine z_iconst (v := 1) dX9_share_107 (by decide) ?_
        refine z_iadd dX9_share_108 (nI_1 _) ?_
        refine z_putI dX9_share_109 fl_X9_24 rfl rfl (Or.inl rfl) hk.2.1 ?_
        refine z_aload_n dX9_share_112 rfl rfl ?_
        refine z_getI dX9_share_113 fl_X9_24 rfl hk.2.1 (show _ = nI (n + 1) by simp [z_up]) ?_
        refine z_iconst (v := 1) dX9_share_116 (by decide) ?_
        refine z_isub dX9_share_117 (nI_pred _) ?_
        exact z_iret dX9_share_118 rfl rfl (by simp [shr, c93])
    · have hlt : v < n := by
        rcases Nat.lt_or_ge v n with q | q
        · exact q
        · exact absurd (nI_le q (by omega)) c9
      refine z_aload_n dX9_share_12 rfl rfl ?_
      refine z_getR dX9_share_13 fl_X9_9 rfl hk.2.1 hr.2.2.2.2.2.2.2.1 ?_
      refine z_iload dX9_share_16 rfl ?_
      refine z_iald dX9_share_18 hk.2.2.1 rfl (by omega) rfl ?_
      refine z_iload_n dX9_share_19 rfl rfl ?_
      refine z_icmp_ne (tgt := 48) dX9_share_20 (by decide) (fun c20 => ?_) (fun c20 => ?_)
      · refine z_iinc dX9_share_48 rfl (nI_i _) (by decide) ?_
        show z_V _ _ _ _ _ _ _ _ _ [_, _, _, _, _] _ _
        refine z_goto (tgt := 3) dX9_share_51 (by decide) ?_
        exact ih (v + 1) (by omega) (by omega)
      · refine z_aload_n dX9_share_23 rfl rfl ?_
        refine z_getR dX9_share_24 fl_X9_15 rfl hk.2.1 hr.2.2.2.2.2.2.2.2.1 ?_
        refine z_iload dX9_share_27 rfl ?_
        refine z_iald dX9_share_29 hk.2.2.2.1 rfl (by omega) rfl ?_
        refine z_iload_n dX9_share_30 rfl rfl ?_
        refine z_icmp_ne (tgt := 48) dX9_share_31 (by decide) (fun c31 => ?_) (fun c31 => ?_)
        · refine z_iinc dX9_share_48 rfl (nI_i _) (by decide) ?_
          show z_V _ _ _ _ _ _ _ _ _ [_, _, _, _, _] _ _
          refine z_goto (tgt := 3) dX9_share_51 (by decide) ?_
          exact ih (v + 1) (by omega) (by omega)
        · refine z_aload_n dX9_share_34 rfl rfl ?_
          refine z_getR dX9_share_35 fl_X9_18 rfl hk.2.1 hr.2.2.2.2.2.2.2.2.2.1 ?_
          refine z_iload dX9_share_38 rfl ?_
          refine z_iald dX9_share_40 hk.2.2.2.2.1 rfl (by omega) rfl ?_
          refine z_iload_n dX9_share_41 rfl rfl ?_
          refine z_icmp_ne (tgt := 48) dX9_share_42 (by decide) (fun c42 => ?_) (fun c42 => ?_)
          · refine z_iinc dX9_share_48 rfl (nI_i _) (by decide) ?_
            show z_V _ _ _ _ _ _ _ _ _ [_, _, _, _, _] _ _
            refine z_goto (tgt := 3) dX9_share_51 (by decide) ?_
            exact ih (v + 1) (by omega) (by omega)
          · exact absurd ⟨c20, c31, c42⟩ (hno v hlt)
set_option maxRecDepth 100000 in
set_option maxHeartbeats 4000000 in
theorem sp_share_new {d : Nat} {σ : Nat → Nat → Int32} {τ : Nat → Nat → Int64} {t n : Nat} {k l r : Int32} (ht : t < 4) (hn : σ (tr t + 1) 4 = nI n) (h36 : n < 36) (hno : ∀ j, j < n → ¬ mt σ (tr t) j k l r) : z_MV M_X9_share d 0 0 [.ref (tr t + 1), .int k, .int l, .int r] (124, z_r0, σ, τ) (some (.int (nI n))) (124, z_r0, shr σ (tr t) n k l r, τ) := by
  refine z_MV.of pn_X9_share (Nat.le_of_ble_eq_true rfl) (by simp [Value.category]) rfl ?_
  show z_V _ _ _ _ _ _ _ _ _ [_, _, _, _, _] _ _
  refine z_iconst (v := 0) dX9_share_0 (by decide) ?_
  refine z_istore dX9_share_1 (by decide) ?_
  show z_V _ _ _ _ _ _ _ _ _ [_, _, _, _, _] _ _
  exact share_new_loop ht hn h36 hno (n + 1) 0 (Nat.zero_le _) (by omega)
set_option maxRecDepth 100000 in
set_option maxHeartbeats 4000000 in
theorem sp_takeLocals {d : Nat} {σ : Nat → Nat → Int32} {τ : Nat → Nat → Int64} {t : Nat} (ht : t < 4) : z_MV M_X9_takeLocals d 0 0 [.ref (tr t + 1), .ref 7] (124, z_r0, σ, τ) (none) (124, z_r0, z_row σ (tr t + 5) (va_cpy (σ 7) (σ (tr t + 5)) 0 0 6), τ) := by
  refine z_MV.of pn_X9_takeLocals (Nat.le_of_ble_eq_true rfl) (by simp [Value.category]) rfl ?_
  show z_V _ _ _ _ _ _ _ _ _ [_, _] _ _
  have hk := tr_k ht
  have hr := tr_r ht
  refine z_aload_n dX9_takeLocals_0 rfl rfl ?_
  refine z_iconst (v := 0) dX9_takeLocals_1 (by decide) ?_
  refine z_aload_n dX9_takeLocals_2 rfl rfl ?_
  refine z_getR dX9_takeLocals_3 fl_X9_21 rfl hk.2.1 hr.2.2.2.2.2.2.2.2.2.2.1 ?_
  refine z_iconst (v := 0) dX9_takeLocals_6 (by decide) ?_
  refine z_bipush (v := nI 6) dX9_takeLocals_7 (by decide) ?_
  refine z_copy (sp := 0) (dp := 0) (k := 6) dX9_takeLocals_9 al_X9_32 rfl hk.2.2.2.2.2.1 nI_0.symm nI_0.symm rfl (by decide) (by decide) rfl ?_
  exact z_vret dX9_takeLocals_12 rfl rfl rfl
def rsV (σ : Nat → Nat → Int32) (T : Nat) : Nat → Nat → Nat → Int32
  | 0 => z_up σ (T + 1) 4 0
  | i + 1 => shr (rsV σ T i) T i 1 (nI i) 0
theorem rsV_size (σ : Nat → Nat → Int32) (T i : Nat) : rsV σ T i (T + 1) 4 = nI i := by
  cases i with
  | zero => simp [rsV, z_up, nI_0]
  | succ i => simp [rsV, shr, z_up]
theorem rsV_lefts (σ : Nat → Nat → Int32) (T i : Nat) : ∀ j, j < i → rsV σ T i (T + 3) j = nI j := by
  induction i with
  | zero => intro j h; omega
  | succ i ih =>
    intro j h
    by_cases hj : j = i
    · subst hj; simp [rsV, shr, z_up]
    · have := ih j (by omega)
      simp [rsV, shr, z_up, hj, this]
set_option maxRecDepth 100000 in
set_option maxHeartbeats 4000000 in
theorem vreset_loop {d : Nat} {σ : Nat → Nat → Int32} {τ : Nat → Nat → Int64} {t : Nat} (ht : t < 4) : ∀ (m i : Nat), i ≤ 6 → 6 - i < m → z_V M_X9_reset (d + 1) 0 0 0 0 none (124, z_r0, rsV σ (tr t) 6, τ) 7 [some (.ref (tr t + 1)), some (.int (nI i))] [] (124, z_r0, rsV σ (tr t) i, τ) := by
  have hk := tr_k ht
  have hr := tr_r ht
  intro m
  induction m with
  | zero => intro v _ h; omega
  | succ m ih =>
    intro i hv1 hv2
    refine z_iload_n dX9_reset_7 rfl rfl ?_
    refine z_bipush (v := nI 6) dX9_reset_8 (by decide) ?_
    refine z_icmp_ge (tgt := 27) dX9_reset_10 (by decide) (fun c10 => ?_) (fun c10 => ?_)
    · have e0 : 6 = i := by
        rcases Nat.lt_or_ge i 6 with q | q
        · exact absurd c10 (nI_ge q (by omega))
        · omega
      subst e0
      exact z_vret dX9_reset_27 rfl rfl rfl
    · have hlt : i < 6 := by
        rcases Nat.lt_or_ge i 6 with q | q
        · exact q
        · exact absurd (nI_le q (by omega)) c10
      refine z_aload_n dX9_reset_13 rfl rfl ?_
      refine z_iconst (v := 1) dX9_reset_14 (by decide) ?_
      refine z_iload_n dX9_reset_15 rfl rfl ?_
      refine z_iconst (v := 0) dX9_reset_16 (by decide) ?_
      refine z_cV1 dX9_reset_17 ml_X9_28 (sp_share_new ht (rsV_size σ (tr t) i) (by omega) (fun j hj q => absurd ((nI_eq (by omega) (by omega)).mp ((rsV_lefts σ (tr t) i j hj).symm.trans q.2.1)) (by omega))) hk.2.1 ⟨by decide, rfl⟩ rfl rfl (Nat.le_of_ble_eq_true rfl) ?_
      refine z_pop dX9_reset_20 rfl ?_
      refine z_iinc dX9_reset_21 rfl (nI_i _) (by decide) ?_
      show z_V _ _ _ _ _ _ _ _ _ [_, _] _ _
      refine z_goto (tgt := 7) dX9_reset_24 (by decide) ?_
      exact ih (i + 1) (by omega) (by omega)
set_option maxRecDepth 100000 in
set_option maxHeartbeats 4000000 in
theorem sp_vreset {d : Nat} {σ : Nat → Nat → Int32} {τ : Nat → Nat → Int64} {t : Nat} (ht : t < 4) : z_MV M_X9_reset (d + 1) 0 0 [.ref (tr t + 1)] (124, z_r0, σ, τ) (none) (124, z_r0, rsV σ (tr t) 6, τ) := by
  refine z_MV.of pn_X9_reset (Nat.le_of_ble_eq_true rfl) (by simp [Value.category]) rfl ?_
  show z_V _ _ _ _ _ _ _ _ _ [_, _] _ _
  have hk := tr_k ht
  have hr := tr_r ht
  refine z_aload_n dX9_reset_0 rfl rfl ?_
  refine z_iconst (v := 0) dX9_reset_1 (by decide) ?_
  refine z_putI dX9_reset_2 fl_X9_24 rfl rfl (Or.inl rfl) hk.2.1 ?_
  refine z_iconst (v := 0) dX9_reset_5 (by decide) ?_
  refine z_istore_n dX9_reset_6 rfl (by decide) ?_
  show z_V _ _ _ _ _ _ _ _ _ [_, _] _ _
  exact vreset_loop ht 7 0 (by omega) (by omega)
end
section
/-! PART 23: Given, floorMod, Code (small), Trace (small), Guards.holds -/
set_option maxRecDepth 100000 in
set_option maxHeartbeats 4000000 in
theorem sp_give {d : Nat} {σ : Nat → Nat → Int32} {τ : Nat → Nat → Int64} {e : Nat} {x : Int32} (he : σ 9 1 = nI e) (hl : e < 30) : z_MV M_X2_give d 0 0 [.ref 9, .int x] (124, z_r0, σ, τ) (none) (124, z_r0, z_up (z_up (z_up σ 9 1 (nI ((e + 1) % 30))) 10 ((e + 1) % 30) x) 9 2 (σ 9 2 + 1), τ) := by
  refine z_MV.of pn_X2_give (Nat.le_of_ble_eq_true rfl) (by simp [Value.category]) rfl ?_
  show z_V _ _ _ _ _ _ _ _ _ [_, _] _ _
  refine z_aload_n dX2_give_0 rfl rfl ?_
  refine z_aload_n dX2_give_1 rfl rfl ?_
  refine z_getI dX2_give_2 fl_X2_15 rfl rfl he ?_
  refine z_iconst (v := 1) dX2_give_5 (by decide) ?_
  refine z_iadd dX2_give_6 (nI_1 _) ?_
  refine z_bipush (v := nI 30) dX2_give_7 (by decide) ?_
  refine z_icmp_ge (tgt := 21) dX2_give_9 (by decide) (fun c9 => ?_) (fun c9 => ?_)
  · have e1 : e = 29 := by
      rcases Nat.lt_or_ge (e + 1) 30 with q | q
      · exact absurd c9 (nI_ge q (by decide))
      · omega
    have e0 : (e + 1) % 30 = 0 := by omega
    refine z_iconst (v := 0) dX2_give_21 (by decide) ?_
    refine z_putI dX2_give_22 fl_X2_15 rfl rfl (Or.inl rfl) rfl ?_
    refine z_aload_n dX2_give_25 rfl rfl ?_
    refine z_getR dX2_give_26 fl_X2_9 rfl rfl rfl ?_
    refine z_aload_n dX2_give_29 rfl rfl ?_
    refine z_getI dX2_give_30 fl_X2_15 rfl rfl (show _ = nI ((e + 1) % 30) by simp [z_up, e0, nI_0]) ?_
    refine z_iload_n dX2_give_33 rfl rfl ?_
    refine z_iast dX2_give_34 rfl rfl (Nat.mod_lt _ (by decide)) ?_
    refine z_aload_n dX2_give_35 rfl rfl ?_
    refine z_dup dX2_give_36 rfl ?_
    refine z_getI dX2_give_37 fl_X2_19 rfl rfl (show _ = σ 9 2 by simp [z_up]) ?_
    refine z_iconst (v := 1) dX2_give_40 (by decide) ?_
    refine z_iadd dX2_give_41 rfl ?_
    refine z_putI dX2_give_42 fl_X2_19 rfl rfl (Or.inl rfl) rfl ?_
    exact z_vret dX2_give_45 rfl rfl (by simp [e0, nI_0])
  · have e1 : e + 1 < 30 := by
      rcases Nat.lt_or_ge (e + 1) 30 with q | q
      · exact q
      · exact absurd (nI_le q (by omega)) c9
    have e0 : (e + 1) % 30 = e + 1 := Nat.mod_eq_of_lt e1
    refine z_aload_n dX2_give_12 rfl rfl ?_
    refine z_getI dX2_give_13 fl_X2_15 rfl rfl he ?_
    refine z_iconst (v := 1) dX2_give_16 (by decide) ?_
    refine z_iadd dX2_give_17 (nI_1 _) ?_
    refine z_goto (tgt := 22) dX2_give_18 (by decide) ?_
    refine z_putI dX2_give_22 fl_X2_15 rfl rfl (Or.inl rfl) rfl ?_
    refine z_aload_n dX2_give_25 rfl rfl ?_
    refine z_getR dX2_give_26 fl_X2_9 rfl rfl rfl ?_
    refine z_aload_n dX2_give_29 rfl rfl ?_
    refine z_getI dX2_give_30 fl_X2_15 rfl rfl (show _ = nI ((e + 1) % 30) by simp [z_up, e0, nI_0]) ?_
    refine z_iload_n dX2_give_33 rfl rfl ?_
    refine z_iast dX2_give_34 rfl rfl (Nat.mod_lt _ (by decide)) ?_
    refine z_aload_n dX2_give_35 rfl rfl ?_
    refine z_dup dX2_give_36 rfl ?_
    refine z_getI dX2_give_37 fl_X2_19 rfl rfl (show _ = σ 9 2 by simp [z_up]) ?_
    refine z_iconst (v := 1) dX2_give_40 (by decide) ?_
    refine z_iadd dX2_give_41 rfl ?_
    refine z_putI dX2_give_42 fl_X2_19 rfl rfl (Or.inl rfl) rfl ?_
    exact z_vret dX2_give_45 rfl rfl (by simp [e0, nI_0])
set_option maxRecDepth 100000 in
set_option maxHeartbeats 4000000 in
theorem sp_keeps {d : Nat} {σ : Nat → Nat → Int32} {τ : Nat → Nat → Int64} {x : Int32} : z_MV M_X2_keeps d 0 0 [.ref 9, .int x] (124, z_r0, σ, τ) (some (.int (b2i (¬ x < 0 ∧ ¬ nI 30 ≤ x ∧ ¬ σ 9 2 ≤ x)))) (124, z_r0, σ, τ) := by
  refine z_MV.of pn_X2_keeps (Nat.le_of_ble_eq_true rfl) (by simp [Value.category]) rfl ?_
  show z_V _ _ _ _ _ _ _ _ _ [_, _] _ _
  refine z_iload_n dX2_keeps_0 rfl rfl ?_
  refine z_if_lt (tgt := 22) dX2_keeps_1 (by decide) (fun c1 => ?_) (fun c1 => ?_)
  · refine z_iconst (v := 0) dX2_keeps_22 (by decide) ?_
    exact z_zret dX2_keeps_23 rfl (by first | exact Or.inl rfl | exact Or.inr rfl) (by simp_all [b2i]) rfl
  · refine z_iload_n dX2_keeps_4 rfl rfl ?_
    refine z_bipush (v := nI 30) dX2_keeps_5 (by decide) ?_
    refine z_icmp_ge (tgt := 22) dX2_keeps_7 (by decide) (fun c7 => ?_) (fun c7 => ?_)
    · refine z_iconst (v := 0) dX2_keeps_22 (by decide) ?_
      exact z_zret dX2_keeps_23 rfl (by first | exact Or.inl rfl | exact Or.inr rfl) (by simp_all [b2i]) rfl
    · refine z_iload_n dX2_keeps_10 rfl rfl ?_
      refine z_aload_n dX2_keeps_11 rfl rfl ?_
      refine z_getI dX2_keeps_12 fl_X2_19 rfl rfl rfl ?_
      refine z_icmp_ge (tgt := 22) dX2_keeps_15 (by decide) (fun c15 => ?_) (fun c15 => ?_)
      · refine z_iconst (v := 0) dX2_keeps_22 (by decide) ?_
        exact z_zret dX2_keeps_23 rfl (by first | exact Or.inl rfl | exact Or.inr rfl) (by simp_all [b2i]) rfl
      · refine z_iconst (v := 1) dX2_keeps_18 (by decide) ?_
        refine z_goto (tgt := 23) dX2_keeps_19 (by decide) ?_
        exact z_zret dX2_keeps_23 rfl (by first | exact Or.inl rfl | exact Or.inr rfl) (by simp_all [b2i]) rfl
def fm (x y : Int32) : Int32 := if 0 ≤ x ^^^ y then x - x / y * y else if x - x / y * y = 0 then x - x / y * y else x - x / y * y + y
theorem fm_30 : ∀ e, e < 30 → ∀ j, j < 30 → fm (nI e - nI j) (nI 30) = nI ((e + 30 - j) % 30) := by decide +kernel
set_option maxRecDepth 100000 in
set_option maxHeartbeats 4000000 in
theorem sp_floorMod {d : Nat} {x y : Int32} {X : z_X} (hy : ¬ y = 0) : z_MV M_J9_floorMod_7cf53 d 0 0 [.int x, .int y] X (some (.int (fm x y))) X := by
  refine z_MV.ofF (by decide +kernel) (Nat.le_of_ble_eq_true rfl) (by simp [Value.category]) rfl ?_
  show z_V _ _ _ _ _ _ _ _ _ [_, _, _] _ _
  refine z_iload_n dJ9_floorMod_7cf53_0 rfl rfl ?_
  refine z_iload_n dJ9_floorMod_7cf53_1 rfl rfl ?_
  refine z_irem dJ9_floorMod_7cf53_2 hy rfl ?_
  refine z_istore_n dJ9_floorMod_7cf53_3 rfl (by decide) ?_
  show z_V _ _ _ _ _ _ _ _ _ [_, _, _] _ _
  refine z_iload_n dJ9_floorMod_7cf53_4 rfl rfl ?_
  refine z_iload_n dJ9_floorMod_7cf53_5 rfl rfl ?_
  refine z_ixor dJ9_floorMod_7cf53_6 rfl ?_
  refine z_if_ge (tgt := 18) dJ9_floorMod_7cf53_7 (by decide) (fun c7 => ?_) (fun c7 => ?_)
  · refine z_iload_n dJ9_floorMod_7cf53_18 rfl rfl ?_
    exact z_iret dJ9_floorMod_7cf53_19 rfl (by first | (simp [fm, c7, c11]; done) | (simp [fm, c7]; done)) rfl
  · refine z_iload_n dJ9_floorMod_7cf53_10 rfl rfl ?_
    refine z_if_eq (tgt := 18) dJ9_floorMod_7cf53_11 (by decide) (fun c11 => ?_) (fun c11 => ?_)
    · refine z_iload_n dJ9_floorMod_7cf53_18 rfl rfl ?_
      exact z_iret dJ9_floorMod_7cf53_19 rfl (by first | (simp [fm, c7, c11]; done) | (simp [fm, c7]; done)) rfl
    · refine z_iload_n dJ9_floorMod_7cf53_14 rfl rfl ?_
      refine z_iload_n dJ9_floorMod_7cf53_15 rfl rfl ?_
      refine z_iadd dJ9_floorMod_7cf53_16 rfl ?_
      exact z_iret dJ9_floorMod_7cf53_17 rfl (by simp [fm, c7, c11]) rfl
set_option maxRecDepth 100000 in
set_option maxHeartbeats 4000000 in
theorem sp_back {d : Nat} {σ : Nat → Nat → Int32} {τ : Nat → Nat → Int64} {e j : Nat} (he : σ 9 1 = nI e) (hl : e < 30) (hj : j < 30) : z_MV M_X2_back (d + 1) 0 0 [.ref 9, .int (nI j)] (124, z_r0, σ, τ) (some (.int (σ 10 ((e + 30 - j) % 30)))) (124, z_r0, σ, τ) := by
  refine z_MV.of pn_X2_back (Nat.le_of_ble_eq_true rfl) (by simp [Value.category]) rfl ?_
  show z_V _ _ _ _ _ _ _ _ _ [_, _] _ _
  refine z_aload_n dX2_back_0 rfl rfl ?_
  refine z_getR dX2_back_1 fl_X2_9 rfl rfl rfl ?_
  refine z_aload_n dX2_back_4 rfl rfl ?_
  refine z_getI dX2_back_5 fl_X2_15 rfl rfl he ?_
  refine z_iload_n dX2_back_8 rfl rfl ?_
  refine z_isub dX2_back_9 rfl ?_
  refine z_bipush (v := nI 30) dX2_back_10 (by decide) ?_
  refine z_cS1 dX2_back_12 ml_X2_22 (sp_floorMod (by decide)) rfl rfl (Nat.le_of_ble_eq_true rfl) ?_
  refine z_iald (j := (e + 30 - j) % 30) dX2_back_15 rfl (fm_30 e hl j hj) (Nat.mod_lt _ (by decide)) rfl ?_
  exact z_iret dX2_back_16 rfl rfl rfl
set_option maxRecDepth 100000 in
set_option maxHeartbeats 4000000 in
theorem sp_append {d : Nat} {σ : Nat → Nat → Int32} {τ : Nat → Nat → Int64} {n : Nat} {x y : Int32} (hn : σ 1 2 = nI n) (hl : n < 40) : z_MV M_X0_append d 0 0 [.ref 1, .int x, .int y] (124, z_r0, σ, τ) (none) (124, z_r0, z_up (z_up (z_up σ 2 n x) 3 n y) 1 2 (nI (n + 1)), τ) := by
  refine z_MV.of pn_X0_append (Nat.le_of_ble_eq_true rfl) (by simp [Value.category]) rfl ?_
  show z_V _ _ _ _ _ _ _ _ _ [_, _, _] _ _
  refine z_aload_n dX0_append_0 rfl rfl ?_
  refine z_getR dX0_append_1 fl_X0_9 rfl rfl rfl ?_
  refine z_aload_n dX0_append_4 rfl rfl ?_
  refine z_getI dX0_append_5 fl_X0_24 rfl rfl (show _ = nI n by simp [z_up, hn]) ?_
  refine z_iload_n dX0_append_8 rfl rfl ?_
  refine z_iast dX0_append_9 rfl rfl (by omega) ?_
  refine z_aload_n dX0_append_10 rfl rfl ?_
  refine z_getR dX0_append_11 fl_X0_15 rfl rfl rfl ?_
  refine z_aload_n dX0_append_14 rfl rfl ?_
  refine z_getI dX0_append_15 fl_X0_24 rfl rfl (show _ = nI n by simp [z_up, hn]) ?_
  refine z_iload_n dX0_append_18 rfl rfl ?_
  refine z_iast dX0_append_19 rfl rfl (by omega) ?_
  refine z_aload_n dX0_append_20 rfl rfl ?_
  refine z_dup dX0_append_21 rfl ?_
  refine z_getI dX0_append_22 fl_X0_24 rfl rfl (show _ = nI n by simp [z_up, hn]) ?_
  refine z_iconst (v := 1) dX0_append_25 (by decide) ?_
  refine z_iadd dX0_append_26 (nI_1 _) ?_
  refine z_putI dX0_append_27 fl_X0_24 rfl rfl (Or.inl rfl) rfl ?_
  exact z_vret dX0_append_30 rfl rfl rfl
set_option maxRecDepth 100000 in
set_option maxHeartbeats 4000000 in
theorem sp_resetAt {d : Nat} {σ : Nat → Nat → Int32} {τ : Nat → Nat → Int64} {t : Nat} (ht : t < 4) {x : Int32} : z_MV M_X7_resetAt (d + 2) 0 0 [.ref (tr t), .int x] (124, z_r0, σ, τ) (none) (124, z_r0, z_up (z_up (z_up (z_up (z_up (rsV σ (tr t) 6) (tr t + 6) 5 0) (tr t) 3 x) (tr t) 4 0) (tr t) 9 0) (tr t) 5 0, τ) := by
  refine z_MV.of pn_X7_resetAt (Nat.le_of_ble_eq_true rfl) (by simp [Value.category]) rfl ?_
  show z_V _ _ _ _ _ _ _ _ _ [_, _] _ _
  have hk := tr_k ht
  have hr := tr_r ht
  refine z_aload_n dX7_resetAt_0 rfl rfl ?_
  refine z_getR dX7_resetAt_1 fl_X7_12 rfl hk.1 hr.2.1 ?_
  refine z_cV0 dX7_resetAt_4 ml_X7_38 (sp_vreset ht) hk.2.1 ⟨by decide, rfl⟩ rfl rfl (Nat.le_of_ble_eq_true rfl) ?_
  refine z_aload_n dX7_resetAt_7 rfl rfl ?_
  refine z_getR dX7_resetAt_8 fl_X7_21 rfl hk.1 hr.2.2.1 ?_
  refine z_iconst (v := 0) dX7_resetAt_11 (by decide) ?_
  refine z_putI dX7_resetAt_12 fl_X7_41 rfl rfl (Or.inl rfl) hk.2.2.2.2.2.2.1 ?_
  refine z_aload_n dX7_resetAt_15 rfl rfl ?_
  refine z_iload_n dX7_resetAt_16 rfl rfl ?_
  refine z_putI dX7_resetAt_17 fl_X7_45 rfl rfl (Or.inl rfl) hk.1 ?_
  refine z_aload_n dX7_resetAt_20 rfl rfl ?_
  refine z_iconst (v := 0) dX7_resetAt_21 (by decide) ?_
  refine z_putI dX7_resetAt_22 fl_X7_48 rfl rfl (Or.inl rfl) hk.1 ?_
  refine z_aload_n dX7_resetAt_25 rfl rfl ?_
  refine z_iconst (v := 0) dX7_resetAt_26 (by decide) ?_
  refine z_putI dX7_resetAt_27 fl_X7_51 rfl rfl (Or.inl rfl) hk.1 ?_
  refine z_aload_n dX7_resetAt_30 rfl rfl ?_
  refine z_iconst (v := 0) dX7_resetAt_31 (by decide) ?_
  refine z_putI dX7_resetAt_32 fl_X7_54 rfl rfl (Or.inl rfl) hk.1 ?_
  exact z_vret dX7_resetAt_35 rfl rfl rfl
set_option maxRecDepth 100000 in
set_option maxHeartbeats 4000000 in
theorem sp_putInHead {d : Nat} {σ : Nat → Nat → Int32} {τ : Nat → Nat → Int64} {t : Nat} (ht : t < 4) {e : Nat} {x : Int32} (he : σ (tr t) 4 = nI e) (hl : e < 30) : z_MV M_X7_putInHead d 0 0 [.ref (tr t), .int x] (124, z_r0, σ, τ) (none) (124, z_r0, z_up (z_up σ (tr t + 13) e x) (tr t) 4 (nI (e + 1)), τ) := by
  refine z_MV.of pn_X7_putInHead (Nat.le_of_ble_eq_true rfl) (by simp [Value.category]) rfl ?_
  show z_V _ _ _ _ _ _ _ _ _ [_, _] _ _
  have hk := tr_k ht
  have hr := tr_r ht
  refine z_aload_n dX7_putInHead_0 rfl rfl ?_
  refine z_getR dX7_putInHead_1 fl_X7_29 rfl hk.1 hr.2.2.2.2.1 ?_
  refine z_aload_n dX7_putInHead_4 rfl rfl ?_
  refine z_getI dX7_putInHead_5 fl_X7_48 rfl hk.1 (show _ = nI e by simp [z_up, he]) ?_
  refine z_iload_n dX7_putInHead_8 rfl rfl ?_
  refine z_iast dX7_putInHead_9 hk.2.2.2.2.2.2.2.2.2.2.2.2.2.1 rfl (by omega) ?_
  refine z_aload_n dX7_putInHead_10 rfl rfl ?_
  refine z_dup dX7_putInHead_11 rfl ?_
  refine z_getI dX7_putInHead_12 fl_X7_48 rfl hk.1 (show _ = nI e by simp [z_up, he]) ?_
  refine z_iconst (v := 1) dX7_putInHead_15 (by decide) ?_
  refine z_iadd dX7_putInHead_16 (nI_1 _) ?_
  refine z_putI dX7_putInHead_17 fl_X7_48 rfl rfl (Or.inl rfl) hk.1 ?_
  exact z_vret dX7_putInHead_20 rfl rfl rfl
set_option maxRecDepth 100000 in
set_option maxHeartbeats 4000000 in
theorem sp_putInBody0 {d : Nat} {σ : Nat → Nat → Int32} {τ : Nat → Nat → Int64} {t : Nat} (ht : t < 4) {e : Nat} {x y : Int32} (he : σ (tr t) 9 = nI e) (hl : e < 30) (hk2 : ¬ x = nI 2) : z_MV M_X7_putInBody d 0 0 [.ref (tr t), .int x, .int y] (124, z_r0, σ, τ) (none) (124, z_r0, z_up (z_up (z_up σ (tr t + 14) e x) (tr t + 15) e y) (tr t) 9 (nI (e + 1)), τ) := by
  refine z_MV.of pn_X7_putInBody (Nat.le_of_ble_eq_true rfl) (by simp [Value.category]) rfl ?_
  show z_V _ _ _ _ _ _ _ _ _ [_, _, _] _ _
  have hk := tr_k ht
  have hr := tr_r ht
  refine z_aload_n dX7_putInBody_0 rfl rfl ?_
  refine z_getR dX7_putInBody_1 fl_X7_32 rfl hk.1 hr.2.2.2.2.2.1 ?_
  refine z_aload_n dX7_putInBody_4 rfl rfl ?_
  refine z_getI dX7_putInBody_5 fl_X7_51 rfl hk.1 (show _ = nI e by simp [z_up, he]) ?_
  refine z_iload_n dX7_putInBody_8 rfl rfl ?_
  refine z_iast dX7_putInBody_9 hk.2.2.2.2.2.2.2.2.2.2.2.2.2.2.1 rfl (by omega) ?_
  refine z_aload_n dX7_putInBody_10 rfl rfl ?_
  refine z_getR dX7_putInBody_11 fl_X7_35 rfl hk.1 hr.2.2.2.2.2.2.1 ?_
  refine z_aload_n dX7_putInBody_14 rfl rfl ?_
  refine z_getI dX7_putInBody_15 fl_X7_51 rfl hk.1 (show _ = nI e by simp [z_up, he]) ?_
  refine z_iload_n dX7_putInBody_18 rfl rfl ?_
  refine z_iast dX7_putInBody_19 hk.2.2.2.2.2.2.2.2.2.2.2.2.2.2.2 rfl (by omega) ?_
  refine z_aload_n dX7_putInBody_20 rfl rfl ?_
  refine z_dup dX7_putInBody_21 rfl ?_
  refine z_getI dX7_putInBody_22 fl_X7_51 rfl hk.1 (show _ = nI e by simp [z_up, he]) ?_
  refine z_iconst (v := 1) dX7_putInBody_25 (by decide) ?_
  refine z_iadd dX7_putInBody_26 (nI_1 _) ?_
  refine z_putI dX7_putInBody_27 fl_X7_51 rfl rfl (Or.inl rfl) hk.1 ?_
  refine z_iload_n dX7_putInBody_30 rfl rfl ?_
  refine z_iconst (v := nI 2) dX7_putInBody_31 (by decide) ?_
  refine z_icmp_ne (tgt := 45) dX7_putInBody_32 (by decide) (fun _ => ?_) (fun c_ => absurd c_ (hk2))
  exact z_vret dX7_putInBody_45 rfl rfl rfl
set_option maxRecDepth 100000 in
set_option maxHeartbeats 4000000 in
theorem sp_putInBody2 {d : Nat} {σ : Nat → Nat → Int32} {τ : Nat → Nat → Int64} {t : Nat} (ht : t < 4) {e : Nat} {y : Int32} (he : σ (tr t) 9 = nI e) (hl : e < 30) : z_MV M_X7_putInBody d 0 0 [.ref (tr t), .int (nI 2), .int y] (124, z_r0, σ, τ) (none) (124, z_r0, z_up (z_up (z_up (z_up σ (tr t + 14) e (nI 2)) (tr t + 15) e y) (tr t) 9 (nI (e + 1))) (tr t) 5 (σ (tr t) 5 + 1), τ) := by
  refine z_MV.of pn_X7_putInBody (Nat.le_of_ble_eq_true rfl) (by simp [Value.category]) rfl ?_
  show z_V _ _ _ _ _ _ _ _ _ [_, _, _] _ _
  have hk := tr_k ht
  have hr := tr_r ht
  refine z_aload_n dX7_putInBody_0 rfl rfl ?_
  refine z_getR dX7_putInBody_1 fl_X7_32 rfl hk.1 hr.2.2.2.2.2.1 ?_
  refine z_aload_n dX7_putInBody_4 rfl rfl ?_
  refine z_getI dX7_putInBody_5 fl_X7_51 rfl hk.1 (show _ = nI e by simp [z_up, he]) ?_
  refine z_iload_n dX7_putInBody_8 rfl rfl ?_
  refine z_iast dX7_putInBody_9 hk.2.2.2.2.2.2.2.2.2.2.2.2.2.2.1 rfl (by omega) ?_
  refine z_aload_n dX7_putInBody_10 rfl rfl ?_
  refine z_getR dX7_putInBody_11 fl_X7_35 rfl hk.1 hr.2.2.2.2.2.2.1 ?_
  refine z_aload_n dX7_putInBody_14 rfl rfl ?_
  refine z_getI dX7_putInBody_15 fl_X7_51 rfl hk.1 (show _ = nI e by simp [z_up, he]) ?_
  refine z_iload_n dX7_putInBody_18 rfl rfl ?_
  refine z_iast dX7_putInBody_19 hk.2.2.2.2.2.2.2.2.2.2.2.2.2.2.2 rfl (by omega) ?_
  refine z_aload_n dX7_putInBody_20 rfl rfl ?_
  refine z_dup dX7_putInBody_21 rfl ?_
  refine z_getI dX7_putInBody_22 fl_X7_51 rfl hk.1 (show _ = nI e by simp [z_up, he]) ?_
  refine z_iconst (v := 1) dX7_putInBody_25 (by decide) ?_
  refine z_iadd dX7_putInBody_26 (nI_1 _) ?_
  refine z_putI dX7_putInBody_27 fl_X7_51 rfl rfl (Or.inl rfl) hk.1 ?_
  refine z_iload_n dX7_putInBody_30 rfl rfl ?_
  refine z_iconst (v := nI 2) dX7_putInBody_31 (by decide) ?_
  refine z_icmp_ne (tgt := 45) dX7_putInBody_32 (by decide) (fun c_ => absurd (rfl) c_) (fun _ => ?_)
  refine z_aload_n dX7_putInBody_35 rfl rfl ?_
  refine z_dup dX7_putInBody_36 rfl ?_
  refine z_getI dX7_putInBody_37 fl_X7_54 rfl hk.1 (show _ = σ (tr t) 5 by simp [z_up]) ?_
  refine z_iconst (v := 1) dX7_putInBody_40 (by decide) ?_
  refine z_iadd dX7_putInBody_41 rfl ?_
  refine z_putI dX7_putInBody_42 fl_X7_54 rfl rfl (Or.inl rfl) hk.1 ?_
  exact z_vret dX7_putInBody_45 rfl rfl rfl
set_option maxRecDepth 100000 in
set_option maxHeartbeats 4000000 in
theorem sp_bodyOperations {d : Nat} {σ : Nat → Nat → Int32} {τ : Nat → Nat → Int64} {t : Nat} (ht : t < 4) : z_MV M_X7_bodyOperations d 0 0 [.ref (tr t)] (124, z_r0, σ, τ) (some (.int (σ (tr t) 9 - σ (tr t + 6) 5 - σ (tr t) 5))) (124, z_r0, σ, τ) := by
  refine z_MV.of pn_X7_bodyOperations (Nat.le_of_ble_eq_true rfl) (by simp [Value.category]) rfl ?_
  show z_V _ _ _ _ _ _ _ _ _ [_] _ _
  have hk := tr_k ht
  have hr := tr_r ht
  refine z_aload_n dX7_bodyOperations_0 rfl rfl ?_
  refine z_getI dX7_bodyOperations_1 fl_X7_51 rfl hk.1 rfl ?_
  refine z_aload_n dX7_bodyOperations_4 rfl rfl ?_
  refine z_getR dX7_bodyOperations_5 fl_X7_21 rfl hk.1 hr.2.2.1 ?_
  refine z_getI dX7_bodyOperations_8 fl_X7_41 rfl hk.2.2.2.2.2.2.1 rfl ?_
  refine z_isub dX7_bodyOperations_11 rfl ?_
  refine z_aload_n dX7_bodyOperations_12 rfl rfl ?_
  refine z_getI dX7_bodyOperations_13 fl_X7_54 rfl hk.1 rfl ?_
  refine z_isub dX7_bodyOperations_16 rfl ?_
  exact z_iret dX7_bodyOperations_17 rfl rfl rfl
set_option maxRecDepth 100000 in
set_option maxHeartbeats 4000000 in
theorem sp_stays {d : Nat} {σ : Nat → Nat → Int32} {τ : Nat → Nat → Int64} {t : Nat} (ht : t < 4) {l : Nat} (hl : l < 6) : z_MV M_X7_stays d 0 0 [.ref (tr t), .int (nI l)] (124, z_r0, σ, τ) (some (.int (b2i (σ (tr t + 12) l = nI l)))) (124, z_r0, σ, τ) := by
  refine z_MV.of pn_X7_stays (Nat.le_of_ble_eq_true rfl) (by simp [Value.category]) rfl ?_
  show z_V _ _ _ _ _ _ _ _ _ [_, _] _ _
  have hk := tr_k ht
  have hr := tr_r ht
  refine z_aload_n dX7_stays_0 rfl rfl ?_
  refine z_getR dX7_stays_1 fl_X7_25 rfl hk.1 hr.2.2.2.1 ?_
  refine z_iload_n dX7_stays_4 rfl rfl ?_
  refine z_iald dX7_stays_5 hk.2.2.2.2.2.2.2.2.2.2.2.2.1 rfl (by omega) rfl ?_
  refine z_iload_n dX7_stays_6 rfl rfl ?_
  refine z_icmp_ne (tgt := 14) dX7_stays_7 (by decide) (fun c7 => ?_) (fun c7 => ?_)
  · refine z_iconst (v := 0) dX7_stays_14 (by decide) ?_
    exact z_zret dX7_stays_15 rfl (by first | exact Or.inl rfl | exact Or.inr rfl) (by simp_all [b2i]) rfl
  · refine z_iconst (v := 1) dX7_stays_10 (by decide) ?_
    refine z_goto (tgt := 15) dX7_stays_11 (by decide) ?_
    exact z_zret dX7_stays_15 rfl (by first | exact Or.inl rfl | exact Or.inr rfl) (by simp_all [b2i]) rfl
set_option maxRecDepth 100000 in
set_option maxHeartbeats 4000000 in
theorem sp_holds {d : Nat} {σ : Nat → Nat → Int32} {τ : Nat → Nat → Int64} {t : Nat} (ht : t < 4) {g a : Nat} (hg : g < 15) (ha : σ (tr t + 7) g = nI a) (hl : a < 36) : z_MV M_X3_holds d 0 0 [.ref (tr t + 6), .int (nI g), .ref (tr t + 5)] (124, z_r0, σ, τ) (some (.int (b2i (b2i (σ (tr t + 5) a ≠ 0) = σ (tr t + 8) g)))) (124, z_r0, σ, τ) := by
  refine z_MV.of pn_X3_holds (Nat.le_of_ble_eq_true rfl) (by simp [Value.category]) rfl ?_
  show z_V _ _ _ _ _ _ _ _ _ [_, _, _] _ _
  have hk := tr_k ht
  have hr := tr_r ht
  refine z_aload_n dX3_holds_0 rfl rfl ?_
  refine z_aload_n dX3_holds_1 rfl rfl ?_
  refine z_getR dX3_holds_2 fl_X3_9 rfl hk.2.2.2.2.2.2.1 hr.2.2.2.2.2.2.2.2.2.2.2.1 ?_
  refine z_iload_n dX3_holds_5 rfl rfl ?_
  refine z_iald dX3_holds_6 hk.2.2.2.2.2.2.2.1 rfl (by omega) ha ?_
  refine z_iald dX3_holds_7 hk.2.2.2.2.2.1 rfl (by omega) rfl ?_
  refine z_if_eq (tgt := 15) dX3_holds_8 (by decide) (fun c8 => ?_) (fun c8 => ?_)
  · refine z_iconst (v := 0) dX3_holds_15 (by decide) ?_
    refine z_aload_n dX3_holds_16 rfl rfl ?_
    refine z_getR dX3_holds_17 fl_X3_15 rfl hk.2.2.2.2.2.2.1 hr.2.2.2.2.2.2.2.2.2.2.2.2.1 ?_
    refine z_iload_n dX3_holds_20 rfl rfl ?_
    refine z_zald dX3_holds_21 hk.2.2.2.2.2.2.2.2.1 rfl (by omega) rfl ?_
    refine z_icmp_ne (tgt := 29) dX3_holds_22 (by decide) (fun c22 => ?_) (fun c22 => ?_)
    · refine z_iconst (v := 0) dX3_holds_29 (by decide) ?_
      exact z_zret dX3_holds_30 rfl (by first | exact Or.inl rfl | exact Or.inr rfl) (by simp_all [b2i]) rfl
    · refine z_iconst (v := 1) dX3_holds_25 (by decide) ?_
      refine z_goto (tgt := 30) dX3_holds_26 (by decide) ?_
      exact z_zret dX3_holds_30 rfl (by first | exact Or.inl rfl | exact Or.inr rfl) (by simp_all [b2i]) rfl
  · refine z_iconst (v := 1) dX3_holds_11 (by decide) ?_
    refine z_goto (tgt := 16) dX3_holds_12 (by decide) ?_
    refine z_aload_n dX3_holds_16 rfl rfl ?_
    refine z_getR dX3_holds_17 fl_X3_15 rfl hk.2.2.2.2.2.2.1 hr.2.2.2.2.2.2.2.2.2.2.2.2.1 ?_
    refine z_iload_n dX3_holds_20 rfl rfl ?_
    refine z_zald dX3_holds_21 hk.2.2.2.2.2.2.2.2.1 rfl (by omega) rfl ?_
    refine z_icmp_ne (tgt := 29) dX3_holds_22 (by decide) (fun c22 => ?_) (fun c22 => ?_)
    · refine z_iconst (v := 0) dX3_holds_29 (by decide) ?_
      exact z_zret dX3_holds_30 rfl (by first | exact Or.inl rfl | exact Or.inr rfl) (by simp_all [b2i]) rfl
    · refine z_iconst (v := 1) dX3_holds_25 (by decide) ?_
      refine z_goto (tgt := 30) dX3_holds_26 (by decide) ?_
      exact z_zret dX3_holds_30 rfl (by first | exact Or.inl rfl | exact Or.inr rfl) (by simp_all [b2i]) rfl
end
section
/-! PART 24: Frame.move, Guards -/
def tN (x : Int32) : Nat := x.toNatClampNeg
theorem tN_nI {n : Nat} (h : n < 2 ^ 31) : tN (nI n) = n := nI_clamp h
def pu (σ : Nat → Nat → Int32) (f e : Nat) (x : Int32) : Nat → Nat → Int32 := z_up (z_up σ (f + 2) e x) f 2 (nI (e + 1))
def po (σ : Nat → Nat → Int32) (f e : Nat) : Nat → Nat → Int32 := z_up σ f 2 (nI e)
def rowF (σ : Nat → Nat → Int32) (a : Nat) (F : Nat → Int32) (i : Nat) : Nat → Nat → Int32 := z_row σ a (fun j => if j < i then F j else σ a j)
theorem rowF_0 (σ : Nat → Nat → Int32) (a : Nat) (F : Nat → Int32) : rowF σ a F 0 = σ := by
  funext b j
  by_cases hb : b = a <;> simp [rowF, z_row, hb]
theorem rowF_s (σ : Nat → Nat → Int32) (a : Nat) (F : Nat → Int32) (i : Nat) : z_up (rowF σ a F i) a i (F i) = rowF σ a F (i + 1) := by
  funext b j
  by_cases hb : b = a
  · subst hb
    by_cases hj : j = i
    · subst hj; simp [rowF, z_row, z_up]
    · simp only [rowF, z_row, z_up, hj, and_false, ↓reduceIte]
      have : j < i + 1 ↔ j < i := by omega
      simp [this]
  · simp [rowF, z_row, z_up, hb]
theorem rowF_ne (σ : Nat → Nat → Int32) {a b : Nat} (F : Nat → Int32) (i : Nat) (h : b ≠ a) : rowF σ a F i b = σ b := by simp [rowF, z_row, h]
theorem tr_ne {t c : Nat} (h : c < 28) (k : Nat) : ¬ c = tr t + k := by unfold tr; omega
theorem tr_ne' {t c : Nat} (h : c < 28) (k : Nat) : ¬ tr t + k = c := by unfold tr; omega
theorem tr_ne0 {t c : Nat} (h : c < 28) : ¬ c = tr t := by unfold tr; omega
theorem tr_ne0' {t c : Nat} (h : c < 28) : ¬ tr t = c := by unfold tr; omega
set_option maxRecDepth 100000 in
set_option maxHeartbeats 4000000 in
theorem sp_mv1 {d : Nat} {σ : Nat → Nat → Int32} {τ : Nat → Nat → Int64} {f e : Nat} (hf0 : f = 6 ∨ f = 20) {l : Nat} (hd : σ f 2 = nI e) (he : e < 6) (hl : l < 6) : z_MV M_X1_move (d + 1) 0 0 [.ref f, .int (nI 1), .int (nI l)] (124, z_r0, σ, τ) (none) (124, z_r0, pu σ f e (σ (f + 1) l), τ) := by
  refine z_MV.of pn_X1_move (Nat.le_of_ble_eq_true rfl) (by simp [Value.category]) rfl ?_
  show z_V _ _ _ _ _ _ _ _ _ [_, _, _, _, _, _] _ _
  have hf := fr_k hf0
  refine z_iload_n dX1_move_0 rfl rfl ?_
  refine z_tableIn (off := 59) (tgt := 60) dX1_move_1 (by decide) (by decide) (by decide) (by decide) ?_
  refine z_aload_n dX1_move_60 rfl rfl ?_
  refine z_aload_n dX1_move_61 rfl rfl ?_
  refine z_getR dX1_move_62 fl_X1_9 rfl hf.1 hf.2.2.2.1 ?_
  refine z_iload_n dX1_move_65 rfl rfl ?_
  refine z_iald dX1_move_66 hf.2.1 rfl (by omega) rfl ?_
  refine z_cV0 dX1_move_67 ml_X1_31 (sp_push hf0 hd he) hf.1 ⟨by decide, rfl⟩ rfl rfl (Nat.le_of_ble_eq_true rfl) ?_
  refine z_goto (tgt := 139) dX1_move_70 (by decide) ?_
  exact z_vret dX1_move_139 rfl rfl rfl
set_option maxRecDepth 100000 in
set_option maxHeartbeats 4000000 in
theorem sp_mv2 {d : Nat} {σ : Nat → Nat → Int32} {τ : Nat → Nat → Int64} {f e : Nat} (hf0 : f = 6 ∨ f = 20) {l : Nat} (hd : σ f 2 = nI (e + 1)) (he : e < 6) (hl : l < 6) : z_MV M_X1_move (d + 1) 0 0 [.ref f, .int (nI 2), .int (nI l)] (124, z_r0, σ, τ) (none) (124, z_r0, z_up (po σ f e) (f + 1) l (σ (f + 2) e), τ) := by
  refine z_MV.of pn_X1_move (Nat.le_of_ble_eq_true rfl) (by simp [Value.category]) rfl ?_
  show z_V _ _ _ _ _ _ _ _ _ [_, _, _, _, _, _] _ _
  have hf := fr_k hf0
  refine z_iload_n dX1_move_0 rfl rfl ?_
  refine z_tableIn (off := 72) (tgt := 73) dX1_move_1 (by decide) (by decide) (by decide) (by decide) ?_
  refine z_aload_n dX1_move_73 rfl rfl ?_
  refine z_getR dX1_move_74 fl_X1_9 rfl hf.1 hf.2.2.2.1 ?_
  refine z_iload_n dX1_move_77 rfl rfl ?_
  refine z_aload_n dX1_move_78 rfl rfl ?_
  refine z_cV1 dX1_move_79 ml_X1_35 (sp_pop hf0 hd he) hf.1 ⟨by decide, rfl⟩ rfl rfl (Nat.le_of_ble_eq_true rfl) ?_
  refine z_iast dX1_move_82 hf.2.1 rfl (by omega) ?_
  refine z_goto (tgt := 139) dX1_move_83 (by decide) ?_
  exact z_vret dX1_move_139 rfl rfl rfl
set_option maxRecDepth 100000 in
set_option maxHeartbeats 4000000 in
theorem sp_mv9 {d : Nat} {σ : Nat → Nat → Int32} {τ : Nat → Nat → Int64} {f e : Nat} (hf0 : f = 6 ∨ f = 20) {x : Int32} (hd : σ f 2 = nI (e + 1)) (he : e + 1 < 6) : z_MV M_X1_move (d + 1) 0 0 [.ref f, .int (nI 9), .int x] (124, z_r0, σ, τ) (none) (124, z_r0, pu (pu (po σ f e) f e (σ (f + 2) e)) f (e + 1) (σ (f + 2) e), τ) := by
  refine z_MV.of pn_X1_move (Nat.le_of_ble_eq_true rfl) (by simp [Value.category]) rfl ?_
  show z_V _ _ _ _ _ _ _ _ _ [_, _, _, _, _, _] _ _
  have hf := fr_k hf0
  refine z_iload_n dX1_move_0 rfl rfl ?_
  refine z_tableIn (off := 85) (tgt := 86) dX1_move_1 (by decide) (by decide) (by decide) (by decide) ?_
  refine z_aload_n dX1_move_86 rfl rfl ?_
  refine z_cV1 dX1_move_87 ml_X1_35 (sp_pop hf0 hd (by omega)) hf.1 ⟨by decide, rfl⟩ rfl rfl (Nat.le_of_ble_eq_true rfl) ?_
  refine z_istore_n dX1_move_90 rfl (by decide) ?_
  show z_V _ _ _ _ _ _ _ _ _ [_, _, _, _, _, _] _ _
  refine z_aload_n dX1_move_91 rfl rfl ?_
  refine z_iload_n dX1_move_92 rfl rfl ?_
  refine z_cV0 dX1_move_93 ml_X1_31 (sp_push hf0 (show _ = nI e by simp [z_up]) (by omega)) hf.1 ⟨by decide, rfl⟩ rfl rfl (Nat.le_of_ble_eq_true rfl) ?_
  refine z_aload_n dX1_move_96 rfl rfl ?_
  refine z_iload_n dX1_move_97 rfl rfl ?_
  refine z_cV0 dX1_move_98 ml_X1_31 (sp_push hf0 (show _ = nI (e + 1) by simp [z_up]) (by omega)) hf.1 ⟨by decide, rfl⟩ rfl rfl (Nat.le_of_ble_eq_true rfl) ?_
  refine z_goto (tgt := 139) dX1_move_101 (by decide) ?_
  exact z_vret dX1_move_139 rfl rfl rfl
set_option maxRecDepth 100000 in
set_option maxHeartbeats 4000000 in
theorem sp_mv10 {d : Nat} {σ : Nat → Nat → Int32} {τ : Nat → Nat → Int64} {f e : Nat} (hf0 : f = 6 ∨ f = 20) {x : Int32} (hd : σ f 2 = nI (e + 1)) (he : e < 6) : z_MV M_X1_move (d + 1) 0 0 [.ref f, .int (nI 10), .int x] (124, z_r0, σ, τ) (none) (124, z_r0, po σ f e, τ) := by
  refine z_MV.of pn_X1_move (Nat.le_of_ble_eq_true rfl) (by simp [Value.category]) rfl ?_
  show z_V _ _ _ _ _ _ _ _ _ [_, _, _, _, _, _] _ _
  have hf := fr_k hf0
  refine z_iload_n dX1_move_0 rfl rfl ?_
  refine z_tableIn (off := 103) (tgt := 104) dX1_move_1 (by decide) (by decide) (by decide) (by decide) ?_
  refine z_aload_n dX1_move_104 rfl rfl ?_
  refine z_cV1 dX1_move_105 ml_X1_35 (sp_pop hf0 hd he) hf.1 ⟨by decide, rfl⟩ rfl rfl (Nat.le_of_ble_eq_true rfl) ?_
  refine z_pop dX1_move_108 rfl ?_
  refine z_goto (tgt := 139) dX1_move_109 (by decide) ?_
  exact z_vret dX1_move_139 rfl rfl rfl
set_option maxRecDepth 100000 in
set_option maxHeartbeats 4000000 in
theorem sp_mv11 {d : Nat} {σ : Nat → Nat → Int32} {τ : Nat → Nat → Int64} {f e : Nat} (hf0 : f = 6 ∨ f = 20) {x : Int32} (hd : σ f 2 = nI (e + 2)) (he : e + 1 < 6) : z_MV M_X1_move (d + 1) 0 0 [.ref f, .int (nI 11), .int x] (124, z_r0, σ, τ) (none) (124, z_r0, pu (pu (po (po σ f (e + 1)) f e) f e (σ (f + 2) (e + 1))) f (e + 1) (po σ f (e + 1) (f + 2) e), τ) := by
  refine z_MV.of pn_X1_move (Nat.le_of_ble_eq_true rfl) (by simp [Value.category]) rfl ?_
  show z_V _ _ _ _ _ _ _ _ _ [_, _, _, _, _, _] _ _
  have hf := fr_k hf0
  refine z_iload_n dX1_move_0 rfl rfl ?_
  refine z_tableIn (off := 111) (tgt := 112) dX1_move_1 (by decide) (by decide) (by decide) (by decide) ?_
  refine z_aload_n dX1_move_112 rfl rfl ?_
  refine z_cV1 dX1_move_113 ml_X1_35 (sp_pop hf0 hd (by omega)) hf.1 ⟨by decide, rfl⟩ rfl rfl (Nat.le_of_ble_eq_true rfl) ?_
  refine z_istore dX1_move_116 (by decide) ?_
  show z_V _ _ _ _ _ _ _ _ _ [_, _, _, _, _, _] _ _
  refine z_aload_n dX1_move_118 rfl rfl ?_
  refine z_cV1 dX1_move_119 ml_X1_35 (sp_pop hf0 (show _ = nI (e + 1) by simp [z_up]) (by omega)) hf.1 ⟨by decide, rfl⟩ rfl rfl (Nat.le_of_ble_eq_true rfl) ?_
  refine z_istore dX1_move_122 (by decide) ?_
  show z_V _ _ _ _ _ _ _ _ _ [_, _, _, _, _, _] _ _
  refine z_aload_n dX1_move_124 rfl rfl ?_
  refine z_iload dX1_move_125 rfl ?_
  refine z_cV0 dX1_move_127 ml_X1_31 (sp_push hf0 (show _ = nI e by simp [z_up]) (by omega)) hf.1 ⟨by decide, rfl⟩ rfl rfl (Nat.le_of_ble_eq_true rfl) ?_
  refine z_aload_n dX1_move_130 rfl rfl ?_
  refine z_iload dX1_move_131 rfl ?_
  refine z_cV0 dX1_move_133 ml_X1_31 (sp_push hf0 (show _ = nI (e + 1) by simp [z_up]) (by omega)) hf.1 ⟨by decide, rfl⟩ rfl rfl (Nat.le_of_ble_eq_true rfl) ?_
  refine z_goto (tgt := 139) dX1_move_136 (by decide) ?_
  exact z_vret dX1_move_139 rfl rfl rfl
set_option maxRecDepth 100000 in
set_option maxHeartbeats 4000000 in
theorem sp_mv13 {d : Nat} {σ : Nat → Nat → Int32} {τ : Nat → Nat → Int64} {f e : Nat} (hf0 : f = 6 ∨ f = 20) {x : Int32} : z_MV M_X1_move (d + 1) 0 0 [.ref f, .int (nI 13), .int x] (124, z_r0, σ, τ) (none) (124, z_r0, σ, τ) := by
  refine z_MV.of pn_X1_move (Nat.le_of_ble_eq_true rfl) (by simp [Value.category]) rfl ?_
  show z_V _ _ _ _ _ _ _ _ _ [_, _, _, _, _, _] _ _
  have hf := fr_k hf0
  refine z_iload_n dX1_move_0 rfl rfl ?_
  refine z_tableOut (tgt := 139) dX1_move_1 (by decide) (by decide) ?_
  exact z_vret dX1_move_139 rfl rfl rfl
set_option maxRecDepth 100000 in
set_option maxHeartbeats 4000000 in
theorem has_yes_loop {d : Nat} {σ : Nat → Nat → Int32} {τ : Nat → Nat → Int64} {t n : Nat} {x y : Int32} (ht : t < 4) (hn : σ (tr t + 6) 5 = nI n) {g0 : Nat} (h15 : n ≤ 15) (hg : g0 < n) (hm : σ (tr t + 7) g0 = x ∧ σ (tr t + 8) g0 = y) (hno : ∀ j, j < g0 → ¬ (σ (tr t + 7) j = x ∧ σ (tr t + 8) j = y)) : ∀ (m v : Nat), v ≤ g0 → g0 - v < m → z_V M_X3_has d 0 0 0 0 (some (.int 1)) (124, z_r0, σ, τ) 2 [some (.ref (tr t + 6)), some (.int x), some (.int y), some (.int (nI v))] [] (124, z_r0, σ, τ) := by
  have hk := tr_k ht
  have hr := tr_r ht
  intro m
  induction m with
  | zero => intro v _ h; omega
  | succ m ih =>
    intro v hv1 hv2
    refine z_iload_n dX3_has_2 rfl rfl ?_
    refine z_aload_n dX3_has_3 rfl rfl ?_
    refine z_getI dX3_has_4 fl_X3_28 rfl hk.2.2.2.2.2.2.1 hn ?_
    refine z_icmp_ge (tgt := 38) dX3_has_7 (by decide) (fun c_ => absurd c_ (nI_ge (show v < n by omega) (by omega))) (fun _ => ?_)
    refine z_aload_n dX3_has_10 rfl rfl ?_
    refine z_getR dX3_has_11 fl_X3_9 rfl hk.2.2.2.2.2.2.1 hr.2.2.2.2.2.2.2.2.2.2.2.1 ?_
    refine z_iload_n dX3_has_14 rfl rfl ?_
    refine z_iald dX3_has_15 hk.2.2.2.2.2.2.2.1 rfl (by omega) rfl ?_
    refine z_iload_n dX3_has_16 rfl rfl ?_
    refine z_icmp_ne (tgt := 32) dX3_has_17 (by decide) (fun c17 => ?_) (fun c17 => ?_)
    · refine z_iinc dX3_has_32 rfl (nI_i _) (by decide) ?_
      show z_V _ _ _ _ _ _ _ _ _ [_, _, _, _] _ _
      refine z_goto (tgt := 2) dX3_has_35 (by decide) ?_
      have hne : v ≠ g0 := by
        intro q
        subst q
        obtain ⟨m1, m2⟩ := hm
        first | exact c17 m1 | exact c27 m2
      exact ih (v + 1) (by omega) (by omega)
    · refine z_aload_n dX3_has_20 rfl rfl ?_
      refine z_getR dX3_has_21 fl_X3_15 rfl hk.2.2.2.2.2.2.1 hr.2.2.2.2.2.2.2.2.2.2.2.2.1 ?_
      refine z_iload_n dX3_has_24 rfl rfl ?_
      refine z_zald dX3_has_25 hk.2.2.2.2.2.2.2.2.1 rfl (by omega) rfl ?_
      refine z_iload_n dX3_has_26 rfl rfl ?_
      refine z_icmp_ne (tgt := 32) dX3_has_27 (by decide) (fun c27 => ?_) (fun c27 => ?_)
      · refine z_iinc dX3_has_32 rfl (nI_i _) (by decide) ?_
        show z_V _ _ _ _ _ _ _ _ _ [_, _, _, _] _ _
        refine z_goto (tgt := 2) dX3_has_35 (by decide) ?_
        have hne : v ≠ g0 := by
          intro q
          subst q
          obtain ⟨m1, m2⟩ := hm
          first | exact c17 m1 | exact c27 m2
        exact ih (v + 1) (by omega) (by omega)
      · have hv : v = g0 := by
          rcases Nat.lt_or_ge v g0 with q | q
          · exact absurd ⟨c17, c27⟩ (hno v q)
          · omega
        subst hv
        refine z_iconst (v := 1) dX3_has_30 (by decide) ?_
        exact z_zret dX3_has_31 rfl (by first | exact Or.inl rfl | exact Or.inr rfl) rfl rfl
set_option maxRecDepth 100000 in
set_option maxHeartbeats 4000000 in
theorem sp_has_yes {d : Nat} {σ : Nat → Nat → Int32} {τ : Nat → Nat → Int64} {t n : Nat} {x y : Int32} (ht : t < 4) (hn : σ (tr t + 6) 5 = nI n) {g0 : Nat} (h15 : n ≤ 15) (hg : g0 < n) (hm : σ (tr t + 7) g0 = x ∧ σ (tr t + 8) g0 = y) (hno : ∀ j, j < g0 → ¬ (σ (tr t + 7) j = x ∧ σ (tr t + 8) j = y)) : z_MV M_X3_has d 0 0 [.ref (tr t + 6), .int x, .int y] (124, z_r0, σ, τ) (some (.int 1)) (124, z_r0, σ, τ) := by
  refine z_MV.of pn_X3_has (Nat.le_of_ble_eq_true rfl) (by simp [Value.category]) rfl ?_
  show z_V _ _ _ _ _ _ _ _ _ [_, _, _, _] _ _
  refine z_iconst (v := 0) dX3_has_0 (by decide) ?_
  refine z_istore_n dX3_has_1 rfl (by decide) ?_
  show z_V _ _ _ _ _ _ _ _ _ [_, _, _, _] _ _
  exact has_yes_loop ht hn h15 hg hm hno (g0 + 1) 0 (Nat.zero_le _) (by omega)
set_option maxRecDepth 100000 in
set_option maxHeartbeats 4000000 in
theorem has_no_loop {d : Nat} {σ : Nat → Nat → Int32} {τ : Nat → Nat → Int64} {t n : Nat} {x y : Int32} (ht : t < 4) (hn : σ (tr t + 6) 5 = nI n) (h15 : n ≤ 15) (hno : ∀ j, j < n → ¬ (σ (tr t + 7) j = x ∧ σ (tr t + 8) j = y)) : ∀ (m v : Nat), v ≤ n → n - v < m → z_V M_X3_has d 0 0 0 0 (some (.int 0)) (124, z_r0, σ, τ) 2 [some (.ref (tr t + 6)), some (.int x), some (.int y), some (.int (nI v))] [] (124, z_r0, σ, τ) := by
  have hk := tr_k ht
  have hr := tr_r ht
  intro m
  induction m with
  | zero => intro v _ h; omega
  | succ m ih =>
    intro v hv1 hv2
    refine z_iload_n dX3_has_2 rfl rfl ?_
    refine z_aload_n dX3_has_3 rfl rfl ?_
    refine z_getI dX3_has_4 fl_X3_28 rfl hk.2.2.2.2.2.2.1 hn ?_
    refine z_icmp_ge (tgt := 38) dX3_has_7 (by decide) (fun c7 => ?_) (fun c7 => ?_)
    · have e0 : n = v := by
        rcases Nat.lt_or_ge v n with q | q
        · exact absurd c7 (nI_ge q (by omega))
        · omega
      subst e0
      refine z_iconst (v := 0) dX3_has_38 (by decide) ?_
      exact z_zret dX3_has_39 rfl (by first | exact Or.inl rfl | exact Or.inr rfl) rfl rfl
    · have hlt : v < n := by
        rcases Nat.lt_or_ge v n with q | q
        · exact q
        · exact absurd (nI_le q (by omega)) c7
      refine z_aload_n dX3_has_10 rfl rfl ?_
      refine z_getR dX3_has_11 fl_X3_9 rfl hk.2.2.2.2.2.2.1 hr.2.2.2.2.2.2.2.2.2.2.2.1 ?_
      refine z_iload_n dX3_has_14 rfl rfl ?_
      refine z_iald dX3_has_15 hk.2.2.2.2.2.2.2.1 rfl (by omega) rfl ?_
      refine z_iload_n dX3_has_16 rfl rfl ?_
      refine z_icmp_ne (tgt := 32) dX3_has_17 (by decide) (fun c17 => ?_) (fun c17 => ?_)
      · refine z_iinc dX3_has_32 rfl (nI_i _) (by decide) ?_
        show z_V _ _ _ _ _ _ _ _ _ [_, _, _, _] _ _
        refine z_goto (tgt := 2) dX3_has_35 (by decide) ?_
        exact ih (v + 1) (by omega) (by omega)
      · refine z_aload_n dX3_has_20 rfl rfl ?_
        refine z_getR dX3_has_21 fl_X3_15 rfl hk.2.2.2.2.2.2.1 hr.2.2.2.2.2.2.2.2.2.2.2.2.1 ?_
        refine z_iload_n dX3_has_24 rfl rfl ?_
        refine z_zald dX3_has_25 hk.2.2.2.2.2.2.2.2.1 rfl (by omega) rfl ?_
        refine z_iload_n dX3_has_26 rfl rfl ?_
        refine z_icmp_ne (tgt := 32) dX3_has_27 (by decide) (fun c27 => ?_) (fun c27 => ?_)
        · refine z_iinc dX3_has_32 rfl (nI_i _) (by decide) ?_
          show z_V _ _ _ _ _ _ _ _ _ [_, _, _, _] _ _
          refine z_goto (tgt := 2) dX3_has_35 (by decide) ?_
          exact ih (v + 1) (by omega) (by omega)
        · exact absurd ⟨c17, c27⟩ (hno v hlt)
set_option maxRecDepth 100000 in
set_option maxHeartbeats 4000000 in
theorem sp_has_no {d : Nat} {σ : Nat → Nat → Int32} {τ : Nat → Nat → Int64} {t n : Nat} {x y : Int32} (ht : t < 4) (hn : σ (tr t + 6) 5 = nI n) (h15 : n ≤ 15) (hno : ∀ j, j < n → ¬ (σ (tr t + 7) j = x ∧ σ (tr t + 8) j = y)) : z_MV M_X3_has d 0 0 [.ref (tr t + 6), .int x, .int y] (124, z_r0, σ, τ) (some (.int 0)) (124, z_r0, σ, τ) := by
  refine z_MV.of pn_X3_has (Nat.le_of_ble_eq_true rfl) (by simp [Value.category]) rfl ?_
  show z_V _ _ _ _ _ _ _ _ _ [_, _, _, _] _ _
  refine z_iconst (v := 0) dX3_has_0 (by decide) ?_
  refine z_istore_n dX3_has_1 rfl (by decide) ?_
  show z_V _ _ _ _ _ _ _ _ _ [_, _, _, _] _ _
  exact has_no_loop ht hn h15 hno (n + 1) 0 (Nat.zero_le _) (by omega)
def gp1 (σ : Nat → Nat → Int32) (T g : Nat) (x y w : Int32) (e : Nat) : Nat → Nat → Int32 := z_up (z_up (z_up (z_up σ (T + 7) g x) (T + 8) g y) (T + 9) g w) (T + 10) g (nI e)
def gp2 (σ : Nat → Nat → Int32) (T g : Nat) : Nat → Nat → Int32 := z_row σ (T + 11) (va_cpy (σ 21) (σ (T + 11)) 0 (g * 12) 6)
def gp3 (σ : Nat → Nat → Int32) (T g e : Nat) : Nat → Nat → Int32 := z_row σ (T + 11) (va_cpy (σ 22) (σ (T + 11)) 0 (g * 12 + 6) e)
def putG (σ : Nat → Nat → Int32) (T g : Nat) (x y w : Int32) (e : Nat) : Nat → Nat → Int32 := z_up (gp3 (gp2 (gp1 σ T g x y w e) T g) T g e) (T + 6) 5 (nI (g + 1))
set_option maxRecDepth 100000 in
set_option maxHeartbeats 4000000 in
theorem sp_gput {d : Nat} {σ : Nat → Nat → Int32} {τ : Nat → Nat → Int64} {t g e : Nat} {x y w : Int32} (ht : t < 4) (hn : σ (tr t + 6) 5 = nI g) (hg : g < 15) (hy : y = 0 ∨ y = 1) (hd : σ 20 2 = nI e) (he : e ≤ 6) : z_MV M_X3_put d 0 0 [.ref (tr t + 6), .int x, .int y, .int w, .ref 20] (124, z_r0, σ, τ) (some (.int (nI g))) (124, z_r0, putG σ (tr t) g x y w e, τ) := by
  refine z_MV.of pn_X3_put (Nat.le_of_ble_eq_true rfl) (by simp [Value.category]) rfl ?_
  show z_V _ _ _ _ _ _ _ _ _ [_, _, _, _, _, _] _ _
  have hk := tr_k ht
  have hr := tr_r ht
  refine z_aload_n dX3_put_0 rfl rfl ?_
  refine z_getI dX3_put_1 fl_X3_28 rfl hk.2.2.2.2.2.2.1 hn ?_
  refine z_istore dX3_put_4 (by decide) ?_
  show z_V _ _ _ _ _ _ _ _ _ [_, _, _, _, _, _] _ _
  refine z_aload_n dX3_put_6 rfl rfl ?_
  refine z_getR dX3_put_7 fl_X3_9 rfl hk.2.2.2.2.2.2.1 hr.2.2.2.2.2.2.2.2.2.2.2.1 ?_
  refine z_iload dX3_put_10 rfl ?_
  refine z_iload_n dX3_put_12 rfl rfl ?_
  refine z_iast dX3_put_13 hk.2.2.2.2.2.2.2.1 rfl (by omega) ?_
  refine z_aload_n dX3_put_14 rfl rfl ?_
  refine z_getR dX3_put_15 fl_X3_15 rfl hk.2.2.2.2.2.2.1 hr.2.2.2.2.2.2.2.2.2.2.2.2.1 ?_
  refine z_iload dX3_put_18 rfl ?_
  refine z_iload_n dX3_put_20 rfl rfl ?_
  refine z_zast dX3_put_21 hk.2.2.2.2.2.2.2.2.1 rfl (by omega) hy ?_
  refine z_aload_n dX3_put_22 rfl rfl ?_
  refine z_getR dX3_put_23 fl_X3_19 rfl hk.2.2.2.2.2.2.1 hr.2.2.2.2.2.2.2.2.2.2.2.2.2.1 ?_
  refine z_iload dX3_put_26 rfl ?_
  refine z_iload_n dX3_put_28 rfl rfl ?_
  refine z_iast dX3_put_29 hk.2.2.2.2.2.2.2.2.2.1 rfl (by omega) ?_
  refine z_aload_n dX3_put_30 rfl rfl ?_
  refine z_getR dX3_put_31 fl_X3_22 rfl hk.2.2.2.2.2.2.1 hr.2.2.2.2.2.2.2.2.2.2.2.2.2.2.1 ?_
  refine z_iload dX3_put_34 rfl ?_
  refine z_aload dX3_put_36 rfl ?_
  refine z_getI dX3_put_38 fl_X3_32 rfl rfl (show _ = nI e by simp [z_up, hd, tr_ne (t := t) (show 20 < 28 by decide), tr_ne0 (t := t) (show 20 < 28 by decide)]) ?_
  refine z_iast dX3_put_41 hk.2.2.2.2.2.2.2.2.2.2.1 rfl (by omega) ?_
  refine z_aload dX3_put_42 rfl ?_
  refine z_getR dX3_put_44 fl_X3_37 rfl rfl rfl ?_
  refine z_iconst (v := 0) dX3_put_47 (by decide) ?_
  refine z_aload_n dX3_put_48 rfl rfl ?_
  refine z_getR dX3_put_49 fl_X3_25 rfl hk.2.2.2.2.2.2.1 hr.2.2.2.2.2.2.2.2.2.2.2.2.2.2.2 ?_
  refine z_iload dX3_put_52 rfl ?_
  refine z_bipush (v := nI 12) dX3_put_54 (by decide) ?_
  refine z_imul dX3_put_56 (pk_mul g 12) ?_
  refine z_bipush (v := nI 6) dX3_put_57 (by decide) ?_
  refine z_copy (sp := 0) (dp := g * 12) (k := 6) dX3_put_59 al_X3_40 rfl hk.2.2.2.2.2.2.2.2.2.2.2.1 nI_0.symm rfl rfl (by decide) (by omega) rfl ?_
  refine z_aload dX3_put_62 rfl ?_
  refine z_getR dX3_put_64 fl_X3_46 rfl rfl rfl ?_
  refine z_iconst (v := 0) dX3_put_67 (by decide) ?_
  refine z_aload_n dX3_put_68 rfl rfl ?_
  refine z_getR dX3_put_69 fl_X3_25 rfl hk.2.2.2.2.2.2.1 hr.2.2.2.2.2.2.2.2.2.2.2.2.2.2.2 ?_
  refine z_iload dX3_put_72 rfl ?_
  refine z_bipush (v := nI 12) dX3_put_74 (by decide) ?_
  refine z_imul dX3_put_76 (pk_mul g 12) ?_
  refine z_bipush (v := nI 6) dX3_put_77 (by decide) ?_
  refine z_iadd dX3_put_79 (nI_add _ _) ?_
  refine z_aload dX3_put_80 rfl ?_
  refine z_getI dX3_put_82 fl_X3_32 rfl rfl (show _ = nI e by simp [z_up, z_row, hd, tr_ne (t := t) (show 20 < 28 by decide), tr_ne0 (t := t) (show 20 < 28 by decide)]) ?_
  refine z_copy (sp := 0) (dp := g * 12 + 6) (k := e) dX3_put_85 al_X3_40 rfl hk.2.2.2.2.2.2.2.2.2.2.2.1 nI_0.symm rfl rfl (by omega) (by omega) rfl ?_
  refine z_aload_n dX3_put_88 rfl rfl ?_
  refine z_dup dX3_put_89 rfl ?_
  refine z_getI dX3_put_90 fl_X3_28 rfl hk.2.2.2.2.2.2.1 (show _ = nI g by simp [z_up, z_row, hn]) ?_
  refine z_iconst (v := 1) dX3_put_93 (by decide) ?_
  refine z_iadd dX3_put_94 (nI_1 _) ?_
  refine z_putI dX3_put_95 fl_X3_28 rfl rfl (Or.inl rfl) hk.2.2.2.2.2.2.1 ?_
  refine z_iload dX3_put_98 rfl ?_
  exact z_iret dX3_put_100 rfl rfl rfl
def pic (σ : Nat → Nat → Int32) (T g j : Nat) : Int32 := σ (T + 5) (tN (σ (T + 11) (g * 12 + j)))
def rst1 (σ : Nat → Nat → Int32) (T g i : Nat) : Nat → Nat → Int32 := rowF σ 7 (fun l => pic σ T g l) i
def rst2 (σ : Nat → Nat → Int32) (T g i : Nat) : Nat → Nat → Int32 := rowF (rst1 σ T g 6) 8 (fun s => pic σ T g (6 + s)) i
def rstG (σ : Nat → Nat → Int32) (T g e : Nat) : Nat → Nat → Int32 := z_up (z_up (rst2 σ T g e) 6 2 (nI e)) 6 3 (σ (T + 9) g)
set_option maxRecDepth 100000 in
set_option maxHeartbeats 4000000 in
theorem restore_loop2 {d : Nat} {σ : Nat → Nat → Int32} {τ : Nat → Nat → Int64} {t g e : Nat} (ht : t < 4) (hg : g < 15) (hd : σ (tr t + 10) g = nI e) (he : e ≤ 6) (hp : ∀ j, j < 6 + e → ∃ q, q < 36 ∧ σ (tr t + 11) (g * 12 + j) = nI q) : ∀ (m v : Nat), v ≤ e → e - v < m → z_V M_X3_restore d 0 0 0 0 none (124, z_r0, rstG σ (tr t) g e, τ) 44 [some (.ref (tr t + 6)), some (.int (nI g)), some (.ref (tr t + 5)), some (.ref 6), some (.int (nI (g * 12))), some (.int (nI v))] [] (124, z_r0, rst2 σ (tr t) g v, τ) := by
  have hk := tr_k ht
  have hr := tr_r ht
  intro m
  induction m with
  | zero => intro v _ h; omega
  | succ m ih =>
    intro v hv1 hv2
    refine z_iload dX3_restore_44 rfl ?_
    refine z_aload_n dX3_restore_46 rfl rfl ?_
    refine z_getR dX3_restore_47 fl_X3_22 rfl hk.2.2.2.2.2.2.1 hr.2.2.2.2.2.2.2.2.2.2.2.2.2.2.1 ?_
    refine z_iload_n dX3_restore_50 rfl rfl ?_
    refine z_iald dX3_restore_51 hk.2.2.2.2.2.2.2.2.2.2.1 rfl (by omega) (show _ = nI e by simp [rst2, rst1, rowF, z_row, hd, tr_ne (t := t) (show 7 < 28 by decide), tr_ne' (t := t) (show 7 < 28 by decide), tr_ne (t := t) (show 8 < 28 by decide), tr_ne' (t := t) (show 8 < 28 by decide)]) ?_
    refine z_icmp_ge (tgt := 83) dX3_restore_52 (by decide) (fun c52 => ?_) (fun c52 => ?_)
    · have e0 : e = v := by
        rcases Nat.lt_or_ge v e with q | q
        · exact absurd c52 (nI_ge q (by omega))
        · omega
      subst e0
      refine z_aload_n dX3_restore_83 rfl rfl ?_
      refine z_aload_n dX3_restore_84 rfl rfl ?_
      refine z_getR dX3_restore_85 fl_X3_22 rfl hk.2.2.2.2.2.2.1 hr.2.2.2.2.2.2.2.2.2.2.2.2.2.2.1 ?_
      refine z_iload_n dX3_restore_88 rfl rfl ?_
      refine z_iald dX3_restore_89 hk.2.2.2.2.2.2.2.2.2.2.1 rfl (by omega) (show _ = nI e by simp [rst2, rst1, rowF, z_row, hd, tr_ne (t := t) (show 7 < 28 by decide), tr_ne' (t := t) (show 7 < 28 by decide), tr_ne (t := t) (show 8 < 28 by decide), tr_ne' (t := t) (show 8 < 28 by decide)]) ?_
      refine z_putI dX3_restore_90 fl_X3_32 rfl rfl (Or.inl rfl) rfl ?_
      refine z_aload_n dX3_restore_93 rfl rfl ?_
      refine z_aload_n dX3_restore_94 rfl rfl ?_
      refine z_getR dX3_restore_95 fl_X3_19 rfl hk.2.2.2.2.2.2.1 hr.2.2.2.2.2.2.2.2.2.2.2.2.2.1 ?_
      refine z_iload_n dX3_restore_98 rfl rfl ?_
      refine z_iald dX3_restore_99 hk.2.2.2.2.2.2.2.2.2.1 rfl (by omega) (show _ = σ (tr t + 9) g by simp [z_up, rst2, rst1, rowF, z_row, tr_ne (t := t) (show 7 < 28 by decide), tr_ne' (t := t) (show 7 < 28 by decide), tr_ne (t := t) (show 8 < 28 by decide), tr_ne' (t := t) (show 8 < 28 by decide), tr_ne' (t := t) (show 6 < 28 by decide)]) ?_
      refine z_putI dX3_restore_100 fl_X3_49 rfl rfl (Or.inl rfl) rfl ?_
      exact z_vret dX3_restore_103 rfl rfl rfl
    · have hlt : v < e := by
        rcases Nat.lt_or_ge v e with q | q
        · exact q
        · exact absurd (nI_le q (by omega)) c52
      refine z_aload_n dX3_restore_55 rfl rfl ?_
      refine z_getR dX3_restore_56 fl_X3_46 rfl rfl rfl ?_
      refine z_iload dX3_restore_59 rfl ?_
      refine z_aload_n dX3_restore_61 rfl rfl ?_
      refine z_aload_n dX3_restore_62 rfl rfl ?_
      refine z_getR dX3_restore_63 fl_X3_25 rfl hk.2.2.2.2.2.2.1 hr.2.2.2.2.2.2.2.2.2.2.2.2.2.2.2 ?_
      refine z_iload dX3_restore_66 rfl ?_
      refine z_bipush (v := nI 6) dX3_restore_68 (by decide) ?_
      refine z_iadd dX3_restore_70 (nI_add _ _) ?_
      refine z_iload dX3_restore_71 rfl ?_
      refine z_iadd dX3_restore_73 (nI_add _ _) ?_
      obtain ⟨q, hq, hpq⟩ := hp (6 + v) (by omega)
      refine z_iald (j := g * 12 + 6 + v) dX3_restore_74 hk.2.2.2.2.2.2.2.2.2.2.2.1 rfl (by omega) (show _ = nI q by simp only [rst2, rst1]; rw [rowF_ne _ _ _ (tr_ne' (by decide) _), rowF_ne _ _ _ (tr_ne' (by decide) _)]; exact (Nat.add_assoc (g * 12) 6 v) ▸ hpq) ?_
      refine z_iald dX3_restore_75 hk.2.2.2.2.2.1 rfl (by omega) (show _ = pic σ (tr t) g (6 + v) by simp only [rst2, rst1]; rw [rowF_ne _ _ _ (tr_ne' (by decide) _), rowF_ne _ _ _ (tr_ne' (by decide) _)]; unfold pic; rw [hpq, tN_nI (by omega)]) ?_
      refine z_iast dX3_restore_76 rfl rfl (by omega) ?_
      refine z_iinc dX3_restore_77 rfl (nI_i _) (by decide) ?_
      show z_V _ _ _ _ _ _ _ _ _ [_, _, _, _, _, _] _ _
      refine z_goto (tgt := 44) dX3_restore_80 (by decide) ?_
      rw [show z_up (rst2 σ (tr t) g v) 8 v (pic σ (tr t) g (6 + v)) = rst2 σ (tr t) g (v + 1) from rowF_s _ _ _ _]
      exact ih (v + 1) (by omega) (by omega)
set_option maxRecDepth 100000 in
set_option maxHeartbeats 4000000 in
theorem restore_loop1 {d : Nat} {σ : Nat → Nat → Int32} {τ : Nat → Nat → Int64} {t g e : Nat} (ht : t < 4) (hg : g < 15) (hd : σ (tr t + 10) g = nI e) (he : e ≤ 6) (hp : ∀ j, j < 6 + e → ∃ q, q < 36 ∧ σ (tr t + 11) (g * 12 + j) = nI q) : ∀ (m v : Nat), v ≤ 6 → 6 - v < m → z_V M_X3_restore d 0 0 0 0 none (124, z_r0, rstG σ (tr t) g e, τ) 9 [some (.ref (tr t + 6)), some (.int (nI g)), some (.ref (tr t + 5)), some (.ref 6), some (.int (nI (g * 12))), some (.int (nI v))] [] (124, z_r0, rst1 σ (tr t) g v, τ) := by
  have hk := tr_k ht
  have hr := tr_r ht
  intro m
  induction m with
  | zero => intro v _ h; omega
  | succ m ih =>
    intro v hv1 hv2
    refine z_iload dX3_restore_9 rfl ?_
    refine z_bipush (v := nI 6) dX3_restore_11 (by decide) ?_
    refine z_icmp_ge (tgt := 41) dX3_restore_13 (by decide) (fun c13 => ?_) (fun c13 => ?_)
    · have e0 : 6 = v := by
        rcases Nat.lt_or_ge v 6 with q | q
        · exact absurd c13 (nI_ge q (by omega))
        · omega
      subst e0
      refine z_iconst (v := 0) dX3_restore_41 (by decide) ?_
      refine z_istore dX3_restore_42 (by decide) ?_
      show z_V _ _ _ _ _ _ _ _ _ [_, _, _, _, _, _] _ _
      have h2 := restore_loop2 (d := d) (τ := τ) ht hg hd he hp (e + 1) 0 (Nat.zero_le _) (by omega)
      rw [show rst2 σ (tr t) g 0 = rst1 σ (tr t) g 6 from rowF_0 _ _ _] at h2
      exact h2
    · have hlt : v < 6 := by
        rcases Nat.lt_or_ge v 6 with q | q
        · exact q
        · exact absurd (nI_le q (by omega)) c13
      refine z_aload_n dX3_restore_16 rfl rfl ?_
      refine z_getR dX3_restore_17 fl_X3_37 rfl rfl rfl ?_
      refine z_iload dX3_restore_20 rfl ?_
      refine z_aload_n dX3_restore_22 rfl rfl ?_
      refine z_aload_n dX3_restore_23 rfl rfl ?_
      refine z_getR dX3_restore_24 fl_X3_25 rfl hk.2.2.2.2.2.2.1 hr.2.2.2.2.2.2.2.2.2.2.2.2.2.2.2 ?_
      refine z_iload dX3_restore_27 rfl ?_
      refine z_iload dX3_restore_29 rfl ?_
      refine z_iadd dX3_restore_31 (nI_add _ _) ?_
      obtain ⟨q, hq, hpq⟩ := hp v (by omega)
      refine z_iald (j := g * 12 + v) dX3_restore_32 hk.2.2.2.2.2.2.2.2.2.2.2.1 rfl (by omega) (show _ = nI q by simp only [rst1]; rw [rowF_ne _ _ _ (tr_ne' (by decide) _)]; exact hpq) ?_
      refine z_iald dX3_restore_33 hk.2.2.2.2.2.1 rfl (by omega) (show _ = pic σ (tr t) g v by simp only [rst1]; rw [rowF_ne _ _ _ (tr_ne' (by decide) _)]; unfold pic; rw [hpq, tN_nI (by omega)]) ?_
      refine z_iast dX3_restore_34 rfl rfl (by omega) ?_
      refine z_iinc dX3_restore_35 rfl (nI_i _) (by decide) ?_
      show z_V _ _ _ _ _ _ _ _ _ [_, _, _, _, _, _] _ _
      refine z_goto (tgt := 9) dX3_restore_38 (by decide) ?_
      rw [show z_up (rst1 σ (tr t) g v) 7 v (pic σ (tr t) g v) = rst1 σ (tr t) g (v + 1) from rowF_s _ _ _ _]
      exact ih (v + 1) (by omega) (by omega)
set_option maxRecDepth 100000 in
set_option maxHeartbeats 4000000 in
theorem sp_restore {d : Nat} {σ : Nat → Nat → Int32} {τ : Nat → Nat → Int64} {t g e : Nat} (ht : t < 4) (hg : g < 15) (hd : σ (tr t + 10) g = nI e) (he : e ≤ 6) (hp : ∀ j, j < 6 + e → ∃ q, q < 36 ∧ σ (tr t + 11) (g * 12 + j) = nI q) : z_MV M_X3_restore d 0 0 [.ref (tr t + 6), .int (nI g), .ref (tr t + 5), .ref 6] (124, z_r0, σ, τ) (none) (124, z_r0, rstG σ (tr t) g e, τ) := by
  refine z_MV.of pn_X3_restore (Nat.le_of_ble_eq_true rfl) (by simp [Value.category]) rfl ?_
  show z_V _ _ _ _ _ _ _ _ _ [_, _, _, _, _, _] _ _
  have hk := tr_k ht
  have hr := tr_r ht
  refine z_iload_n dX3_restore_0 rfl rfl ?_
  refine z_bipush (v := nI 12) dX3_restore_1 (by decide) ?_
  refine z_imul dX3_restore_3 (pk_mul g 12) ?_
  refine z_istore dX3_restore_4 (by decide) ?_
  show z_V _ _ _ _ _ _ _ _ _ [_, _, _, _, _, _] _ _
  refine z_iconst (v := 0) dX3_restore_6 (by decide) ?_
  refine z_istore dX3_restore_7 (by decide) ?_
  show z_V _ _ _ _ _ _ _ _ _ [_, _, _, _, _, _] _ _
  have h2 := restore_loop1 (d := d) (τ := τ) ht hg hd he hp 7 0 (by omega) (by omega)
  rw [show rst1 σ (tr t) g 0 = σ from rowF_0 _ _ _] at h2
  exact h2
end
section
/-! PART 25: Trace.countStaying, doHead, doBody -/
theorem b2i_t {p : Prop} [Decidable p] (h : p) : b2i p = 1 := if_pos h
theorem b2i_f {p : Prop} [Decidable p] (h : ¬ p) : b2i p = 0 := if_neg h
theorem b2i_01 (p : Prop) [Decidable p] : b2i p = 0 ∨ b2i p = 1 := by unfold b2i; split <;> simp
def cstF (σ : Nat → Nat → Int32) (T : Nat) : Nat → Int32
  | 0 => 0
  | i + 1 => cstF σ T i + b2i (σ (T + 12) i = nI i)
def okV (σ : Nat → Nat → Int32) (T v : Nat) : Prop := v < 36 ∧ ∃ op a b : Nat, σ (T + 2) v = nI op ∧ 3 ≤ op ∧ op ≤ 8 ∧ σ (T + 3) v = nI a ∧ a < 36 ∧ σ (T + 4) v = nI b ∧ b < 36
def wkS (σ : Nat → Nat → Int32) (T v : Nat) : Nat → Nat → Int32 := z_up σ (T + 5) v (wk (tN (σ (T + 2) v)) (σ (T + 5) (tN (σ (T + 3) v))) (σ (T + 5) (tN (σ (T + 4) v))))
theorem wkS_ne (σ : Nat → Nat → Int32) (T v : Nat) {a : Nat} (h : a ≠ T + 5) : wkS σ T v a = σ a := z_up_ne _ _ _ h
theorem sp_workS {d : Nat} {σ : Nat → Nat → Int32} {τ : Nat → Nat → Int64} {t v : Nat} (ht : t < 4) (hv : okV σ (tr t) v) : z_MV M_X9_work (d + 1) 0 0 [.ref (tr t + 1), .int (nI v)] (124, z_r0, σ, τ) none (124, z_r0, wkS σ (tr t) v, τ) := by
  obtain ⟨hv, op, a, b, h1, h2, h3, h4, h5, h6, h7⟩ := hv
  have := sp_work (d := d) (τ := τ) ht hv h1 h2 h3 h4 h5 h6 h7
  unfold wkS
  rw [h1, h4, h6, tN_nI (by omega), tN_nI (by omega), tN_nI (by omega)]
  exact this
def hdS (σ : Nat → Nat → Int32) (T : Nat) : Nat → Nat → Nat → Int32
  | 0 => σ
  | i + 1 => wkS (hdS σ T i) T (tN (σ (T + 13) i))
theorem hdS_ne (σ : Nat → Nat → Int32) (T i : Nat) {a : Nat} (h : a ≠ T + 5) : hdS σ T i a = σ a := by
  induction i with
  | zero => rfl
  | succ i ih => simp only [hdS]; rw [wkS_ne _ _ _ h, ih]
theorem okV_eq {σ σ' : Nat → Nat → Int32} {T v : Nat} (h : ∀ c, c ≤ 15 → c ≠ 5 → σ' (T + c) = σ (T + c)) (hv : okV σ T v) : okV σ' T v := by
  unfold okV at *
  rw [h 2 (by omega) (by omega), h 3 (by omega) (by omega), h 4 (by omega) (by omega)]
  exact hv
set_option maxRecDepth 100000 in
set_option maxHeartbeats 4000000 in
theorem cst_loop {d : Nat} {σ : Nat → Nat → Int32} {τ : Nat → Nat → Int64} {t : Nat} (ht : t < 4) : ∀ (m v : Nat), v ≤ 6 → 6 - v < m → z_V M_X7_countStaying (d + 1) 0 0 0 0 (some (.int (cstF σ (tr t) 6))) (124, z_r0, σ, τ) 4 [some (.ref (tr t)), some (.int (cstF σ (tr t) v)), some (.int (nI v))] [] (124, z_r0, σ, τ) := by
  have hk := tr_k ht
  have hr := tr_r ht
  intro m
  induction m with
  | zero => intro v _ h; omega
  | succ m ih =>
    intro v hv1 hv2
    refine z_iload_n dX7_countStaying_4 rfl rfl ?_
    refine z_bipush (v := nI 6) dX7_countStaying_5 (by decide) ?_
    refine z_icmp_ge (tgt := 32) dX7_countStaying_7 (by decide) (fun c7 => ?_) (fun c7 => ?_)
    · have e0 : 6 = v := by
        rcases Nat.lt_or_ge v 6 with q | q
        · exact absurd c7 (nI_ge q (by omega))
        · omega
      subst e0
      refine z_iload_n dX7_countStaying_32 rfl rfl ?_
      exact z_iret dX7_countStaying_33 rfl rfl rfl
    · have hlt : v < 6 := by
        rcases Nat.lt_or_ge v 6 with q | q
        · exact q
        · exact absurd (nI_le q (by omega)) c7
      refine z_iload_n dX7_countStaying_10 rfl rfl ?_
      refine z_aload_n dX7_countStaying_11 rfl rfl ?_
      refine z_iload_n dX7_countStaying_12 rfl rfl ?_
      refine z_cV1 dX7_countStaying_13 ml_X7_57 (sp_stays ht hlt) hk.1 ⟨by decide, rfl⟩ rfl rfl (Nat.le_of_ble_eq_true rfl) ?_
      refine z_if_eq (tgt := 23) dX7_countStaying_16 (by decide) (fun c16 => ?_) (fun c16 => ?_)
      · refine z_iconst (v := 0) dX7_countStaying_23 (by decide) ?_
        refine z_iadd dX7_countStaying_24 (show _ = cstF σ (tr t) (v + 1) by
      rcases b2i_01 (σ (tr t + 12) v = nI v) with hb | hb <;> simp_all [cstF]) ?_
        refine z_istore_n dX7_countStaying_25 rfl (by decide) ?_
        show z_V _ _ _ _ _ _ _ _ _ [_, _, _] _ _
        refine z_iinc dX7_countStaying_26 rfl (nI_i _) (by decide) ?_
        show z_V _ _ _ _ _ _ _ _ _ [_, _, _] _ _
        refine z_goto (tgt := 4) dX7_countStaying_29 (by decide) ?_
        exact ih (v + 1) (by omega) (by omega)
      · refine z_iconst (v := 1) dX7_countStaying_19 (by decide) ?_
        refine z_goto (tgt := 24) dX7_countStaying_20 (by decide) ?_
        refine z_iadd dX7_countStaying_24 (show _ = cstF σ (tr t) (v + 1) by
      rcases b2i_01 (σ (tr t + 12) v = nI v) with hb | hb <;> simp_all [cstF]) ?_
        refine z_istore_n dX7_countStaying_25 rfl (by decide) ?_
        show z_V _ _ _ _ _ _ _ _ _ [_, _, _] _ _
        refine z_iinc dX7_countStaying_26 rfl (nI_i _) (by decide) ?_
        show z_V _ _ _ _ _ _ _ _ _ [_, _, _] _ _
        refine z_goto (tgt := 4) dX7_countStaying_29 (by decide) ?_
        exact ih (v + 1) (by omega) (by omega)
set_option maxRecDepth 100000 in
set_option maxHeartbeats 4000000 in
theorem sp_countStaying {d : Nat} {σ : Nat → Nat → Int32} {τ : Nat → Nat → Int64} {t : Nat} (ht : t < 4) : z_MV M_X7_countStaying (d + 1) 0 0 [.ref (tr t)] (124, z_r0, σ, τ) (some (.int (cstF σ (tr t) 6))) (124, z_r0, σ, τ) := by
  refine z_MV.of pn_X7_countStaying (Nat.le_of_ble_eq_true rfl) (by simp [Value.category]) rfl ?_
  show z_V _ _ _ _ _ _ _ _ _ [_, _, _] _ _
  have hk := tr_k ht
  have hr := tr_r ht
  refine z_iconst (v := 0) dX7_countStaying_0 (by decide) ?_
  refine z_istore_n dX7_countStaying_1 rfl (by decide) ?_
  show z_V _ _ _ _ _ _ _ _ _ [_, _, _] _ _
  refine z_iconst (v := 0) dX7_countStaying_2 (by decide) ?_
  refine z_istore_n dX7_countStaying_3 rfl (by decide) ?_
  show z_V _ _ _ _ _ _ _ _ _ [_, _, _] _ _
  exact cst_loop ht 7 0 (by omega) (by omega)
set_option maxRecDepth 100000 in
set_option maxHeartbeats 4000000 in
theorem doHead_loop {d : Nat} {σ : Nat → Nat → Int32} {τ : Nat → Nat → Int64} {t : Nat} (ht : t < 4) {n : Nat} (hn : σ (tr t) 4 = nI n) (h30 : n ≤ 30) (hh : ∀ v, v < n → ∃ q, σ (tr t + 13) v = nI q ∧ okV σ (tr t) q) : ∀ (m v : Nat), v ≤ n → n - v < m → z_V M_X7_doHead (d + 2) 0 0 0 0 none (124, z_r0, z_up (hdS σ (tr t) n) 11 3 (σ 11 3 + nI n), τ) 2 [some (.ref (tr t)), some (.ref 11), some (.int (nI v))] [] (124, z_r0, hdS σ (tr t) v, τ) := by
  have hk := tr_k ht
  have hr := tr_r ht
  intro m
  induction m with
  | zero => intro v _ h; omega
  | succ m ih =>
    intro v hv1 hv2
    refine z_iload_n dX7_doHead_2 rfl rfl ?_
    refine z_aload_n dX7_doHead_3 rfl rfl ?_
    refine z_getI dX7_doHead_4 fl_X7_48 rfl hk.1 (show _ = nI n by rw [hdS_ne _ _ _ (by omega)]; exact hn) ?_
    refine z_icmp_ge (tgt := 29) dX7_doHead_7 (by decide) (fun c7 => ?_) (fun c7 => ?_)
    · have e0 : n = v := by
        rcases Nat.lt_or_ge v n with q | q
        · exact absurd c7 (nI_ge q (by omega))
        · omega
      subst e0
      refine z_aload_n dX7_doHead_29 rfl rfl ?_
      refine z_dup dX7_doHead_30 rfl ?_
      refine z_getI dX7_doHead_31 fl_X7_65 rfl rfl (show _ = σ 11 3 by rw [hdS_ne _ _ _ (tr_ne (by decide) 5)]) ?_
      refine z_aload_n dX7_doHead_34 rfl rfl ?_
      refine z_getI dX7_doHead_35 fl_X7_48 rfl hk.1 (show _ = nI n by rw [hdS_ne _ _ _ (by omega)]; exact hn) ?_
      refine z_iadd dX7_doHead_38 rfl ?_
      refine z_putI dX7_doHead_39 fl_X7_65 rfl rfl (Or.inl rfl) rfl ?_
      exact z_vret dX7_doHead_42 rfl rfl rfl
    · have hlt : v < n := by
        rcases Nat.lt_or_ge v n with q | q
        · exact q
        · exact absurd (nI_le q (by omega)) c7
      refine z_aload_n dX7_doHead_10 rfl rfl ?_
      refine z_getR dX7_doHead_11 fl_X7_12 rfl hk.1 hr.2.1 ?_
      refine z_aload_n dX7_doHead_14 rfl rfl ?_
      refine z_getR dX7_doHead_15 fl_X7_29 rfl hk.1 hr.2.2.2.2.1 ?_
      refine z_iload_n dX7_doHead_18 rfl rfl ?_
      obtain ⟨q, hq, ok⟩ := hh v hlt
      refine z_iald dX7_doHead_19 hk.2.2.2.2.2.2.2.2.2.2.2.2.2.1 rfl (by omega) (show _ = nI q by rw [hdS_ne _ _ _ (by omega)]; exact hq) ?_
      refine z_cV0 dX7_doHead_20 ml_X7_61 (sp_workS ht (okV_eq (fun c h1 h2 => hdS_ne _ _ _ (by omega)) ok)) hk.2.1 ⟨by decide, rfl⟩ rfl rfl (Nat.le_of_ble_eq_true rfl) ?_
      refine z_iinc dX7_doHead_23 rfl (nI_i _) (by decide) ?_
      show z_V _ _ _ _ _ _ _ _ _ [_, _, _] _ _
      refine z_goto (tgt := 2) dX7_doHead_26 (by decide) ?_
      have e1 : hdS σ (tr t) (v + 1) = wkS (hdS σ (tr t) v) (tr t) q := by
        simp only [hdS]
        rw [hq, tN_nI (by have := ok.1; omega)]
      rw [← e1]
      exact ih (v + 1) (by omega) (by omega)
set_option maxRecDepth 100000 in
set_option maxHeartbeats 4000000 in
theorem sp_doHead {d : Nat} {σ : Nat → Nat → Int32} {τ : Nat → Nat → Int64} {t : Nat} (ht : t < 4) {n : Nat} (hn : σ (tr t) 4 = nI n) (h30 : n ≤ 30) (hh : ∀ v, v < n → ∃ q, σ (tr t + 13) v = nI q ∧ okV σ (tr t) q) : z_MV M_X7_doHead (d + 2) 0 0 [.ref (tr t), .ref 11] (124, z_r0, σ, τ) (none) (124, z_r0, z_up (hdS σ (tr t) n) 11 3 (σ 11 3 + nI n), τ) := by
  refine z_MV.of pn_X7_doHead (Nat.le_of_ble_eq_true rfl) (by simp [Value.category]) rfl ?_
  show z_V _ _ _ _ _ _ _ _ _ [_, _, _] _ _
  have hk := tr_k ht
  have hr := tr_r ht
  refine z_iconst (v := 0) dX7_doHead_0 (by decide) ?_
  refine z_istore_n dX7_doHead_1 rfl (by decide) ?_
  show z_V _ _ _ _ _ _ _ _ _ [_, _, _] _ _
  exact doHead_loop ht hn h30 hh (n + 1) 0 (Nat.zero_le _) (by omega)
def gvS (σ : Nat → Nat → Int32) (x : Int32) : Nat → Nat → Int32 := z_up (z_up (z_up σ 9 1 (nI ((tN (σ 9 1) + 1) % 30))) 10 ((tN (σ 9 1) + 1) % 30) x) 9 2 (σ 9 2 + 1)
def tkS (σ : Nat → Nat → Int32) : Nat → Nat → Int32 := z_up σ 11 3 (σ 11 3 + 1)
def finS (σ : Nat → Nat → Int32) (T i : Nat) : Nat → Nat → Int32 := rowF σ 7 (fun l => σ (T + 5) (tN (σ (T + 12) l))) i
def hld (σ : Nat → Nat → Int32) (T g : Nat) : Prop := b2i (σ (T + 5) (tN (σ (T + 7) g)) ≠ 0) = σ (T + 8) g
def bdF (T : Nat) : Nat → Nat → (Nat → Nat → Int32) → Int32 × (Nat → Nat → Int32)
  | 0, _, σ => (1, finS σ T 6)
  | m + 1, b, σ =>
    if σ (T + 14) b = 0 then bdF T m (b + 1) (wkS (tkS σ) T (tN (σ (T + 15) b)))
    else if σ (T + 14) b = nI 2 then bdF T m (b + 1) (gvS (tkS σ) (σ (T + 5) (tN (σ (T + 15) b))))
    else if b2i (σ (T + 5) (tN (σ (T + 7) (tN (σ (T + 15) b)))) ≠ 0) = σ (T + 8) (tN (σ (T + 15) b)) then bdF T m (b + 1) (tkS σ)
    else (0, rstG (tkS σ) T (tN (σ (T + 15) b)) (tN (σ (T + 10) (tN (σ (T + 15) b)))))
def okG (σ : Nat → Nat → Int32) (T g : Nat) : Prop := g < 15 ∧ (∃ a, a < 36 ∧ σ (T + 7) g = nI a) ∧ ∃ e, e ≤ 6 ∧ σ (T + 10) g = nI e ∧ ∀ j, j < 6 + e → ∃ q, q < 36 ∧ σ (T + 11) (g * 12 + j) = nI q
def okB (σ : Nat → Nat → Int32) (T b : Nat) : Prop := ∃ q : Nat, q < 36 ∧ σ (T + 15) b = nI q ∧ ((σ (T + 14) b = 0 ∧ okV σ T q) ∨ σ (T + 14) b = nI 2 ∨ (σ (T + 14) b = 1 ∧ okG σ T q))
def bI (σ : Nat → Nat → Int32) (T n : Nat) : Prop := (∀ b, b < n → okB σ T b) ∧ σ T 9 = nI n ∧ (∃ e, e < 30 ∧ σ 9 1 = nI e) ∧ ∀ l, l < 6 → ∃ q, q < 36 ∧ σ (T + 12) l = nI q
theorem okG_eq {σ σ' : Nat → Nat → Int32} {T g : Nat} (h : ∀ c, c ≤ 15 → c ≠ 5 → σ' (T + c) = σ (T + c)) (hv : okG σ T g) : okG σ' T g := by
  unfold okG at *
  rw [h 7 (by omega) (by omega), h 10 (by omega) (by omega), h 11 (by omega) (by omega)]
  exact hv
theorem okB_eq {σ σ' : Nat → Nat → Int32} {T b : Nat} (h : ∀ c, c ≤ 15 → c ≠ 5 → σ' (T + c) = σ (T + c)) (hv : okB σ T b) : okB σ' T b := by
  obtain ⟨q, h0, h1, h2⟩ := hv
  refine ⟨q, h0, ?_, ?_⟩
  · rw [h 15 (by omega) (by omega)]; exact h1
  · rw [h 14 (by omega) (by omega)]
    rcases h2 with ⟨a, b⟩ | h2 | ⟨a, b⟩
    · exact Or.inl ⟨a, okV_eq h b⟩
    · exact Or.inr (Or.inl h2)
    · exact Or.inr (Or.inr ⟨a, okG_eq h b⟩)
theorem bI_eq {σ σ' : Nat → Nat → Int32} {T n : Nat} (h : ∀ c, c ≤ 15 → c ≠ 5 → σ' (T + c) = σ (T + c)) (he : ∃ e, e < 30 ∧ σ' 9 1 = nI e) (hv : bI σ T n) : bI σ' T n := by
  refine ⟨fun b hb => okB_eq h (hv.1 b hb), ?_, he, ?_⟩
  · have := h 0 (by omega) (by omega)
    rw [Nat.add_zero] at this
    rw [this]
    exact hv.2.1
  · rw [h 12 (by omega) (by omega)]; exact hv.2.2.2
theorem bI_tk {σ : Nat → Nat → Int32} {t n : Nat} (hv : bI σ (tr t) n) : bI (tkS σ) (tr t) n := bI_eq (fun c _ _ => z_up_ne _ _ _ (tr_ne' (by decide) c)) (by
  obtain ⟨e, h1, h2⟩ := hv.2.2.1
  exact ⟨e, h1, by rw [tkS, z_up_o _ _ (Or.inl (by decide))]; exact h2⟩) hv
theorem bI_wk {σ : Nat → Nat → Int32} {t n q : Nat} (hv : bI σ (tr t) n) : bI (wkS σ (tr t) q) (tr t) n := bI_eq (fun c _ h => wkS_ne _ _ _ (by omega)) (by
  obtain ⟨e, h1, h2⟩ := hv.2.2.1
  exact ⟨e, h1, by rw [wkS_ne _ _ _ (tr_ne (by decide) 5)]; exact h2⟩) hv
theorem bI_gv {σ : Nat → Nat → Int32} {t n : Nat} {x : Int32} (hv : bI σ (tr t) n) : bI (gvS σ x) (tr t) n := bI_eq (fun c _ h => by
  unfold gvS
  rw [z_up_ne _ _ _ (tr_ne' (by decide) c), z_up_ne _ _ _ (tr_ne' (by decide) c), z_up_ne _ _ _ (tr_ne' (by decide) c)]) ⟨(tN (σ 9 1) + 1) % 30, Nat.mod_lt _ (by decide), by simp [gvS, z_up]⟩ hv
theorem tkS_t {σ : Nat → Nat → Int32} {t c : Nat} : tkS σ (tr t + c) = σ (tr t + c) := z_up_ne _ _ _ (tr_ne' (by decide) c)
theorem sp_giveS {d : Nat} {σ : Nat → Nat → Int32} {τ : Nat → Nat → Int64} {x : Int32} (he : ∃ e, e < 30 ∧ σ 9 1 = nI e) : z_MV M_X2_give d 0 0 [.ref 9, .int x] (124, z_r0, σ, τ) none (124, z_r0, gvS σ x, τ) := by
  obtain ⟨e, h1, h2⟩ := he
  have := sp_give (d := d) (τ := τ) (x := x) h2 h1
  unfold gvS
  rw [h2, tN_nI (by omega)]
  exact this
set_option maxRecDepth 100000 in
set_option maxHeartbeats 4000000 in
theorem doBody_fin {d : Nat} {σ : Nat → Nat → Int32} {τ : Nat → Nat → Int64} {t n : Nat} (ht : t < 4) {w5 : Option Value} (hI : bI σ (tr t) n) : ∀ (m v : Nat), v ≤ 6 → 6 - v < m → z_V M_X7_doBody (d + 2) 0 0 0 0 (some (.int 1)) (124, z_r0, finS σ (tr t) 6, τ) 128 [some (.ref (tr t)), some (.ref 6), some (.ref 9), some (.ref 11), some (.int (nI v)), w5] [] (124, z_r0, finS σ (tr t) v, τ) := by
  have hk := tr_k ht
  have hr := tr_r ht
  intro m
  induction m with
  | zero => intro v _ h; omega
  | succ m ih =>
    intro v hv1 hv2
    refine z_iload dX7_doBody_128 rfl ?_
    refine z_bipush (v := nI 6) dX7_doBody_130 (by decide) ?_
    refine z_icmp_ge (tgt := 163) dX7_doBody_132 (by decide) (fun c132 => ?_) (fun c132 => ?_)
    · have e0 : 6 = v := by
        rcases Nat.lt_or_ge v 6 with q | q
        · exact absurd c132 (nI_ge q (by omega))
        · omega
      subst e0
      refine z_iconst (v := 1) dX7_doBody_163 (by decide) ?_
      exact z_zret dX7_doBody_164 rfl (by first | exact Or.inl rfl | exact Or.inr rfl) rfl rfl
    · have hlt : v < 6 := by
        rcases Nat.lt_or_ge v 6 with q | q
        · exact q
        · exact absurd (nI_le q (by omega)) c132
      refine z_aload_n dX7_doBody_135 rfl rfl ?_
      refine z_getR dX7_doBody_136 fl_X7_86 rfl rfl rfl ?_
      refine z_iload dX7_doBody_139 rfl ?_
      refine z_aload_n dX7_doBody_141 rfl rfl ?_
      refine z_getR dX7_doBody_142 fl_X7_12 rfl hk.1 hr.2.1 ?_
      refine z_getR dX7_doBody_145 fl_X7_70 rfl hk.2.1 hr.2.2.2.2.2.2.2.2.2.2.1 ?_
      refine z_aload_n dX7_doBody_148 rfl rfl ?_
      refine z_getR dX7_doBody_149 fl_X7_25 rfl hk.1 hr.2.2.2.1 ?_
      refine z_iload dX7_doBody_152 rfl ?_
      obtain ⟨q, hq, hpq⟩ := hI.2.2.2 v hlt
      refine z_iald dX7_doBody_154 hk.2.2.2.2.2.2.2.2.2.2.2.2.1 rfl (by omega) (show _ = nI q by rw [finS, rowF_ne _ _ _ (tr_ne' (by decide) _)]; exact hpq) ?_
      refine z_iald dX7_doBody_155 hk.2.2.2.2.2.1 rfl (by omega) (show _ = σ (tr t + 5) (tN (σ (tr t + 12) v)) by rw [finS, rowF_ne _ _ _ (tr_ne' (by decide) _), hpq, tN_nI (by omega)]) ?_
      refine z_iast dX7_doBody_156 rfl rfl (by omega) ?_
      refine z_iinc dX7_doBody_157 rfl (nI_i _) (by decide) ?_
      show z_V _ _ _ _ _ _ _ _ _ [_, _, _, _, _, _] _ _
      refine z_goto (tgt := 128) dX7_doBody_160 (by decide) ?_
      rw [show z_up (finS σ (tr t) v) 7 v (σ (tr t + 5) (tN (σ (tr t + 12) v))) = finS σ (tr t) (v + 1) from rowF_s _ _ _ _]
      exact ih (v + 1) (by omega) (by omega)
set_option maxRecDepth 100000 in
set_option maxHeartbeats 4000000 in
theorem doBody_loop {d : Nat} {τ : Nat → Nat → Int64} {t n : Nat} (ht : t < 4) (hn : n ≤ 30) : ∀ (m v : Nat) (σ : Nat → Nat → Int32) (w5 : Option Value), bI σ (tr t) n → v + m = n → z_V M_X7_doBody (d + 2) 0 0 0 0 (some (.int (bdF (tr t) m v σ).1)) (124, z_r0, (bdF (tr t) m v σ).2, τ) 3 [some (.ref (tr t)), some (.ref 6), some (.ref 9), some (.ref 11), some (.int (nI v)), w5] [] (124, z_r0, σ, τ) := by
  have hk := tr_k ht
  have hr := tr_r ht
  intro m
  induction m using Nat.strongRecOn with
  | ind m ih =>
    intro v σ w5 hI hv
    refine z_iload dX7_doBody_3 rfl ?_
    refine z_aload_n dX7_doBody_5 rfl rfl ?_
    refine z_getI dX7_doBody_6 fl_X7_51 rfl hk.1 hI.2.1 ?_
    refine z_icmp_ge (tgt := 125) dX7_doBody_9 (by decide) (fun c9 => ?_) (fun c9 => ?_)
    · have e0 : m = 0 := by
        rcases Nat.lt_or_ge v n with q | q
        · exact absurd c9 (nI_ge q (by omega))
        · omega
      subst e0
      refine z_iconst (v := 0) dX7_doBody_125 (by decide) ?_
      refine z_istore dX7_doBody_126 (by decide) ?_
      show z_V _ _ _ _ _ _ _ _ _ [_, _, _, _, _, _] _ _
      have h2 := doBody_fin (d := d) (τ := τ) (w5 := w5) ht hI 7 0 (by omega) (by omega)
      rw [show finS σ (tr t) 0 = σ from rowF_0 _ _ _] at h2
      exact h2
    · have hlt : v < n := by
        rcases Nat.lt_or_ge v n with q | q
        · exact q
        · exact absurd (nI_le q (by omega)) c9
      obtain ⟨m, rfl⟩ : ∃ k, m = k + 1 := ⟨m - 1, by omega⟩
      obtain ⟨q, h36, hq, hcs⟩ := hI.1 v hlt
      have hq2 : tN (σ (tr t + 15) v) = q := by rw [hq, tN_nI (by omega)]
      have hIt := bI_tk hI
      refine z_aload_n dX7_doBody_12 rfl rfl ?_
      refine z_getR dX7_doBody_13 fl_X7_35 rfl hk.1 hr.2.2.2.2.2.2.1 ?_
      refine z_iload dX7_doBody_16 rfl ?_
      refine z_iald dX7_doBody_18 hk.2.2.2.2.2.2.2.2.2.2.2.2.2.2.2 rfl (by omega) hq ?_
      refine z_istore dX7_doBody_19 (by decide) ?_
      show z_V _ _ _ _ _ _ _ _ _ [_, _, _, _, _, _] _ _
      refine z_aload_n dX7_doBody_21 rfl rfl ?_
      refine z_dup dX7_doBody_22 rfl ?_
      refine z_getI dX7_doBody_23 fl_X7_65 rfl rfl rfl ?_
      refine z_iconst (v := 1) dX7_doBody_26 (by decide) ?_
      refine z_iadd dX7_doBody_27 rfl ?_
      refine z_putI dX7_doBody_28 fl_X7_65 rfl rfl (Or.inl rfl) rfl ?_
      refine z_aload_n dX7_doBody_31 rfl rfl ?_
      refine z_getR dX7_doBody_32 fl_X7_32 rfl hk.1 hr.2.2.2.2.2.1 ?_
      refine z_iload dX7_doBody_35 rfl ?_
      refine z_iald dX7_doBody_37 hk.2.2.2.2.2.2.2.2.2.2.2.2.2.2.1 rfl (by omega) (show _ = σ (tr t + 14) v by rw [z_up_ne _ _ _ (tr_ne' (by decide) 14)]) ?_
      refine z_if_ne (tgt := 53) dX7_doBody_38 (by decide) (fun c38 => ?_) (fun c38 => ?_)
      · refine z_aload_n dX7_doBody_53 rfl rfl ?_
        refine z_getR dX7_doBody_54 fl_X7_32 rfl hk.1 hr.2.2.2.2.2.1 ?_
        refine z_iload dX7_doBody_57 rfl ?_
        refine z_iald dX7_doBody_59 hk.2.2.2.2.2.2.2.2.2.2.2.2.2.2.1 rfl (by omega) (show _ = σ (tr t + 14) v by rw [z_up_ne _ _ _ (tr_ne' (by decide) 14)]) ?_
        refine z_iconst (v := nI 2) dX7_doBody_60 (by decide) ?_
        refine z_icmp_ne (tgt := 81) dX7_doBody_61 (by decide) (fun c61 => ?_) (fun c61 => ?_)
        · have okg : okG σ (tr t) q := by
            rcases hcs with ⟨h2, _⟩ | h2 | ⟨_, okg⟩
            · exact absurd h2 c38
            · exact absurd h2 c61
            · exact okg
          obtain ⟨h15, ⟨a, ha36, ha⟩, e, he6, he, hpp⟩ := id okg
          refine z_aload_n dX7_doBody_81 rfl rfl ?_
          refine z_getR dX7_doBody_82 fl_X7_21 rfl hk.1 hr.2.2.1 ?_
          refine z_iload dX7_doBody_85 rfl ?_
          refine z_aload_n dX7_doBody_87 rfl rfl ?_
          refine z_getR dX7_doBody_88 fl_X7_12 rfl hk.1 hr.2.1 ?_
          refine z_getR dX7_doBody_91 fl_X7_70 rfl hk.2.1 hr.2.2.2.2.2.2.2.2.2.2.1 ?_
          refine z_cV1 dX7_doBody_94 ml_X7_78 (sp_holds ht h15 (show _ = nI a by rw [z_up_ne _ _ _ (tr_ne' (by decide) 7)]; exact ha) ha36) hk.2.2.2.2.2.2.1 ⟨by decide, rfl⟩ rfl rfl (Nat.le_of_ble_eq_true rfl) ?_
          rw [z_up_ne σ 3 _ (tr_ne' (t := t) (show 11 < 28 by decide) 5), z_up_ne σ 3 _ (tr_ne' (t := t) (show 11 < 28 by decide) 8)]
          refine z_if_ne (tgt := 119) dX7_doBody_97 (by decide) (fun c97 => ?_) (fun c97 => ?_)
          · have hyes : b2i (σ (tr t + 5) (tN (σ (tr t + 7) q)) ≠ 0) = σ (tr t + 8) q := by
              rw [ha, tN_nI (by omega)]
              rcases Decidable.em (b2i (σ (tr t + 5) a ≠ 0) = σ (tr t + 8) q) with hh | hh
              · exact hh
              · exact absurd (b2i_f hh) c97
            have hbd : bdF (tr t) (m + 1) v σ = bdF (tr t) m (v + 1) (tkS σ) := by simp only [bdF]; rw [if_neg c38, if_neg c61, hq2, if_pos hyes]
            have hIn : bI (tkS σ) (tr t) n := hIt
            refine z_iinc dX7_doBody_119 rfl (nI_i _) (by decide) ?_
            show z_V _ _ _ _ _ _ _ _ _ [_, _, _, _, _, _] _ _
            refine z_goto (tgt := 3) dX7_doBody_122 (by decide) ?_
            rw [hbd]
            exact ih m (by omega) (v + 1) _ (some (.int (nI q))) hIn (by omega)
          · have hno : ¬ b2i (σ (tr t + 5) (tN (σ (tr t + 7) q)) ≠ 0) = σ (tr t + 8) q := by
              rw [ha, tN_nI (by omega)]
              intro hh
              exact absurd c97 (by rw [b2i_t hh]; decide)
            have hbd : bdF (tr t) (m + 1) v σ = (0, rstG (tkS σ) (tr t) q e) := by simp only [bdF]; rw [if_neg c38, if_neg c61, hq2, if_neg hno, he, tN_nI (by omega)]
            refine z_aload_n dX7_doBody_100 rfl rfl ?_
            refine z_getR dX7_doBody_101 fl_X7_21 rfl hk.1 hr.2.2.1 ?_
            refine z_iload dX7_doBody_104 rfl ?_
            refine z_aload_n dX7_doBody_106 rfl rfl ?_
            refine z_getR dX7_doBody_107 fl_X7_12 rfl hk.1 hr.2.1 ?_
            refine z_getR dX7_doBody_110 fl_X7_70 rfl hk.2.1 hr.2.2.2.2.2.2.2.2.2.2.1 ?_
            refine z_aload_n dX7_doBody_113 rfl rfl ?_
            refine z_cV0 dX7_doBody_114 ml_X7_82 (sp_restore (σ := tkS σ) ht h15 (show _ = nI e by rw [tkS_t]; exact he) he6 (by rw [tkS_t]; exact hpp)) hk.2.2.2.2.2.2.1 ⟨by decide, rfl⟩ rfl rfl (Nat.le_of_ble_eq_true rfl) ?_
            refine z_iconst (v := 0) dX7_doBody_117 (by decide) ?_
            exact z_zret dX7_doBody_118 rfl (by first | exact Or.inl rfl | exact Or.inr rfl) (by rw [hbd]) (by rw [hbd])
        · refine z_aload_n dX7_doBody_64 rfl rfl ?_
          refine z_aload_n dX7_doBody_65 rfl rfl ?_
          refine z_getR dX7_doBody_66 fl_X7_12 rfl hk.1 hr.2.1 ?_
          refine z_getR dX7_doBody_69 fl_X7_70 rfl hk.2.1 hr.2.2.2.2.2.2.2.2.2.2.1 ?_
          refine z_iload dX7_doBody_72 rfl ?_
          refine z_iald dX7_doBody_74 hk.2.2.2.2.2.1 rfl (by omega) (show _ = σ (tr t + 5) q by rw [z_up_ne _ _ _ (tr_ne' (by decide) 5)]) ?_
          refine z_cV0 dX7_doBody_75 ml_X7_73 (sp_giveS hIt.2.2.1) rfl ⟨by decide, rfl⟩ rfl rfl (Nat.le_of_ble_eq_true rfl) ?_
          have hbd : bdF (tr t) (m + 1) v σ = bdF (tr t) m (v + 1) (gvS (tkS σ) (σ (tr t + 5) q)) := by simp only [bdF]; rw [if_neg c38, if_pos c61, hq2]
          have hIn : bI (gvS (tkS σ) (σ (tr t + 5) q)) (tr t) n := bI_gv hIt
          refine z_goto (tgt := 119) dX7_doBody_78 (by decide) ?_
          refine z_iinc dX7_doBody_119 rfl (nI_i _) (by decide) ?_
          show z_V _ _ _ _ _ _ _ _ _ [_, _, _, _, _, _] _ _
          refine z_goto (tgt := 3) dX7_doBody_122 (by decide) ?_
          rw [hbd]
          exact ih m (by omega) (v + 1) _ (some (.int (nI q))) hIn (by omega)
      · have ok : okV σ (tr t) q := by
          rcases hcs with ⟨_, ok⟩ | h2 | ⟨h2, _⟩
          · exact ok
          · rw [c38] at h2; exact absurd h2 (by decide)
          · rw [c38] at h2; exact absurd h2 (by decide)
        refine z_aload_n dX7_doBody_41 rfl rfl ?_
        refine z_getR dX7_doBody_42 fl_X7_12 rfl hk.1 hr.2.1 ?_
        refine z_iload dX7_doBody_45 rfl ?_
        refine z_cV0 dX7_doBody_47 ml_X7_61 (sp_workS ht (okV_eq (fun c _ _ => z_up_ne _ _ _ (tr_ne' (by decide) c)) ok)) hk.2.1 ⟨by decide, rfl⟩ rfl rfl (Nat.le_of_ble_eq_true rfl) ?_
        have hbd : bdF (tr t) (m + 1) v σ = bdF (tr t) m (v + 1) (wkS (tkS σ) (tr t) q) := by simp only [bdF]; rw [if_pos c38, hq2]
        have hIn : bI (wkS (tkS σ) (tr t) q) (tr t) n := bI_wk hIt
        refine z_goto (tgt := 119) dX7_doBody_50 (by decide) ?_
        refine z_iinc dX7_doBody_119 rfl (nI_i _) (by decide) ?_
        show z_V _ _ _ _ _ _ _ _ _ [_, _, _, _, _, _] _ _
        refine z_goto (tgt := 3) dX7_doBody_122 (by decide) ?_
        rw [hbd]
        exact ih m (by omega) (v + 1) _ (some (.int (nI q))) hIn (by omega)
set_option maxRecDepth 100000 in
set_option maxHeartbeats 4000000 in
theorem sp_doBody {d : Nat} {σ : Nat → Nat → Int32} {τ : Nat → Nat → Int64} {t n : Nat} (ht : t < 4) (hn : n ≤ 30) (hI : bI σ (tr t) n) : z_MV M_X7_doBody (d + 2) 0 0 [.ref (tr t), .ref 6, .ref 9, .ref 11] (124, z_r0, σ, τ) (some (.int (bdF (tr t) n 0 σ).1)) (124, z_r0, (bdF (tr t) n 0 σ).2, τ) := by
  refine z_MV.of pn_X7_doBody (Nat.le_of_ble_eq_true rfl) (by simp [Value.category]) rfl ?_
  show z_V _ _ _ _ _ _ _ _ _ [_, _, _, _, _, _] _ _
  have hk := tr_k ht
  have hr := tr_r ht
  refine z_iconst (v := 0) dX7_doBody_0 (by decide) ?_
  refine z_istore dX7_doBody_1 (by decide) ?_
  show z_V _ _ _ _ _ _ _ _ _ [_, _, _, _, _, _] _ _
  exact doBody_loop ht hn n 0 σ none hI (by omega)
end
section
/-! PART 26: TraceMaker: came, forgetLast, markParts, markConstant, sortOut, guard, combine -/
theorem z_Vx {M : z_M} {d mc ms rc rs : Nat} {r : Option Value} {X1 : z_X} {n : Nat} {ρ : Nat → Nat → Option Nat} {σ σ' : Nat → Nat → Int32} {τ : Nat → Nat → Int64} {pc : Nat} {lv : List (Option Value)} {st : List Value} (h : σ' = σ) (k : z_V M d mc ms rc rs r X1 pc lv st (n, ρ, σ', τ)) : z_V M d mc ms rc rs r X1 pc lv st (n, ρ, σ, τ) := h ▸ k
/-- the least j below n with P, or n -/
def fnd (P : Nat → Bool) : Nat → Nat
  | 0 => 0
  | n + 1 => if fnd P n < n then fnd P n else if P n then n else n + 1
theorem fnd_le (P : Nat → Bool) (n : Nat) : fnd P n ≤ n := by
  induction n with
  | zero => simp [fnd]
  | succ n ih => simp only [fnd]; split <;> (try split) <;> omega
theorem fnd_spec (P : Nat → Bool) (n : Nat) : (fnd P n < n → P (fnd P n) = true) ∧ ∀ j, j < fnd P n → P j = false := by
  induction n with
  | zero => exact ⟨fun h => by omega, fun j h => by simp [fnd] at h⟩
  | succ n ih =>
    simp only [fnd]
    split
    next h => exact ⟨fun _ => ih.1 h, ih.2⟩
    next h =>
      have he : fnd P n = n := by have := fnd_le P n; omega
      rw [he] at ih
      split
      next hp => exact ⟨fun _ => hp, ih.2⟩
      next hp =>
        refine ⟨fun h => by omega, fun j hj => ?_⟩
        by_cases hjn : j = n
        · subst hjn; simpa using hp
        · exact ih.2 j (by omega)
def mtB (σ : Nat → Nat → Int32) (T : Nat) (k l r : Int32) (j : Nat) : Bool := decide (σ (T + 2) j = k) && decide (σ (T + 3) j = l) && decide (σ (T + 4) j = r)
theorem mtB_iff {σ : Nat → Nat → Int32} {T : Nat} {k l r : Int32} {j : Nat} : mtB σ T k l r j = true ↔ mt σ T j k l r := by
  simp [mtB, mt, and_assoc]
def shI (σ : Nat → Nat → Int32) (T n : Nat) (k l r : Int32) : Nat := fnd (mtB σ T k l r) n
def shS (σ : Nat → Nat → Int32) (T n : Nat) (k l r : Int32) : Nat → Nat → Int32 := if shI σ T n k l r < n then σ else shr σ T n k l r
theorem sp_shareF {d : Nat} {σ : Nat → Nat → Int32} {τ : Nat → Nat → Int64} {t n : Nat} {k l r : Int32} (ht : t < 4) (hn : σ (tr t + 1) 4 = nI n) (h36 : n < 36) : z_MV M_X9_share d 0 0 [.ref (tr t + 1), .int k, .int l, .int r] (124, z_r0, σ, τ) (some (.int (nI (shI σ (tr t) n k l r)))) (124, z_r0, shS σ (tr t) n k l r, τ) := by
  have hs := fnd_spec (mtB σ (tr t) k l r) n
  have hle := fnd_le (mtB σ (tr t) k l r) n
  unfold shS
  split
  next h => exact sp_share_old ht hn (by omega) h (mtB_iff.mp (hs.1 h)) (fun j hj q => absurd (hs.2 j hj) (by rw [mtB_iff.mpr q]; decide))
  next h =>
    have he : shI σ (tr t) n k l r = n := by unfold shI at *; omega
    rw [he]
    exact sp_share_new ht hn h36 (fun j hj q => absurd (hs.2 j (by unfold shI at he; omega)) (by rw [mtB_iff.mpr q]; decide))
def hsB (σ : Nat → Nat → Int32) (T : Nat) (x y : Int32) (j : Nat) : Bool := decide (σ (T + 7) j = x) && decide (σ (T + 8) j = y)
theorem hsB_iff {σ : Nat → Nat → Int32} {T : Nat} {x y : Int32} {j : Nat} : hsB σ T x y j = true ↔ (σ (T + 7) j = x ∧ σ (T + 8) j = y) := by simp [hsB]
theorem sp_hasF {d : Nat} {σ : Nat → Nat → Int32} {τ : Nat → Nat → Int64} {t n : Nat} {x y : Int32} (ht : t < 4) (hn : σ (tr t + 6) 5 = nI n) (h15 : n ≤ 15) : z_MV M_X3_has d 0 0 [.ref (tr t + 6), .int x, .int y] (124, z_r0, σ, τ) (some (.int (b2i (fnd (hsB σ (tr t) x y) n < n)))) (124, z_r0, σ, τ) := by
  have hs := fnd_spec (hsB σ (tr t) x y) n
  have hle := fnd_le (hsB σ (tr t) x y) n
  by_cases h : fnd (hsB σ (tr t) x y) n < n
  · rw [b2i_t h]
    exact sp_has_yes ht hn h15 h (hsB_iff.mp (hs.1 h)) (fun j hj q => absurd (hs.2 j hj) (by rw [hsB_iff.mpr q]; decide))
  · rw [b2i_f h]
    exact sp_has_no ht hn h15 (fun j hj q => absurd (hs.2 j (by omega)) (by rw [hsB_iff.mpr q]; decide))
def cmS (σ : Nat → Nat → Int32) (x y : Int32) : Nat → Nat → Int32 := z_up (z_up (z_up σ 23 (tN (σ 19 3)) x) 24 (tN (σ 19 3)) y) 19 3 (nI (tN (σ 19 3) + 1))
def mkN (σ : Nat → Nat → Int32) (a : Nat) : Nat → Nat → Nat → Int32
  | 0 => σ
  | i + 1 => z_up (mkN σ a i) 25 (tN (σ a i)) 1
theorem mkN_ne (σ : Nat → Nat → Int32) (a i : Nat) {b : Nat} (h : b ≠ 25) : mkN σ a i b = σ b := by
  induction i with
  | zero => rfl
  | succ i ih => simp only [mkN]; rw [z_up_ne _ _ _ h, ih]
set_option maxRecDepth 100000 in
set_option maxHeartbeats 4000000 in
theorem sp_came {d : Nat} {σ : Nat → Nat → Int32} {τ : Nat → Nat → Int64} {c : Nat} {x y : Int32} (hc : σ 19 3 = nI c) (hl : c < 30) : z_MV M_X8_came d 0 0 [.ref 19, .int x, .int y] (124, z_r0, σ, τ) (none) (124, z_r0, cmS σ x y, τ) := by
  refine z_MV.of pn_X8_came (Nat.le_of_ble_eq_true rfl) (by simp [Value.category]) rfl ?_
  show z_V _ _ _ _ _ _ _ _ _ [_, _, _] _ _
  refine z_aload_n dX8_came_0 rfl rfl ?_
  refine z_getR dX8_came_1 fl_X8_18 rfl rfl rfl ?_
  refine z_aload_n dX8_came_4 rfl rfl ?_
  refine z_getI dX8_came_5 fl_X8_84 rfl rfl (show _ = nI c by simp [z_up, hc]) ?_
  refine z_iload_n dX8_came_8 rfl rfl ?_
  refine z_iast dX8_came_9 rfl rfl (by omega) ?_
  refine z_aload_n dX8_came_10 rfl rfl ?_
  refine z_getR dX8_came_11 fl_X8_22 rfl rfl rfl ?_
  refine z_aload_n dX8_came_14 rfl rfl ?_
  refine z_getI dX8_came_15 fl_X8_84 rfl rfl (show _ = nI c by simp [z_up, hc]) ?_
  refine z_iload_n dX8_came_18 rfl rfl ?_
  refine z_iast dX8_came_19 rfl rfl (by omega) ?_
  refine z_aload_n dX8_came_20 rfl rfl ?_
  refine z_dup dX8_came_21 rfl ?_
  refine z_getI dX8_came_22 fl_X8_84 rfl rfl (show _ = nI c by simp [z_up, hc]) ?_
  refine z_iconst (v := 1) dX8_came_25 (by decide) ?_
  refine z_iadd dX8_came_26 (nI_1 _) ?_
  refine z_putI dX8_came_27 fl_X8_84 rfl rfl (Or.inl rfl) rfl ?_
  exact z_vret dX8_came_30 rfl rfl (by simp [cmS, hc, tN_nI (show c < 2 ^ 31 by omega)])
def fg1 (σ : Nat → Nat → Int32) : Nat → Nat → Int32 := z_up (z_up (fillR σ 21 0 6) 20 2 0) 20 3 0
def fg2 (σ : Nat → Nat → Int32) (i : Nat) : Nat → Nat → Int32 := rowF (fg1 σ) 21 (fun l => nI l) i
def fg3 (σ : Nat → Nat → Int32) : Nat → Nat → Int32 := z_up (fg2 σ 6) 19 3 0
def fg4 (σ : Nat → Nat → Int32) (i : Nat) : Nat → Nat → Int32 := rowF (fg3 σ) 25 (fun _ => 0) i
set_option maxRecDepth 100000 in
set_option maxHeartbeats 4000000 in
theorem forget_loop2 {d : Nat} {σ : Nat → Nat → Int32} {τ : Nat → Nat → Int64} : ∀ (m v : Nat), v ≤ 36 → 36 - v < m → z_V M_X8_forgetLast (d + 2) 0 0 0 0 none (124, z_r0, fg4 σ 36, τ) 38 [some (.ref 19), some (.int (nI v))] [] (124, z_r0, fg4 σ v, τ) := by
  intro m
  induction m with
  | zero => intro v _ h; omega
  | succ m ih =>
    intro v hv1 hv2
    refine z_iload_n dX8_forgetLast_38 rfl rfl ?_
    refine z_bipush (v := nI 36) dX8_forgetLast_39 (by decide) ?_
    refine z_icmp_ge (tgt := 57) dX8_forgetLast_41 (by decide) (fun c41 => ?_) (fun c41 => ?_)
    · have e0 : 36 = v := by
        rcases Nat.lt_or_ge v 36 with q | q
        · exact absurd c41 (nI_ge q (by omega))
        · omega
      subst e0
      exact z_vret dX8_forgetLast_57 rfl rfl rfl
    · have hlt : v < 36 := by
        rcases Nat.lt_or_ge v 36 with q | q
        · exact q
        · exact absurd (nI_le q (by omega)) c41
      refine z_aload_n dX8_forgetLast_44 rfl rfl ?_
      refine z_getR dX8_forgetLast_45 fl_X8_25 rfl rfl rfl ?_
      refine z_iload_n dX8_forgetLast_48 rfl rfl ?_
      refine z_iconst (v := 0) dX8_forgetLast_49 (by decide) ?_
      refine z_zast dX8_forgetLast_50 rfl rfl (by omega) (by first | exact Or.inl rfl | exact Or.inr rfl) ?_
      refine z_iinc dX8_forgetLast_51 rfl (nI_i _) (by decide) ?_
      show z_V _ _ _ _ _ _ _ _ _ [_, _] _ _
      refine z_goto (tgt := 38) dX8_forgetLast_54 (by decide) ?_
      rw [show z_up (fg4 σ v) 25 v 0 = fg4 σ (v + 1) from rowF_s _ _ (fun _ => 0) _]
      exact ih (v + 1) (by omega) (by omega)
set_option maxRecDepth 100000 in
set_option maxHeartbeats 4000000 in
theorem forget_loop1 {d : Nat} {σ : Nat → Nat → Int32} {τ : Nat → Nat → Int64} : ∀ (m v : Nat), v ≤ 6 → 6 - v < m → z_V M_X8_forgetLast (d + 2) 0 0 0 0 none (124, z_r0, fg4 σ 36, τ) 9 [some (.ref 19), some (.int (nI v))] [] (124, z_r0, fg2 σ v, τ) := by
  intro m
  induction m with
  | zero => intro v _ h; omega
  | succ m ih =>
    intro v hv1 hv2
    refine z_iload_n dX8_forgetLast_9 rfl rfl ?_
    refine z_bipush (v := nI 6) dX8_forgetLast_10 (by decide) ?_
    refine z_icmp_ge (tgt := 31) dX8_forgetLast_12 (by decide) (fun c12 => ?_) (fun c12 => ?_)
    · have e0 : 6 = v := by
        rcases Nat.lt_or_ge v 6 with q | q
        · exact absurd c12 (nI_ge q (by omega))
        · omega
      subst e0
      refine z_aload_n dX8_forgetLast_31 rfl rfl ?_
      refine z_iconst (v := 0) dX8_forgetLast_32 (by decide) ?_
      refine z_putI dX8_forgetLast_33 fl_X8_84 rfl rfl (Or.inl rfl) rfl ?_
      refine z_iconst (v := 0) dX8_forgetLast_36 (by decide) ?_
      refine z_istore_n dX8_forgetLast_37 rfl (by decide) ?_
      show z_V _ _ _ _ _ _ _ _ _ [_, _] _ _
      have h2 := forget_loop2 (d := d) (σ := σ) (τ := τ) 37 0 (by omega) (by omega)
      rw [show fg4 σ 0 = fg3 σ from rowF_0 _ _ _] at h2
      exact h2
    · have hlt : v < 6 := by
        rcases Nat.lt_or_ge v 6 with q | q
        · exact q
        · exact absurd (nI_le q (by omega)) c12
      refine z_aload_n dX8_forgetLast_15 rfl rfl ?_
      refine z_getR dX8_forgetLast_16 fl_X8_12 rfl rfl rfl ?_
      refine z_getR dX8_forgetLast_19 fl_X8_63 rfl rfl rfl ?_
      refine z_iload_n dX8_forgetLast_22 rfl rfl ?_
      refine z_iload_n dX8_forgetLast_23 rfl rfl ?_
      refine z_iast dX8_forgetLast_24 rfl rfl (by omega) ?_
      refine z_iinc dX8_forgetLast_25 rfl (nI_i _) (by decide) ?_
      show z_V _ _ _ _ _ _ _ _ _ [_, _] _ _
      refine z_goto (tgt := 9) dX8_forgetLast_28 (by decide) ?_
      rw [show z_up (fg2 σ v) 21 v (nI v) = fg2 σ (v + 1) from rowF_s _ _ (fun l => nI l) _]
      exact ih (v + 1) (by omega) (by omega)
set_option maxRecDepth 100000 in
set_option maxHeartbeats 4000000 in
theorem sp_forgetLast {d : Nat} {σ : Nat → Nat → Int32} {τ : Nat → Nat → Int64} : z_MV M_X8_forgetLast (d + 2) 0 0 [.ref 19] (124, z_r0, σ, τ) (none) (124, z_r0, fg4 σ 36, τ) := by
  refine z_MV.of pn_X8_forgetLast (Nat.le_of_ble_eq_true rfl) (by simp [Value.category]) rfl ?_
  show z_V _ _ _ _ _ _ _ _ _ [_, _] _ _
  refine z_aload_n dX8_forgetLast_0 rfl rfl ?_
  refine z_getR dX8_forgetLast_1 fl_X8_12 rfl rfl rfl ?_
  refine z_cV0 dX8_forgetLast_4 ml_X8_81 (sp_freset (Or.inr rfl)) rfl ⟨by decide, rfl⟩ rfl rfl (Nat.le_of_ble_eq_true rfl) ?_
  refine z_iconst (v := 0) dX8_forgetLast_7 (by decide) ?_
  refine z_istore_n dX8_forgetLast_8 rfl (by decide) ?_
  show z_V _ _ _ _ _ _ _ _ _ [_, _] _ _
  have h2 := forget_loop1 (d := d) (σ := σ) (τ := τ) 7 0 (by omega) (by omega)
  rw [show fg2 σ 0 = fg1 σ from rowF_0 _ _ _] at h2
  exact h2
def isOp (σ : Nat → Nat → Int32) (T v : Nat) : Prop := σ (T + 2) v ≠ 0 ∧ σ (T + 2) v ≠ 1
def mpT (σ : Nat → Nat → Int32) (T v : Nat) : Nat → Nat → Int32 := if σ 25 v ≠ 0 ∧ (σ (T + 2) v ≠ 0 ∧ σ (T + 2) v ≠ 1) then z_up (z_up σ 25 (tN (σ (T + 3) v)) 1) 25 (tN (σ (T + 4) v)) 1 else σ
def mpS (T : Nat) : Nat → (Nat → Nat → Int32) → Nat → Nat → Int32
  | 0, σ => σ
  | k + 1, σ => mpS T k (mpT σ T k)
theorem mpT_ne (σ : Nat → Nat → Int32) (T v : Nat) {b : Nat} (h : b ≠ 25) : mpT σ T v b = σ b := by
  unfold mpT
  split
  · rw [z_up_ne _ _ _ h, z_up_ne _ _ _ h]
  · rfl
theorem nI_dec (k : Nat) : nI k + Int32.ofInt (-1) = nI k - 1 := by
  rw [show Int32.ofInt (-1) = -1 by decide, Int32.sub_eq_add_neg]
def okP (σ : Nat → Nat → Int32) (T n : Nat) : Prop := ∀ v, v < n → (σ (T + 2) v ≠ 0 ∧ σ (T + 2) v ≠ 1) → (∃ a, a < 36 ∧ σ (T + 3) v = nI a) ∧ ∃ b, b < 36 ∧ σ (T + 4) v = nI b
set_option maxRecDepth 100000 in
set_option maxHeartbeats 4000000 in
theorem markParts_loop {d : Nat} {τ : Nat → Nat → Int64} {t : Nat} (ht : t < 4) : ∀ (k : Nat), k ≤ 36 → ∀ (σ : Nat → Nat → Int32), okP σ (tr t) k → z_V M_X8_markParts (d + 1) 0 0 0 0 none (124, z_r0, mpS (tr t) k σ, τ) 7 [some (.ref 19), some (.ref (tr t + 1)), some (.int (nI k - 1))] [] (124, z_r0, σ, τ) := by
  have hk := tr_k ht
  have hr := tr_r ht
  intro k
  induction k using Nat.strongRecOn with
  | ind k ih0 =>
    intro h36 σ hok
    have ih : ∀ j, j < k → ∀ (σ : Nat → Nat → Int32), okP σ (tr t) j → z_V M_X8_markParts (d + 1) 0 0 0 0 none (124, z_r0, mpS (tr t) j σ, τ) 7 [some (.ref 19), some (.ref (tr t + 1)), some (.int (nI j - 1))] [] (124, z_r0, σ, τ) := fun j hj => ih0 j hj (by omega)
    refine z_iload_n dX8_markParts_7 rfl rfl ?_
    refine z_if_lt (tgt := 58) dX8_markParts_8 (by decide) (fun c8 => ?_) (fun c8 => ?_)
    · have e0 : 0 = k := by
        rcases Nat.eq_zero_or_pos k with q | q
        · exact q.symm
        · obtain ⟨j, rfl⟩ : ∃ j, k = j + 1 := ⟨k - 1, by omega⟩
          rw [nI_pred] at c8
          exact absurd c8 (nI_pos (by omega))
      subst e0
      exact z_vret dX8_markParts_58 rfl rfl rfl
    · obtain ⟨j, rfl⟩ : ∃ j, k = j + 1 := by
        rcases Nat.eq_zero_or_pos k with q | q
        · subst q; exact absurd (by decide) c8
        · exact ⟨k - 1, by omega⟩
      rw [nI_pred]
      refine z_aload_n dX8_markParts_11 rfl rfl ?_
      refine z_getR dX8_markParts_12 fl_X8_25 rfl rfl rfl ?_
      refine z_iload_n dX8_markParts_15 rfl rfl ?_
      refine z_zald dX8_markParts_16 rfl rfl (by omega) rfl ?_
      refine z_if_eq (tgt := 52) dX8_markParts_17 (by decide) (fun c17 => ?_) (fun c17 => ?_)
      · have e1 : mpT σ (tr t) j = σ := by simp [mpT, c17]
        refine z_iinc dX8_markParts_52 rfl (nI_dec _) (by decide) ?_
        show z_V _ _ _ _ _ _ _ _ _ [_, _, _] _ _
        refine z_goto (tgt := 7) dX8_markParts_55 (by decide) ?_
        refine z_Vx e1 (ih j (by omega) (mpT σ (tr t) j) (fun v hv h => by rw [mpT_ne _ _ _ (tr_ne' (by decide) 2)] at h; rw [mpT_ne _ _ _ (tr_ne' (by decide) 3), mpT_ne _ _ _ (tr_ne' (by decide) 4)]; exact hok v (by omega) h))
      · refine z_aload_n dX8_markParts_20 rfl rfl ?_
        refine z_iload_n dX8_markParts_21 rfl rfl ?_
        refine z_cV1 dX8_markParts_22 ml_X8_156 (sp_isOperation ht (by omega)) hk.2.1 ⟨by decide, rfl⟩ rfl rfl (Nat.le_of_ble_eq_true rfl) ?_
        refine z_if_eq (tgt := 52) dX8_markParts_25 (by decide) (fun c25 => ?_) (fun c25 => ?_)
        · have e1 : mpT σ (tr t) j = σ := by
            rcases Decidable.em (σ (tr t + 2) j ≠ 0 ∧ σ (tr t + 2) j ≠ 1) with q | q
            · rw [b2i_t q] at c25; exact absurd c25 (by decide)
            · unfold mpT; rw [if_neg (fun z => q z.2)]
          refine z_iinc dX8_markParts_52 rfl (nI_dec _) (by decide) ?_
          show z_V _ _ _ _ _ _ _ _ _ [_, _, _] _ _
          refine z_goto (tgt := 7) dX8_markParts_55 (by decide) ?_
          refine z_Vx e1 (ih j (by omega) (mpT σ (tr t) j) (fun v hv h => by rw [mpT_ne _ _ _ (tr_ne' (by decide) 2)] at h; rw [mpT_ne _ _ _ (tr_ne' (by decide) 3), mpT_ne _ _ _ (tr_ne' (by decide) 4)]; exact hok v (by omega) h))
        · have hop : σ (tr t + 2) j ≠ 0 ∧ σ (tr t + 2) j ≠ 1 := by
            rcases Decidable.em (σ (tr t + 2) j ≠ 0 ∧ σ (tr t + 2) j ≠ 1) with q | q
            · exact q
            · rw [b2i_f q] at c25; exact absurd rfl c25
          obtain ⟨⟨a, ha, hla⟩, b, hb, hlb⟩ := hok j (by omega) hop
          have e1 : mpT σ (tr t) j = z_up (z_up σ 25 a 1) 25 b 1 := by unfold mpT; rw [if_pos ⟨c17, hop⟩, hla, hlb, tN_nI (by omega), tN_nI (by omega)]
          refine z_aload_n dX8_markParts_28 rfl rfl ?_
          refine z_getR dX8_markParts_29 fl_X8_25 rfl rfl rfl ?_
          refine z_aload_n dX8_markParts_32 rfl rfl ?_
          refine z_getR dX8_markParts_33 fl_X8_127 rfl hk.2.1 hr.2.2.2.2.2.2.2.2.1 ?_
          refine z_iload_n dX8_markParts_36 rfl rfl ?_
          refine z_iald dX8_markParts_37 hk.2.2.2.1 rfl (by omega) hla ?_
          refine z_iconst (v := 1) dX8_markParts_38 (by decide) ?_
          refine z_zast dX8_markParts_39 rfl rfl (by omega) (by first | exact Or.inl rfl | exact Or.inr rfl) ?_
          refine z_aload_n dX8_markParts_40 rfl rfl ?_
          refine z_getR dX8_markParts_41 fl_X8_25 rfl rfl rfl ?_
          refine z_aload_n dX8_markParts_44 rfl rfl ?_
          refine z_getR dX8_markParts_45 fl_X8_159 rfl hk.2.1 hr.2.2.2.2.2.2.2.2.2.1 ?_
          refine z_iload_n dX8_markParts_48 rfl rfl ?_
          refine z_iald dX8_markParts_49 hk.2.2.2.2.1 rfl (by omega) (show _ = nI b by rw [z_up_ne _ _ _ (tr_ne' (by decide) 4)]; exact hlb) ?_
          refine z_iconst (v := 1) dX8_markParts_50 (by decide) ?_
          refine z_zast dX8_markParts_51 rfl rfl (by omega) (by first | exact Or.inl rfl | exact Or.inr rfl) ?_
          refine z_iinc dX8_markParts_52 rfl (nI_dec _) (by decide) ?_
          show z_V _ _ _ _ _ _ _ _ _ [_, _, _] _ _
          refine z_goto (tgt := 7) dX8_markParts_55 (by decide) ?_
          refine z_Vx e1 (ih j (by omega) (mpT σ (tr t) j) (fun v hv h => by rw [mpT_ne _ _ _ (tr_ne' (by decide) 2)] at h; rw [mpT_ne _ _ _ (tr_ne' (by decide) 3), mpT_ne _ _ _ (tr_ne' (by decide) 4)]; exact hok v (by omega) h))
set_option maxRecDepth 100000 in
set_option maxHeartbeats 4000000 in
theorem sp_markParts {d : Nat} {σ : Nat → Nat → Int32} {τ : Nat → Nat → Int64} {t n : Nat} (ht : t < 4) (hn : σ (tr t + 1) 4 = nI n) (h36 : n ≤ 36) (hok : okP σ (tr t) n) : z_MV M_X8_markParts (d + 1) 0 0 [.ref 19, .ref (tr t + 1)] (124, z_r0, σ, τ) (none) (124, z_r0, mpS (tr t) n σ, τ) := by
  refine z_MV.of pn_X8_markParts (Nat.le_of_ble_eq_true rfl) (by simp [Value.category]) rfl ?_
  show z_V _ _ _ _ _ _ _ _ _ [_, _, _] _ _
  have hk := tr_k ht
  have hr := tr_r ht
  refine z_aload_n dX8_markParts_0 rfl rfl ?_
  refine z_getI dX8_markParts_1 fl_X8_133 rfl hk.2.1 hn ?_
  refine z_iconst (v := 1) dX8_markParts_4 (by decide) ?_
  refine z_isub dX8_markParts_5 rfl ?_
  refine z_istore_n dX8_markParts_6 rfl (by decide) ?_
  show z_V _ _ _ _ _ _ _ _ _ [_, _, _] _ _
  exact markParts_loop ht n h36 σ hok
def mcV (σ : Nat → Nat → Int32) (T v : Nat) : Int32 := if σ (T + 2) v ≠ 0 ∧ σ (T + 2) v ≠ 1 then b2i (σ 26 (tN (σ (T + 3) v)) ≠ 0 ∧ σ 26 (tN (σ (T + 4) v)) ≠ 0) else b2i (σ (T + 2) v = 0 ∨ σ (T + 12) v = nI v)
def mcS (σ : Nat → Nat → Int32) (T : Nat) : Nat → Nat → Nat → Int32
  | 0 => σ
  | v + 1 => z_up (mcS σ T v) 26 v (mcV (mcS σ T v) T v)
theorem mcS_ne (σ : Nat → Nat → Int32) (T i : Nat) {b : Nat} (h : b ≠ 26) : mcS σ T i b = σ b := by
  induction i with
  | zero => rfl
  | succ i ih => simp only [mcS]; rw [z_up_ne _ _ _ h, ih]
theorem mcV_mc {σ : Nat → Nat → Int32} {t : Nat} (v : Nat) : mcV (mcS σ (tr t) v) (tr t) v = if σ (tr t + 2) v ≠ 0 ∧ σ (tr t + 2) v ≠ 1 then b2i (mcS σ (tr t) v 26 (tN (σ (tr t + 3) v)) ≠ 0 ∧ mcS σ (tr t) v 26 (tN (σ (tr t + 4) v)) ≠ 0) else b2i (σ (tr t + 2) v = 0 ∨ σ (tr t + 12) v = nI v) := by
  unfold mcV
  rw [mcS_ne σ (tr t) v (tr_ne' (by decide) 2), mcS_ne σ (tr t) v (tr_ne' (by decide) 3), mcS_ne σ (tr t) v (tr_ne' (by decide) 4), mcS_ne σ (tr t) v (tr_ne' (by decide) 12)]
set_option maxRecDepth 100000 in
set_option maxHeartbeats 4000000 in
theorem markConstant_loop {d : Nat} {σ : Nat → Nat → Int32} {τ : Nat → Nat → Int64} {t n : Nat} (ht : t < 4) (hn : σ (tr t + 1) 4 = nI n) (h36 : n ≤ 36) (hok : okP σ (tr t) n) (h6 : ∀ v, v < n → σ (tr t + 2) v = 1 → v < 6) : ∀ (m v : Nat), v ≤ n → n - v < m → z_V M_X8_markConstant (d + 1) 0 0 0 0 none (124, z_r0, mcS σ (tr t) n, τ) 7 [some (.ref 19), some (.ref (tr t)), some (.ref (tr t + 1)), some (.int (nI v))] [] (124, z_r0, mcS σ (tr t) v, τ) := by
  have hk := tr_k ht
  have hr := tr_r ht
  intro m
  induction m with
  | zero => intro v _ h; omega
  | succ m ih =>
    intro v hv1 hv2
    refine z_iload_n dX8_markConstant_7 rfl rfl ?_
    refine z_aload_n dX8_markConstant_8 rfl rfl ?_
    refine z_getI dX8_markConstant_9 fl_X8_133 rfl hk.2.1 (show _ = nI n by rw [mcS_ne _ _ _ (tr_ne' (by decide) 1)]; exact hn) ?_
    refine z_icmp_ge (tgt := 98) dX8_markConstant_12 (by decide) (fun c12 => ?_) (fun c12 => ?_)
    · have e0 : n = v := by
        rcases Nat.lt_or_ge v n with q | q
        · exact absurd c12 (nI_ge q (by omega))
        · omega
      subst e0
      exact z_vret dX8_markConstant_98 rfl rfl rfl
    · have hlt : v < n := by
        rcases Nat.lt_or_ge v n with q | q
        · exact q
        · exact absurd (nI_le q (by omega)) c12
      refine z_aload_n dX8_markConstant_15 rfl rfl ?_
      refine z_iload_n dX8_markConstant_16 rfl rfl ?_
      refine z_cV1 dX8_markConstant_17 ml_X8_156 (sp_isOperation ht (by omega)) hk.2.1 ⟨by decide, rfl⟩ rfl rfl (Nat.le_of_ble_eq_true rfl) ?_
      rw [mcS_ne σ (tr t) v (tr_ne' (by decide) 2)]
      refine z_if_eq (tgt := 65) dX8_markConstant_20 (by decide) (fun c20 => ?_) (fun c20 => ?_)
      · have hop : ¬ (σ (tr t + 2) v ≠ 0 ∧ σ (tr t + 2) v ≠ 1) := fun q => by rw [b2i_t q] at c20; exact absurd c20 (by decide)
        refine z_aload_n dX8_markConstant_65 rfl rfl ?_
        refine z_getR dX8_markConstant_66 fl_X8_29 rfl rfl rfl ?_
        refine z_iload_n dX8_markConstant_69 rfl rfl ?_
        refine z_aload_n dX8_markConstant_70 rfl rfl ?_
        refine z_iload_n dX8_markConstant_71 rfl rfl ?_
        refine z_cV1 dX8_markConstant_72 ml_X8_123 (sp_isNumber ht (by omega)) hk.2.1 ⟨by decide, rfl⟩ rfl rfl (Nat.le_of_ble_eq_true rfl) ?_
        rw [mcS_ne σ (tr t) v (tr_ne' (by decide) 2)]
        refine z_if_ne (tgt := 86) dX8_markConstant_75 (by decide) (fun c75 => ?_) (fun c75 => ?_)
        · have hnum : σ (tr t + 2) v = 0 := by
            rcases Decidable.em (σ (tr t + 2) v = 0) with q | q
            · exact q
            · rw [b2i_f q] at c75; exact absurd rfl c75
          refine z_iconst (v := 1) dX8_markConstant_86 (by decide) ?_
          refine z_goto (tgt := 91) dX8_markConstant_87 (by decide) ?_
          refine z_zast dX8_markConstant_91 rfl rfl (by omega) (by first | exact Or.inl rfl | exact Or.inr rfl) ?_
          refine z_iinc dX8_markConstant_92 rfl (nI_i _) (by decide) ?_
          show z_V _ _ _ _ _ _ _ _ _ [_, _, _, _] _ _
          refine z_goto (tgt := 7) dX8_markConstant_95 (by decide) ?_
          have e1 : mcS σ (tr t) (v + 1) = z_up (mcS σ (tr t) v) 26 v (mcV (mcS σ (tr t) v) (tr t) v) := rfl
          have e2 := mcV_mc (σ := σ) (t := t) v
          refine z_Vx (σ' := mcS σ (tr t) (v + 1)) ?_ (ih (v + 1) (by omega) (by omega))
          first
            | (rw [e1, e2, if_pos hop, hla, hlb, tN_nI (by omega), tN_nI (by omega)]; simp [b2i, c39, c53]; done)
            | (rw [e1, e2, if_pos hop, hla, hlb, tN_nI (by omega), tN_nI (by omega)]; simp [b2i, c39]; done)
            | (rw [e1, e2, if_neg hop]; simp [b2i, hnum, hst]; done)
            | (rw [e1, e2, if_neg hop]; simp [b2i, hnum]; done)
        · have hnum : ¬ σ (tr t + 2) v = 0 := fun q => by rw [b2i_t q] at c75; exact absurd c75 (by decide)
          have hv6 : v < 6 := h6 v hlt (by
            rcases Decidable.em (σ (tr t + 2) v = 1) with q | q
            · exact q
            · exact absurd ⟨hnum, q⟩ hop)
          refine z_aload_n dX8_markConstant_78 rfl rfl ?_
          refine z_iload_n dX8_markConstant_79 rfl rfl ?_
          refine z_cV1 dX8_markConstant_80 ml_X8_162 (sp_stays ht hv6) hk.1 ⟨by decide, rfl⟩ rfl rfl (Nat.le_of_ble_eq_true rfl) ?_
          rw [mcS_ne σ (tr t) v (tr_ne' (by decide) 12)]
          refine z_if_eq (tgt := 90) dX8_markConstant_83 (by decide) (fun c83 => ?_) (fun c83 => ?_)
          · have hst : ¬ σ (tr t + 12) v = nI v := fun q => by rw [b2i_t q] at c83; exact absurd c83 (by decide)
            refine z_iconst (v := 0) dX8_markConstant_90 (by decide) ?_
            refine z_zast dX8_markConstant_91 rfl rfl (by omega) (by first | exact Or.inl rfl | exact Or.inr rfl) ?_
            refine z_iinc dX8_markConstant_92 rfl (nI_i _) (by decide) ?_
            show z_V _ _ _ _ _ _ _ _ _ [_, _, _, _] _ _
            refine z_goto (tgt := 7) dX8_markConstant_95 (by decide) ?_
            have e1 : mcS σ (tr t) (v + 1) = z_up (mcS σ (tr t) v) 26 v (mcV (mcS σ (tr t) v) (tr t) v) := rfl
            have e2 := mcV_mc (σ := σ) (t := t) v
            refine z_Vx (σ' := mcS σ (tr t) (v + 1)) ?_ (ih (v + 1) (by omega) (by omega))
            first
              | (rw [e1, e2, if_pos hop, hla, hlb, tN_nI (by omega), tN_nI (by omega)]; simp [b2i, c39, c53]; done)
              | (rw [e1, e2, if_pos hop, hla, hlb, tN_nI (by omega), tN_nI (by omega)]; simp [b2i, c39]; done)
              | (rw [e1, e2, if_neg hop]; simp [b2i, hnum, hst]; done)
              | (rw [e1, e2, if_neg hop]; simp [b2i, hnum]; done)
          · have hst : σ (tr t + 12) v = nI v := by
              rcases Decidable.em (σ (tr t + 12) v = nI v) with q | q
              · exact q
              · rw [b2i_f q] at c83; exact absurd rfl c83
            refine z_iconst (v := 1) dX8_markConstant_86 (by decide) ?_
            refine z_goto (tgt := 91) dX8_markConstant_87 (by decide) ?_
            refine z_zast dX8_markConstant_91 rfl rfl (by omega) (by first | exact Or.inl rfl | exact Or.inr rfl) ?_
            refine z_iinc dX8_markConstant_92 rfl (nI_i _) (by decide) ?_
            show z_V _ _ _ _ _ _ _ _ _ [_, _, _, _] _ _
            refine z_goto (tgt := 7) dX8_markConstant_95 (by decide) ?_
            have e1 : mcS σ (tr t) (v + 1) = z_up (mcS σ (tr t) v) 26 v (mcV (mcS σ (tr t) v) (tr t) v) := rfl
            have e2 := mcV_mc (σ := σ) (t := t) v
            refine z_Vx (σ' := mcS σ (tr t) (v + 1)) ?_ (ih (v + 1) (by omega) (by omega))
            first
              | (rw [e1, e2, if_pos hop, hla, hlb, tN_nI (by omega), tN_nI (by omega)]; simp [b2i, c39, c53]; done)
              | (rw [e1, e2, if_pos hop, hla, hlb, tN_nI (by omega), tN_nI (by omega)]; simp [b2i, c39]; done)
              | (rw [e1, e2, if_neg hop]; simp [b2i, hnum, hst]; done)
              | (rw [e1, e2, if_neg hop]; simp [b2i, hnum]; done)
      · have hop : σ (tr t + 2) v ≠ 0 ∧ σ (tr t + 2) v ≠ 1 := by
          rcases Decidable.em (σ (tr t + 2) v ≠ 0 ∧ σ (tr t + 2) v ≠ 1) with q | q
          · exact q
          · rw [b2i_f q] at c20; exact absurd rfl c20
        obtain ⟨⟨a, ha, hla⟩, b, hb, hlb⟩ := hok v hlt hop
        refine z_aload_n dX8_markConstant_23 rfl rfl ?_
        refine z_getR dX8_markConstant_24 fl_X8_29 rfl rfl rfl ?_
        refine z_iload_n dX8_markConstant_27 rfl rfl ?_
        refine z_aload_n dX8_markConstant_28 rfl rfl ?_
        refine z_getR dX8_markConstant_29 fl_X8_29 rfl rfl rfl ?_
        refine z_aload_n dX8_markConstant_32 rfl rfl ?_
        refine z_getR dX8_markConstant_33 fl_X8_127 rfl hk.2.1 hr.2.2.2.2.2.2.2.2.1 ?_
        refine z_iload_n dX8_markConstant_36 rfl rfl ?_
        refine z_iald dX8_markConstant_37 hk.2.2.2.1 rfl (by omega) (show _ = nI a by rw [mcS_ne _ _ _ (tr_ne' (by decide) 3)]; exact hla) ?_
        refine z_zald dX8_markConstant_38 rfl rfl (by omega) rfl ?_
        refine z_if_eq (tgt := 60) dX8_markConstant_39 (by decide) (fun c39 => ?_) (fun c39 => ?_)
        · refine z_iconst (v := 0) dX8_markConstant_60 (by decide) ?_
          refine z_zast dX8_markConstant_61 rfl rfl (by omega) (by first | exact Or.inl rfl | exact Or.inr rfl) ?_
          refine z_goto (tgt := 92) dX8_markConstant_62 (by decide) ?_
          refine z_iinc dX8_markConstant_92 rfl (nI_i _) (by decide) ?_
          show z_V _ _ _ _ _ _ _ _ _ [_, _, _, _] _ _
          refine z_goto (tgt := 7) dX8_markConstant_95 (by decide) ?_
          have e1 : mcS σ (tr t) (v + 1) = z_up (mcS σ (tr t) v) 26 v (mcV (mcS σ (tr t) v) (tr t) v) := rfl
          have e2 := mcV_mc (σ := σ) (t := t) v
          refine z_Vx (σ' := mcS σ (tr t) (v + 1)) ?_ (ih (v + 1) (by omega) (by omega))
          first
            | (rw [e1, e2, if_pos hop, hla, hlb, tN_nI (by omega), tN_nI (by omega)]; simp [b2i, c39, c53]; done)
            | (rw [e1, e2, if_pos hop, hla, hlb, tN_nI (by omega), tN_nI (by omega)]; simp [b2i, c39]; done)
            | (rw [e1, e2, if_neg hop]; simp [b2i, hnum, hst]; done)
            | (rw [e1, e2, if_neg hop]; simp [b2i, hnum]; done)
        · refine z_aload_n dX8_markConstant_42 rfl rfl ?_
          refine z_getR dX8_markConstant_43 fl_X8_29 rfl rfl rfl ?_
          refine z_aload_n dX8_markConstant_46 rfl rfl ?_
          refine z_getR dX8_markConstant_47 fl_X8_159 rfl hk.2.1 hr.2.2.2.2.2.2.2.2.2.1 ?_
          refine z_iload_n dX8_markConstant_50 rfl rfl ?_
          refine z_iald dX8_markConstant_51 hk.2.2.2.2.1 rfl (by omega) (show _ = nI b by rw [mcS_ne _ _ _ (tr_ne' (by decide) 4)]; exact hlb) ?_
          refine z_zald dX8_markConstant_52 rfl rfl (by omega) rfl ?_
          refine z_if_eq (tgt := 60) dX8_markConstant_53 (by decide) (fun c53 => ?_) (fun c53 => ?_)
          · refine z_iconst (v := 0) dX8_markConstant_60 (by decide) ?_
            refine z_zast dX8_markConstant_61 rfl rfl (by omega) (by first | exact Or.inl rfl | exact Or.inr rfl) ?_
            refine z_goto (tgt := 92) dX8_markConstant_62 (by decide) ?_
            refine z_iinc dX8_markConstant_92 rfl (nI_i _) (by decide) ?_
            show z_V _ _ _ _ _ _ _ _ _ [_, _, _, _] _ _
            refine z_goto (tgt := 7) dX8_markConstant_95 (by decide) ?_
            have e1 : mcS σ (tr t) (v + 1) = z_up (mcS σ (tr t) v) 26 v (mcV (mcS σ (tr t) v) (tr t) v) := rfl
            have e2 := mcV_mc (σ := σ) (t := t) v
            refine z_Vx (σ' := mcS σ (tr t) (v + 1)) ?_ (ih (v + 1) (by omega) (by omega))
            first
              | (rw [e1, e2, if_pos hop, hla, hlb, tN_nI (by omega), tN_nI (by omega)]; simp [b2i, c39, c53]; done)
              | (rw [e1, e2, if_pos hop, hla, hlb, tN_nI (by omega), tN_nI (by omega)]; simp [b2i, c39]; done)
              | (rw [e1, e2, if_neg hop]; simp [b2i, hnum, hst]; done)
              | (rw [e1, e2, if_neg hop]; simp [b2i, hnum]; done)
          · refine z_iconst (v := 1) dX8_markConstant_56 (by decide) ?_
            refine z_goto (tgt := 61) dX8_markConstant_57 (by decide) ?_
            refine z_zast dX8_markConstant_61 rfl rfl (by omega) (by first | exact Or.inl rfl | exact Or.inr rfl) ?_
            refine z_goto (tgt := 92) dX8_markConstant_62 (by decide) ?_
            refine z_iinc dX8_markConstant_92 rfl (nI_i _) (by decide) ?_
            show z_V _ _ _ _ _ _ _ _ _ [_, _, _, _] _ _
            refine z_goto (tgt := 7) dX8_markConstant_95 (by decide) ?_
            have e1 : mcS σ (tr t) (v + 1) = z_up (mcS σ (tr t) v) 26 v (mcV (mcS σ (tr t) v) (tr t) v) := rfl
            have e2 := mcV_mc (σ := σ) (t := t) v
            refine z_Vx (σ' := mcS σ (tr t) (v + 1)) ?_ (ih (v + 1) (by omega) (by omega))
            first
              | (rw [e1, e2, if_pos hop, hla, hlb, tN_nI (by omega), tN_nI (by omega)]; simp [b2i, c39, c53]; done)
              | (rw [e1, e2, if_pos hop, hla, hlb, tN_nI (by omega), tN_nI (by omega)]; simp [b2i, c39]; done)
              | (rw [e1, e2, if_neg hop]; simp [b2i, hnum, hst]; done)
              | (rw [e1, e2, if_neg hop]; simp [b2i, hnum]; done)
set_option maxRecDepth 100000 in
set_option maxHeartbeats 4000000 in
theorem sp_markConstant {d : Nat} {σ : Nat → Nat → Int32} {τ : Nat → Nat → Int64} {t n : Nat} (ht : t < 4) (hn : σ (tr t + 1) 4 = nI n) (h36 : n ≤ 36) (hok : okP σ (tr t) n) (h6 : ∀ v, v < n → σ (tr t + 2) v = 1 → v < 6) : z_MV M_X8_markConstant (d + 1) 0 0 [.ref 19, .ref (tr t)] (124, z_r0, σ, τ) (none) (124, z_r0, mcS σ (tr t) n, τ) := by
  refine z_MV.of pn_X8_markConstant (Nat.le_of_ble_eq_true rfl) (by simp [Value.category]) rfl ?_
  show z_V _ _ _ _ _ _ _ _ _ [_, _, _, _] _ _
  have hk := tr_k ht
  have hr := tr_r ht
  refine z_aload_n dX8_markConstant_0 rfl rfl ?_
  refine z_getR dX8_markConstant_1 fl_X8_66 rfl hk.1 hr.2.1 ?_
  refine z_astore_n dX8_markConstant_4 rfl (by decide) ?_
  show z_V _ _ _ _ _ _ _ _ _ [_, _, _, _] _ _
  refine z_iconst (v := 0) dX8_markConstant_5 (by decide) ?_
  refine z_istore_n dX8_markConstant_6 rfl (by decide) ?_
  show z_V _ _ _ _ _ _ _ _ _ [_, _, _, _] _ _
  exact markConstant_loop ht hn h36 hok h6 (n + 1) 0 (Nat.zero_le _) (by omega)
end
section
/-! PART 27: TraceMaker.sortOut, combine, guard -/
def pbS (σ : Nat → Nat → Int32) (T : Nat) (x y : Int32) : Nat → Nat → Int32 :=
  if x = nI 2 then z_up (z_up (z_up (z_up σ (T + 14) (tN (σ T 9)) x) (T + 15) (tN (σ T 9)) y) T 9 (nI (tN (σ T 9) + 1))) T 5 (σ T 5 + 1)
  else z_up (z_up (z_up σ (T + 14) (tN (σ T 9)) x) (T + 15) (tN (σ T 9)) y) T 9 (nI (tN (σ T 9) + 1))
def phS (σ : Nat → Nat → Int32) (T : Nat) (x : Int32) : Nat → Nat → Int32 := z_up (z_up σ (T + 13) (tN (σ T 4)) x) T 4 (nI (tN (σ T 4) + 1))
theorem sp_pbS {d : Nat} {σ : Nat → Nat → Int32} {τ : Nat → Nat → Int64} {t e : Nat} {x y : Int32} (ht : t < 4) (he : σ (tr t) 9 = nI e) (hl : e < 30) : z_MV M_X7_putInBody d 0 0 [.ref (tr t), .int x, .int y] (124, z_r0, σ, τ) none (124, z_r0, pbS σ (tr t) x y, τ) := by
  unfold pbS
  rw [he, tN_nI (by omega)]
  split
  next h => subst h; exact sp_putInBody2 ht he hl
  next h => exact sp_putInBody0 ht he hl h
theorem sp_phS {d : Nat} {σ : Nat → Nat → Int32} {τ : Nat → Nat → Int64} {t e : Nat} {x : Int32} (ht : t < 4) (he : σ (tr t) 4 = nI e) (hl : e < 30) : z_MV M_X7_putInHead d 0 0 [.ref (tr t), .int x] (124, z_r0, σ, τ) none (124, z_r0, phS σ (tr t) x, τ) := by
  unfold phS
  rw [he, tN_nI (by omega)]
  exact sp_putInHead ht he hl
theorem pbS_lo {σ : Nat → Nat → Int32} {t b : Nat} {x y : Int32} (h : b < 28) : pbS σ (tr t) x y b = σ b := by
  unfold pbS
  split
  · rw [z_up_ne _ _ _ (tr_ne0 h), z_up_ne _ _ _ (tr_ne0 h), z_up_ne _ _ _ (tr_ne h 15), z_up_ne _ _ _ (tr_ne h 14)]
  · rw [z_up_ne _ _ _ (tr_ne0 h), z_up_ne _ _ _ (tr_ne h 15), z_up_ne _ _ _ (tr_ne h 14)]
theorem phS_lo {σ : Nat → Nat → Int32} {t b : Nat} {x : Int32} (h : b < 28) : phS σ (tr t) x b = σ b := by
  unfold phS
  rw [z_up_ne _ _ _ (tr_ne0 h), z_up_ne _ _ _ (tr_ne h 13)]
def soT (σ : Nat → Nat → Int32) (T v : Nat) : Nat → Nat → Int32 :=
  if ¬ σ 23 v = 0 then pbS σ T (σ 23 v) (σ 24 v)
  else if σ 25 (tN (σ 24 v)) = 0 then σ
  else if σ 26 (tN (σ 24 v)) = 0 then pbS σ T (σ 23 v) (σ 24 v)
  else phS σ T (σ 24 v)
theorem soT_lo {σ : Nat → Nat → Int32} {t v b : Nat} (h : b < 28) : soT σ (tr t) v b = σ b := by
  unfold soT
  split
  · exact pbS_lo h
  · split
    · rfl
    · split
      · exact pbS_lo h
      · exact phS_lo h
theorem soT_9 {σ : Nat → Nat → Int32} {t v : Nat} (hv : v < 30) (h : ∃ e, e ≤ v ∧ σ (tr t) 9 = nI e) : ∃ e, e ≤ v + 1 ∧ soT σ (tr t) v (tr t) 9 = nI e := by
  obtain ⟨e, h1, h2⟩ := h
  have hp : ∀ x y, pbS σ (tr t) x y (tr t) 9 = nI (e + 1) := fun x y => by
    unfold pbS
    rw [h2, tN_nI (by omega)]
    split <;> simp [z_up]
  unfold soT
  split
  · exact ⟨e + 1, by omega, hp _ _⟩
  · split
    · exact ⟨e, by omega, h2⟩
    · split
      · exact ⟨e + 1, by omega, hp _ _⟩
      · exact ⟨e, by omega, by simp [phS, z_up, h2]⟩
theorem soT_4 {σ : Nat → Nat → Int32} {t v : Nat} (hv : v < 30) (h : ∃ e, e ≤ v ∧ σ (tr t) 4 = nI e) : ∃ e, e ≤ v + 1 ∧ soT σ (tr t) v (tr t) 4 = nI e := by
  obtain ⟨e, h1, h2⟩ := h
  have hp : ∀ x y, pbS σ (tr t) x y (tr t) 4 = nI e := fun x y => by
    unfold pbS
    split <;> simp [z_up, h2]
  unfold soT
  split
  · exact ⟨e, by omega, hp _ _⟩
  · split
    · exact ⟨e, by omega, h2⟩
    · split
      · exact ⟨e, by omega, hp _ _⟩
      · exact ⟨e + 1, by omega, by simp [phS, z_up, h2, tN_nI (show e < 2 ^ 31 by omega)]⟩
def soS (T : Nat) : Nat → Nat → (Nat → Nat → Int32) → Nat → Nat → Int32
  | 0, _, σ => σ
  | m + 1, v, σ => soS T m (v + 1) (soT σ T v)
def sI (σ : Nat → Nat → Int32) (t n v : Nat) : Prop := σ 19 3 = nI n ∧ n ≤ 30 ∧ (∀ c, c < n → ∃ q, q < 36 ∧ σ 24 c = nI q) ∧ (∃ e, e ≤ v ∧ σ (tr t) 9 = nI e) ∧ ∃ e, e ≤ v ∧ σ (tr t) 4 = nI e
theorem sI_s {σ : Nat → Nat → Int32} {t n v : Nat} (hv : v < n) (h : sI σ t n v) : sI (soT σ (tr t) v) t n (v + 1) := by
  obtain ⟨h1, h2, h3, h4, h5⟩ := h
  refine ⟨by rw [soT_lo (by decide)]; exact h1, h2, by rw [soT_lo (by decide)]; exact h3, soT_9 (by omega) h4, soT_4 (by omega) h5⟩
set_option maxRecDepth 100000 in
set_option maxHeartbeats 4000000 in
theorem sortOut_loop {d : Nat} {τ : Nat → Nat → Int64} {t n : Nat} (ht : t < 4) : ∀ (m v : Nat) (σ : Nat → Nat → Int32) (w3 w4 : Option Value), sI σ t n v → v + m = n → z_V M_X8_sortOut (d + 1) 0 0 0 0 none (124, z_r0, soS (tr t) m v σ, τ) 2 [some (.ref 19), some (.ref (tr t)), some (.int (nI v)), w3, w4] [] (124, z_r0, σ, τ) := by
  have hk := tr_k ht
  have hr := tr_r ht
  intro m
  induction m using Nat.strongRecOn with
  | ind m ih =>
    intro v σ w3 w4 hI hv
    have hn30 := hI.2.1
    refine z_iload_n dX8_sortOut_2 rfl rfl ?_
    refine z_aload_n dX8_sortOut_3 rfl rfl ?_
    refine z_getI dX8_sortOut_4 fl_X8_84 rfl rfl hI.1 ?_
    refine z_icmp_ge (tgt := 91) dX8_sortOut_7 (by decide) (fun c7 => ?_) (fun c7 => ?_)
    · have e0 : m = 0 := by
        rcases Nat.lt_or_ge v n with q | q
        · exact absurd c7 (nI_ge q (by omega))
        · omega
      subst e0
      exact z_vret dX8_sortOut_91 rfl rfl rfl
    · have hlt : v < n := by
        rcases Nat.lt_or_ge v n with q | q
        · exact q
        · exact absurd (nI_le q (by omega)) c7
      obtain ⟨m, rfl⟩ : ∃ k, m = k + 1 := ⟨m - 1, by omega⟩
      obtain ⟨q, h36, hq⟩ := hI.2.2.1 v hlt
      obtain ⟨e9, h9, he9⟩ := hI.2.2.2.1
      obtain ⟨e4, h4, he4⟩ := hI.2.2.2.2
      have hq2 : tN (σ 24 v) = q := by rw [hq, tN_nI (by omega)]
      have hIn := sI_s hlt hI
      refine z_aload_n dX8_sortOut_10 rfl rfl ?_
      refine z_getR dX8_sortOut_11 fl_X8_18 rfl rfl rfl ?_
      refine z_iload_n dX8_sortOut_14 rfl rfl ?_
      refine z_iald dX8_sortOut_15 rfl rfl (by omega) rfl ?_
      refine z_istore_n dX8_sortOut_16 rfl (by decide) ?_
      show z_V _ _ _ _ _ _ _ _ _ [_, _, _, _, _] _ _
      refine z_aload_n dX8_sortOut_17 rfl rfl ?_
      refine z_getR dX8_sortOut_18 fl_X8_22 rfl rfl rfl ?_
      refine z_iload_n dX8_sortOut_21 rfl rfl ?_
      refine z_iald dX8_sortOut_22 rfl rfl (by omega) hq ?_
      refine z_istore dX8_sortOut_23 (by decide) ?_
      show z_V _ _ _ _ _ _ _ _ _ [_, _, _, _, _] _ _
      refine z_iload_n dX8_sortOut_25 rfl rfl ?_
      refine z_if_eq (tgt := 39) dX8_sortOut_26 (by decide) (fun c26 => ?_) (fun c26 => ?_)
      · refine z_aload_n dX8_sortOut_39 rfl rfl ?_
        refine z_getR dX8_sortOut_40 fl_X8_25 rfl rfl rfl ?_
        refine z_iload dX8_sortOut_43 rfl ?_
        refine z_zald dX8_sortOut_45 rfl rfl (by omega) rfl ?_
        refine z_if_eq (tgt := 68) dX8_sortOut_46 (by decide) (fun c46 => ?_) (fun c46 => ?_)
        · have e1 : soT σ (tr t) v = σ := by unfold soT; rw [if_neg (fun z => z c26), hq2, if_pos c46]
          refine z_aload_n dX8_sortOut_68 rfl rfl ?_
          refine z_getR dX8_sortOut_69 fl_X8_25 rfl rfl rfl ?_
          refine z_iload dX8_sortOut_72 rfl ?_
          refine z_zald dX8_sortOut_74 rfl rfl (by omega) rfl ?_
          refine z_if_eq (tgt := 85) dX8_sortOut_75 (by decide) (fun _ => ?_) (fun c_ => absurd (c46) c_)
          refine z_iinc dX8_sortOut_85 rfl (nI_i _) (by decide) ?_
          show z_V _ _ _ _ _ _ _ _ _ [_, _, _, _, _] _ _
          refine z_goto (tgt := 2) dX8_sortOut_88 (by decide) ?_
          exact z_Vx e1 (ih m (by omega) (v + 1) _ _ _ hIn (by omega))
        · refine z_aload_n dX8_sortOut_49 rfl rfl ?_
          refine z_getR dX8_sortOut_50 fl_X8_29 rfl rfl rfl ?_
          refine z_iload dX8_sortOut_53 rfl ?_
          refine z_zald dX8_sortOut_55 rfl rfl (by omega) rfl ?_
          refine z_if_eq (tgt := 68) dX8_sortOut_56 (by decide) (fun c56 => ?_) (fun c56 => ?_)
          · have e1 : soT σ (tr t) v = pbS σ (tr t) (σ 23 v) (nI q) := by unfold soT; rw [if_neg (fun z => z c26), hq2, if_neg c46, if_pos c56, hq]
            refine z_aload_n dX8_sortOut_68 rfl rfl ?_
            refine z_getR dX8_sortOut_69 fl_X8_25 rfl rfl rfl ?_
            refine z_iload dX8_sortOut_72 rfl ?_
            refine z_zald dX8_sortOut_74 rfl rfl (by omega) rfl ?_
            refine z_if_eq (tgt := 85) dX8_sortOut_75 (by decide) (fun c_ => absurd c_ (c46)) (fun _ => ?_)
            refine z_aload_n dX8_sortOut_78 rfl rfl ?_
            refine z_iload_n dX8_sortOut_79 rfl rfl ?_
            refine z_iload dX8_sortOut_80 rfl ?_
            refine z_cV0 dX8_sortOut_82 ml_X8_165 (sp_pbS ht he9 (by omega)) hk.1 ⟨by decide, rfl⟩ rfl rfl (Nat.le_of_ble_eq_true rfl) ?_
            refine z_iinc dX8_sortOut_85 rfl (nI_i _) (by decide) ?_
            show z_V _ _ _ _ _ _ _ _ _ [_, _, _, _, _] _ _
            refine z_goto (tgt := 2) dX8_sortOut_88 (by decide) ?_
            exact z_Vx e1 (ih m (by omega) (v + 1) _ _ _ hIn (by omega))
          · have e1 : soT σ (tr t) v = phS σ (tr t) (nI q) := by unfold soT; rw [if_neg (fun z => z c26), hq2, if_neg c46, if_neg c56, hq]
            refine z_aload_n dX8_sortOut_59 rfl rfl ?_
            refine z_iload dX8_sortOut_60 rfl ?_
            refine z_cV0 dX8_sortOut_62 ml_X8_168 (sp_phS ht he4 (by omega)) hk.1 ⟨by decide, rfl⟩ rfl rfl (Nat.le_of_ble_eq_true rfl) ?_
            refine z_goto (tgt := 85) dX8_sortOut_65 (by decide) ?_
            refine z_iinc dX8_sortOut_85 rfl (nI_i _) (by decide) ?_
            show z_V _ _ _ _ _ _ _ _ _ [_, _, _, _, _] _ _
            refine z_goto (tgt := 2) dX8_sortOut_88 (by decide) ?_
            exact z_Vx e1 (ih m (by omega) (v + 1) _ _ _ hIn (by omega))
      · have e1 : soT σ (tr t) v = pbS σ (tr t) (σ 23 v) (nI q) := by unfold soT; rw [if_pos c26, hq]
        refine z_aload_n dX8_sortOut_29 rfl rfl ?_
        refine z_iload_n dX8_sortOut_30 rfl rfl ?_
        refine z_iload dX8_sortOut_31 rfl ?_
        refine z_cV0 dX8_sortOut_33 ml_X8_165 (sp_pbS ht he9 (by omega)) hk.1 ⟨by decide, rfl⟩ rfl rfl (Nat.le_of_ble_eq_true rfl) ?_
        refine z_goto (tgt := 85) dX8_sortOut_36 (by decide) ?_
        refine z_iinc dX8_sortOut_85 rfl (nI_i _) (by decide) ?_
        show z_V _ _ _ _ _ _ _ _ _ [_, _, _, _, _] _ _
        refine z_goto (tgt := 2) dX8_sortOut_88 (by decide) ?_
        exact z_Vx e1 (ih m (by omega) (v + 1) _ _ _ hIn (by omega))
set_option maxRecDepth 100000 in
set_option maxHeartbeats 4000000 in
theorem sp_sortOut {d : Nat} {σ : Nat → Nat → Int32} {τ : Nat → Nat → Int64} {t n : Nat} (ht : t < 4) (hI : sI σ t n 0) : z_MV M_X8_sortOut (d + 1) 0 0 [.ref 19, .ref (tr t)] (124, z_r0, σ, τ) (none) (124, z_r0, soS (tr t) n 0 σ, τ) := by
  refine z_MV.of pn_X8_sortOut (Nat.le_of_ble_eq_true rfl) (by simp [Value.category]) rfl ?_
  show z_V _ _ _ _ _ _ _ _ _ [_, _, _, _, _] _ _
  have hk := tr_k ht
  have hr := tr_r ht
  refine z_iconst (v := 0) dX8_sortOut_0 (by decide) ?_
  refine z_istore_n dX8_sortOut_1 rfl (by decide) ?_
  show z_V _ _ _ _ _ _ _ _ _ [_, _, _, _, _] _ _
  exact sortOut_loop ht n 0 σ none none hI (by omega)
def cmb (σ : Nat → Nat → Int32) (T n op a b : Nat) : Nat × (Nat → Nat → Int32) :=
  if σ (T + 2) a = 0 ∧ σ (T + 2) b = 0 then (shI σ T n 0 (wk op (σ (T + 3) a) (σ (T + 3) b)) 0, shS σ T n 0 (wk op (σ (T + 3) a) (σ (T + 3) b)) 0)
  else (shI σ T n (nI op) (nI a) (nI b), if shI σ T n (nI op) (nI a) (nI b) < n then σ else cmS (shr σ T n (nI op) (nI a) (nI b)) 0 (nI n))
set_option maxRecDepth 100000 in
set_option maxHeartbeats 4000000 in
theorem sp_combineK {d : Nat} {σ : Nat → Nat → Int32} {τ : Nat → Nat → Int64} {t n c op a b : Nat} (ht : t < 4) (hn : σ (tr t + 1) 4 = nI n) (h36 : n < 36) (hc : σ 19 3 = nI c) (hc30 : c < 30) (h3 : 3 ≤ op) (h8 : op ≤ 8) (ha : a < 36) (hb : b < 36) (hz : σ (tr t + 2) a = 0 ∧ σ (tr t + 2) b = 0) : z_MV M_X8_combine (d + 1) 0 0 [.ref 19, .ref (tr t + 1), .int (nI op), .int (nI a), .int (nI b)] (124, z_r0, σ, τ) (some (.int (nI (cmb σ (tr t) n op a b).1))) (124, z_r0, (cmb σ (tr t) n op a b).2, τ) := by
  refine z_MV.of pn_X8_combine (Nat.le_of_ble_eq_true rfl) (by simp [Value.category]) rfl ?_
  show z_V _ _ _ _ _ _ _ _ _ [_, _, _, _, _, _, _] _ _
  have hk := tr_k ht
  have hr := tr_r ht
  refine z_aload_n dX8_combine_0 rfl rfl ?_
  refine z_iload_n dX8_combine_1 rfl rfl ?_
  refine z_cV1 dX8_combine_2 ml_X8_123 (sp_isNumber ht ha) hk.2.1 ⟨by decide, rfl⟩ rfl rfl (Nat.le_of_ble_eq_true rfl) ?_
  refine z_if_eq (tgt := 45) dX8_combine_5 (by decide) (fun c5 => ?_) (fun c5 => ?_)
  · rw [b2i_t hz.1] at c5
    exact absurd c5 (by decide)
  · refine z_aload_n dX8_combine_8 rfl rfl ?_
    refine z_iload dX8_combine_9 rfl ?_
    refine z_cV1 dX8_combine_11 ml_X8_123 (sp_isNumber ht hb) hk.2.1 ⟨by decide, rfl⟩ rfl rfl (Nat.le_of_ble_eq_true rfl) ?_
    refine z_if_eq (tgt := 45) dX8_combine_14 (by decide) (fun c14 => ?_) (fun c14 => ?_)
    · rw [b2i_t hz.2] at c14
      exact absurd c14 (by decide)
    · refine z_iload_n dX8_combine_17 rfl rfl ?_
      refine z_aload_n dX8_combine_18 rfl rfl ?_
      refine z_getR dX8_combine_19 fl_X8_127 rfl hk.2.1 hr.2.2.2.2.2.2.2.2.1 ?_
      refine z_iload_n dX8_combine_22 rfl rfl ?_
      refine z_iald dX8_combine_23 hk.2.2.2.1 rfl (by omega) rfl ?_
      refine z_aload_n dX8_combine_24 rfl rfl ?_
      refine z_getR dX8_combine_25 fl_X8_127 rfl hk.2.1 hr.2.2.2.2.2.2.2.2.1 ?_
      refine z_iload dX8_combine_28 rfl ?_
      refine z_iald dX8_combine_30 hk.2.2.2.1 rfl (by omega) rfl ?_
      refine z_cS1 dX8_combine_31 ml_X8_130 (sp_result h3 h8) rfl rfl (Nat.le_of_ble_eq_true rfl) ?_
      refine z_istore dX8_combine_34 (by decide) ?_
      show z_V _ _ _ _ _ _ _ _ _ [_, _, _, _, _, _, _] _ _
      refine z_aload_n dX8_combine_36 rfl rfl ?_
      refine z_iconst (v := 0) dX8_combine_37 (by decide) ?_
      refine z_iload dX8_combine_38 rfl ?_
      refine z_iconst (v := 0) dX8_combine_40 (by decide) ?_
      refine z_cV1 dX8_combine_41 ml_X8_95 (sp_shareF ht hn h36) hk.2.1 ⟨by decide, rfl⟩ rfl rfl (Nat.le_of_ble_eq_true rfl) ?_
      exact z_iret dX8_combine_44 rfl (by simp [cmb, hz]) (by simp [cmb, hz])
set_option maxRecDepth 100000 in
set_option maxHeartbeats 4000000 in
theorem sp_combineO {d : Nat} {σ : Nat → Nat → Int32} {τ : Nat → Nat → Int64} {t n c op a b : Nat} (ht : t < 4) (hn : σ (tr t + 1) 4 = nI n) (h36 : n < 36) (hc : σ 19 3 = nI c) (hc30 : c < 30) (h3 : 3 ≤ op) (h8 : op ≤ 8) (ha : a < 36) (hb : b < 36) (hz : ¬ (σ (tr t + 2) a = 0 ∧ σ (tr t + 2) b = 0)) (hs : shI σ (tr t) n (nI op) (nI a) (nI b) < n) : z_MV M_X8_combine (d + 1) 0 0 [.ref 19, .ref (tr t + 1), .int (nI op), .int (nI a), .int (nI b)] (124, z_r0, σ, τ) (some (.int (nI (cmb σ (tr t) n op a b).1))) (124, z_r0, (cmb σ (tr t) n op a b).2, τ) := by
  refine z_MV.of pn_X8_combine (Nat.le_of_ble_eq_true rfl) (by simp [Value.category]) rfl ?_
  show z_V _ _ _ _ _ _ _ _ _ [_, _, _, _, _, _, _] _ _
  have hk := tr_k ht
  have hr := tr_r ht
  have hS : shS σ (tr t) n (nI op) (nI a) (nI b) = σ := if_pos hs
  refine z_aload_n dX8_combine_0 rfl rfl ?_
  refine z_iload_n dX8_combine_1 rfl rfl ?_
  refine z_cV1 dX8_combine_2 ml_X8_123 (sp_isNumber ht ha) hk.2.1 ⟨by decide, rfl⟩ rfl rfl (Nat.le_of_ble_eq_true rfl) ?_
  refine z_if_eq (tgt := 45) dX8_combine_5 (by decide) (fun c5 => ?_) (fun c5 => ?_)
  · refine z_aload_n dX8_combine_45 rfl rfl ?_
    refine z_getI dX8_combine_46 fl_X8_133 rfl hk.2.1 hn ?_
    refine z_istore dX8_combine_49 (by decide) ?_
    show z_V _ _ _ _ _ _ _ _ _ [_, _, _, _, _, _, _] _ _
    refine z_aload_n dX8_combine_51 rfl rfl ?_
    refine z_iload_n dX8_combine_52 rfl rfl ?_
    refine z_iload_n dX8_combine_53 rfl rfl ?_
    refine z_iload dX8_combine_54 rfl ?_
    refine z_cV1 dX8_combine_56 ml_X8_95 (sp_shareF ht hn h36) hk.2.1 ⟨by decide, rfl⟩ rfl rfl (Nat.le_of_ble_eq_true rfl) ?_
    rw [hS]
    refine z_istore dX8_combine_59 (by decide) ?_
    show z_V _ _ _ _ _ _ _ _ _ [_, _, _, _, _, _, _] _ _
    refine z_aload_n dX8_combine_61 rfl rfl ?_
    refine z_getI dX8_combine_62 fl_X8_133 rfl hk.2.1 hn ?_
    refine z_iload dX8_combine_65 rfl ?_
    refine z_icmp_le (tgt := 77) dX8_combine_67 (by decide) (fun _ => ?_) (fun c_ => absurd (Int32.le_refl _) c_)
    refine z_iload dX8_combine_77 rfl ?_
    exact z_iret dX8_combine_79 rfl (by simp [cmb, hz, hs]) (by simp [cmb, hz, hs])
  · refine z_aload_n dX8_combine_8 rfl rfl ?_
    refine z_iload dX8_combine_9 rfl ?_
    refine z_cV1 dX8_combine_11 ml_X8_123 (sp_isNumber ht hb) hk.2.1 ⟨by decide, rfl⟩ rfl rfl (Nat.le_of_ble_eq_true rfl) ?_
    refine z_if_eq (tgt := 45) dX8_combine_14 (by decide) (fun c14 => ?_) (fun c14 => ?_)
    · refine z_aload_n dX8_combine_45 rfl rfl ?_
      refine z_getI dX8_combine_46 fl_X8_133 rfl hk.2.1 hn ?_
      refine z_istore dX8_combine_49 (by decide) ?_
      show z_V _ _ _ _ _ _ _ _ _ [_, _, _, _, _, _, _] _ _
      refine z_aload_n dX8_combine_51 rfl rfl ?_
      refine z_iload_n dX8_combine_52 rfl rfl ?_
      refine z_iload_n dX8_combine_53 rfl rfl ?_
      refine z_iload dX8_combine_54 rfl ?_
      refine z_cV1 dX8_combine_56 ml_X8_95 (sp_shareF ht hn h36) hk.2.1 ⟨by decide, rfl⟩ rfl rfl (Nat.le_of_ble_eq_true rfl) ?_
      rw [hS]
      refine z_istore dX8_combine_59 (by decide) ?_
      show z_V _ _ _ _ _ _ _ _ _ [_, _, _, _, _, _, _] _ _
      refine z_aload_n dX8_combine_61 rfl rfl ?_
      refine z_getI dX8_combine_62 fl_X8_133 rfl hk.2.1 hn ?_
      refine z_iload dX8_combine_65 rfl ?_
      refine z_icmp_le (tgt := 77) dX8_combine_67 (by decide) (fun _ => ?_) (fun c_ => absurd (Int32.le_refl _) c_)
      refine z_iload dX8_combine_77 rfl ?_
      exact z_iret dX8_combine_79 rfl (by simp [cmb, hz, hs]) (by simp [cmb, hz, hs])
    · exact absurd ⟨by
        rcases Decidable.em (σ (tr t + 2) a = 0) with q | q
        · exact q
        · rw [b2i_f q] at c5; exact absurd rfl c5, by
        rcases Decidable.em (σ (tr t + 2) b = 0) with q | q
        · exact q
        · rw [b2i_f q] at c14; exact absurd rfl c14⟩ hz
set_option maxRecDepth 100000 in
set_option maxHeartbeats 4000000 in
theorem sp_combineN {d : Nat} {σ : Nat → Nat → Int32} {τ : Nat → Nat → Int64} {t n c op a b : Nat} (ht : t < 4) (hn : σ (tr t + 1) 4 = nI n) (h36 : n < 36) (hc : σ 19 3 = nI c) (hc30 : c < 30) (h3 : 3 ≤ op) (h8 : op ≤ 8) (ha : a < 36) (hb : b < 36) (hz : ¬ (σ (tr t + 2) a = 0 ∧ σ (tr t + 2) b = 0)) (hs : ¬ shI σ (tr t) n (nI op) (nI a) (nI b) < n) : z_MV M_X8_combine (d + 1) 0 0 [.ref 19, .ref (tr t + 1), .int (nI op), .int (nI a), .int (nI b)] (124, z_r0, σ, τ) (some (.int (nI (cmb σ (tr t) n op a b).1))) (124, z_r0, (cmb σ (tr t) n op a b).2, τ) := by
  refine z_MV.of pn_X8_combine (Nat.le_of_ble_eq_true rfl) (by simp [Value.category]) rfl ?_
  show z_V _ _ _ _ _ _ _ _ _ [_, _, _, _, _, _, _] _ _
  have hk := tr_k ht
  have hr := tr_r ht
  have hS : shS σ (tr t) n (nI op) (nI a) (nI b) = shr σ (tr t) n (nI op) (nI a) (nI b) := if_neg hs
  have hI : shI σ (tr t) n (nI op) (nI a) (nI b) = n := by have := fnd_le (mtB σ (tr t) (nI op) (nI a) (nI b)) n; unfold shI at *; omega
  refine z_aload_n dX8_combine_0 rfl rfl ?_
  refine z_iload_n dX8_combine_1 rfl rfl ?_
  refine z_cV1 dX8_combine_2 ml_X8_123 (sp_isNumber ht ha) hk.2.1 ⟨by decide, rfl⟩ rfl rfl (Nat.le_of_ble_eq_true rfl) ?_
  refine z_if_eq (tgt := 45) dX8_combine_5 (by decide) (fun c5 => ?_) (fun c5 => ?_)
  · refine z_aload_n dX8_combine_45 rfl rfl ?_
    refine z_getI dX8_combine_46 fl_X8_133 rfl hk.2.1 hn ?_
    refine z_istore dX8_combine_49 (by decide) ?_
    show z_V _ _ _ _ _ _ _ _ _ [_, _, _, _, _, _, _] _ _
    refine z_aload_n dX8_combine_51 rfl rfl ?_
    refine z_iload_n dX8_combine_52 rfl rfl ?_
    refine z_iload_n dX8_combine_53 rfl rfl ?_
    refine z_iload dX8_combine_54 rfl ?_
    refine z_cV1 dX8_combine_56 ml_X8_95 (sp_shareF ht hn h36) hk.2.1 ⟨by decide, rfl⟩ rfl rfl (Nat.le_of_ble_eq_true rfl) ?_
    rw [hS, hI]
    refine z_istore dX8_combine_59 (by decide) ?_
    show z_V _ _ _ _ _ _ _ _ _ [_, _, _, _, _, _, _] _ _
    refine z_aload_n dX8_combine_61 rfl rfl ?_
    refine z_getI dX8_combine_62 fl_X8_133 rfl hk.2.1 (show _ = nI (n + 1) by simp [shr, z_up]) ?_
    refine z_iload dX8_combine_65 rfl ?_
    refine z_icmp_le (tgt := 77) dX8_combine_67 (by decide) (fun c_ => absurd c_ (nI_ge (by omega) (by omega))) (fun _ => ?_)
    refine z_aload_n dX8_combine_70 rfl rfl ?_
    refine z_iconst (v := 0) dX8_combine_71 (by decide) ?_
    refine z_iload dX8_combine_72 rfl ?_
    refine z_cV0 dX8_combine_74 ml_X8_112 (sp_came (show _ = nI c by simp [shr, z_up, hc, tr_ne (t := t) (show 19 < 28 by decide), tr_ne' (t := t) (show 19 < 28 by decide)]) hc30) rfl ⟨by decide, rfl⟩ rfl rfl (Nat.le_of_ble_eq_true rfl) ?_
    refine z_iload dX8_combine_77 rfl ?_
    exact z_iret dX8_combine_79 rfl (by simp [cmb, hz, hs, hI]) (by simp [cmb, hz, hs])
  · refine z_aload_n dX8_combine_8 rfl rfl ?_
    refine z_iload dX8_combine_9 rfl ?_
    refine z_cV1 dX8_combine_11 ml_X8_123 (sp_isNumber ht hb) hk.2.1 ⟨by decide, rfl⟩ rfl rfl (Nat.le_of_ble_eq_true rfl) ?_
    refine z_if_eq (tgt := 45) dX8_combine_14 (by decide) (fun c14 => ?_) (fun c14 => ?_)
    · refine z_aload_n dX8_combine_45 rfl rfl ?_
      refine z_getI dX8_combine_46 fl_X8_133 rfl hk.2.1 hn ?_
      refine z_istore dX8_combine_49 (by decide) ?_
      show z_V _ _ _ _ _ _ _ _ _ [_, _, _, _, _, _, _] _ _
      refine z_aload_n dX8_combine_51 rfl rfl ?_
      refine z_iload_n dX8_combine_52 rfl rfl ?_
      refine z_iload_n dX8_combine_53 rfl rfl ?_
      refine z_iload dX8_combine_54 rfl ?_
      refine z_cV1 dX8_combine_56 ml_X8_95 (sp_shareF ht hn h36) hk.2.1 ⟨by decide, rfl⟩ rfl rfl (Nat.le_of_ble_eq_true rfl) ?_
      rw [hS, hI]
      refine z_istore dX8_combine_59 (by decide) ?_
      show z_V _ _ _ _ _ _ _ _ _ [_, _, _, _, _, _, _] _ _
      refine z_aload_n dX8_combine_61 rfl rfl ?_
      refine z_getI dX8_combine_62 fl_X8_133 rfl hk.2.1 (show _ = nI (n + 1) by simp [shr, z_up]) ?_
      refine z_iload dX8_combine_65 rfl ?_
      refine z_icmp_le (tgt := 77) dX8_combine_67 (by decide) (fun c_ => absurd c_ (nI_ge (by omega) (by omega))) (fun _ => ?_)
      refine z_aload_n dX8_combine_70 rfl rfl ?_
      refine z_iconst (v := 0) dX8_combine_71 (by decide) ?_
      refine z_iload dX8_combine_72 rfl ?_
      refine z_cV0 dX8_combine_74 ml_X8_112 (sp_came (show _ = nI c by simp [shr, z_up, hc, tr_ne (t := t) (show 19 < 28 by decide), tr_ne' (t := t) (show 19 < 28 by decide)]) hc30) rfl ⟨by decide, rfl⟩ rfl rfl (Nat.le_of_ble_eq_true rfl) ?_
      refine z_iload dX8_combine_77 rfl ?_
      exact z_iret dX8_combine_79 rfl (by simp [cmb, hz, hs, hI]) (by simp [cmb, hz, hs])
    · exact absurd ⟨by
        rcases Decidable.em (σ (tr t + 2) a = 0) with q | q
        · exact q
        · rw [b2i_f q] at c5; exact absurd rfl c5, by
        rcases Decidable.em (σ (tr t + 2) b = 0) with q | q
        · exact q
        · rw [b2i_f q] at c14; exact absurd rfl c14⟩ hz
theorem sp_combine {d : Nat} {σ : Nat → Nat → Int32} {τ : Nat → Nat → Int64} {t n c op a b : Nat} (ht : t < 4) (hn : σ (tr t + 1) 4 = nI n) (h36 : n < 36) (hc : σ 19 3 = nI c) (hc30 : c < 30) (h3 : 3 ≤ op) (h8 : op ≤ 8) (ha : a < 36) (hb : b < 36) : z_MV M_X8_combine (d + 1) 0 0 [.ref 19, .ref (tr t + 1), .int (nI op), .int (nI a), .int (nI b)] (124, z_r0, σ, τ) (some (.int (nI (cmb σ (tr t) n op a b).1))) (124, z_r0, (cmb σ (tr t) n op a b).2, τ) := by
  by_cases hz : σ (tr t + 2) a = 0 ∧ σ (tr t + 2) b = 0
  · exact sp_combineK ht hn h36 hc hc30 h3 h8 ha hb hz
  · by_cases hs : shI σ (tr t) n (nI op) (nI a) (nI b) < n
    · exact sp_combineO ht hn h36 hc hc30 h3 h8 ha hb hz hs
    · exact sp_combineN ht hn h36 hc hc30 h3 h8 ha hb hz hs
end
section
/-! PART 28: TraceMaker.guard, follow -/
theorem mkN_s (σ : Nat → Nat → Int32) (a i : Nat) : mkN σ a (i + 1) = z_up (mkN σ a i) 25 (tN (σ a i)) 1 := rfl
theorem putG_lo {σ : Nat → Nat → Int32} {t g e b : Nat} {x y w : Int32} (h : b < 28) : putG σ (tr t) g x y w e b = σ b := by
  unfold putG
  rw [z_up_ne _ _ _ (tr_ne h 6)]
  unfold gp3 gp2 z_row
  rw [if_neg (tr_ne h 11), if_neg (tr_ne h 11)]
  unfold gp1
  rw [z_up_ne _ _ _ (tr_ne h 10), z_up_ne _ _ _ (tr_ne h 9), z_up_ne _ _ _ (tr_ne h 8), z_up_ne _ _ _ (tr_ne h 7)]
theorem cmS_ne {σ : Nat → Nat → Int32} {x y : Int32} {b : Nat} (h : b ≠ 19 ∧ b ≠ 23 ∧ b ≠ 24) : cmS σ x y b = σ b := by
  unfold cmS
  rw [z_up_ne _ _ _ h.1, z_up_ne _ _ _ h.2.2, z_up_ne _ _ _ h.2.1]
def gd3 (σ : Nat → Nat → Int32) (T g v : Nat) (y w : Int32) (e : Nat) : Nat → Nat → Int32 := z_up (cmS (putG σ T g (nI v) y w e) 1 (nI g)) 25 v 1
def gdN (σ : Nat → Nat → Int32) (T g v : Nat) (y w : Int32) (e : Nat) : Nat → Nat → Int32 := mkN (mkN (gd3 σ T g v y w e) 21 6) 22 e
def gdS (σ : Nat → Nat → Int32) (T v : Nat) (y w : Int32) : Nat → Nat → Int32 :=
  if σ (T + 2) v = 0 then σ else if fnd (hsB σ T (nI v) y) (tN (σ (T + 6) 5)) < tN (σ (T + 6) 5) then σ
  else gdN σ T (tN (σ (T + 6) 5)) v y w (tN (σ 20 2))
theorem gd3_lo {σ : Nat → Nat → Int32} {t g v e b : Nat} {y w : Int32} (h : b = 20 ∨ b = 21 ∨ b = 22) : gd3 σ (tr t) g v y w e b = σ b := by
  unfold gd3
  rw [z_up_ne _ _ _ (by omega), cmS_ne (by omega), putG_lo (by omega)]
set_option maxRecDepth 100000 in
set_option maxHeartbeats 4000000 in
theorem guard_loop2 {d : Nat} {σ : Nat → Nat → Int32} {τ : Nat → Nat → Int64} {t g c v e : Nat} {y w : Int32} (ht : t < 4) (hv : v < 36) (hy : y = 0 ∨ y = 1) (hg : σ (tr t + 6) 5 = nI g) (hg15 : g < 15) (hc : σ 19 3 = nI c) (hc30 : c < 30) (he : σ 20 2 = nI e) (he6 : e ≤ 6) (hl : ∀ l, l < 6 → ∃ q, q < 36 ∧ σ 21 l = nI q) (hs : ∀ s, s < e → ∃ q, q < 36 ∧ σ 22 s = nI q) : ∀ (m i : Nat), i ≤ e → e - i < m → z_V M_X8_guard (d + 1) 0 0 0 0 none (124, z_r0, gdN σ (tr t) g v y w e, τ) 86 [some (.ref 19), some (.ref (tr t)), some (.int (nI v)), some (.int y), some (.int w), some (.int (nI i))] [] (124, z_r0, mkN (mkN (gd3 σ (tr t) g v y w e) 21 6) 22 i, τ) := by
  have hk := tr_k ht
  have hr := tr_r ht
  intro m
  induction m with
  | zero => intro i _ h; omega
  | succ m ih =>
    intro i hv1 hv2
    refine z_iload dX8_guard_86 rfl ?_
    refine z_aload_n dX8_guard_88 rfl rfl ?_
    refine z_getR dX8_guard_89 fl_X8_12 rfl rfl rfl ?_
    refine z_getI dX8_guard_92 fl_X8_150 rfl rfl (show _ = nI e by rw [mkN_ne _ _ _ (by decide), mkN_ne _ _ _ (by decide), gd3_lo (by omega)]; exact he) ?_
    refine z_icmp_ge (tgt := 120) dX8_guard_95 (by decide) (fun c95 => ?_) (fun c95 => ?_)
    · have e0 : e = i := by
        rcases Nat.lt_or_ge i e with q | q
        · exact absurd c95 (nI_ge q (by omega))
        · omega
      subst e0
      exact z_vret dX8_guard_120 rfl rfl rfl
    · have hlt : i < e := by
        rcases Nat.lt_or_ge i e with q | q
        · exact q
        · exact absurd (nI_le q (by omega)) c95
      refine z_aload_n dX8_guard_98 rfl rfl ?_
      refine z_getR dX8_guard_99 fl_X8_25 rfl rfl rfl ?_
      refine z_aload_n dX8_guard_102 rfl rfl ?_
      refine z_getR dX8_guard_103 fl_X8_12 rfl rfl rfl ?_
      refine z_getR dX8_guard_106 fl_X8_153 rfl rfl rfl ?_
      refine z_iload dX8_guard_109 rfl ?_
      obtain ⟨q, hq, hpq⟩ := hs i hlt
      refine z_iald dX8_guard_111 rfl rfl (by omega) (show _ = nI q by rw [mkN_ne _ _ _ (by decide), mkN_ne _ _ _ (by decide), gd3_lo (by omega)]; exact hpq) ?_
      refine z_iconst (v := 1) dX8_guard_112 (by decide) ?_
      refine z_zast dX8_guard_113 rfl rfl (by omega) (by first | exact Or.inl rfl | exact Or.inr rfl) ?_
      refine z_iinc dX8_guard_114 rfl (nI_i _) (by decide) ?_
      show z_V _ _ _ _ _ _ _ _ _ [_, _, _, _, _, _] _ _
      refine z_goto (tgt := 86) dX8_guard_117 (by decide) ?_
      refine z_Vx (σ' := mkN (mkN (gd3 σ (tr t) g v y w e) 21 6) 22 (i + 1)) ?_ (ih (i + 1) (by omega) (by omega))
      rw [mkN_s, show mkN (gd3 σ (tr t) g v y w e) 21 6 22 i = nI q by rw [mkN_ne _ _ _ (by decide), gd3_lo (by omega)]; exact hpq, tN_nI (by omega)]
set_option maxRecDepth 100000 in
set_option maxHeartbeats 4000000 in
theorem guard_loop1 {d : Nat} {σ : Nat → Nat → Int32} {τ : Nat → Nat → Int64} {t g c v e : Nat} {y w : Int32} (ht : t < 4) (hv : v < 36) (hy : y = 0 ∨ y = 1) (hg : σ (tr t + 6) 5 = nI g) (hg15 : g < 15) (hc : σ 19 3 = nI c) (hc30 : c < 30) (he : σ 20 2 = nI e) (he6 : e ≤ 6) (hl : ∀ l, l < 6 → ∃ q, q < 36 ∧ σ 21 l = nI q) (hs : ∀ s, s < e → ∃ q, q < 36 ∧ σ 22 s = nI q) : ∀ (m i : Nat), i ≤ 6 → 6 - i < m → z_V M_X8_guard (d + 1) 0 0 0 0 none (124, z_r0, gdN σ (tr t) g v y w e, τ) 54 [some (.ref 19), some (.ref (tr t)), some (.int (nI v)), some (.int y), some (.int w), some (.int (nI i))] [] (124, z_r0, mkN (gd3 σ (tr t) g v y w e) 21 i, τ) := by
  have hk := tr_k ht
  have hr := tr_r ht
  intro m
  induction m with
  | zero => intro i _ h; omega
  | succ m ih =>
    intro i hv1 hv2
    refine z_iload dX8_guard_54 rfl ?_
    refine z_bipush (v := nI 6) dX8_guard_56 (by decide) ?_
    refine z_icmp_ge (tgt := 83) dX8_guard_58 (by decide) (fun c58 => ?_) (fun c58 => ?_)
    · have e0 : 6 = i := by
        rcases Nat.lt_or_ge i 6 with q | q
        · exact absurd c58 (nI_ge q (by omega))
        · omega
      subst e0
      refine z_iconst (v := 0) dX8_guard_83 (by decide) ?_
      refine z_istore dX8_guard_84 (by decide) ?_
      show z_V _ _ _ _ _ _ _ _ _ [_, _, _, _, _, _] _ _
      exact guard_loop2 ht hv hy hg hg15 hc hc30 he he6 hl hs (e + 1) 0 (Nat.zero_le _) (by omega)
    · have hlt : i < 6 := by
        rcases Nat.lt_or_ge i 6 with q | q
        · exact q
        · exact absurd (nI_le q (by omega)) c58
      refine z_aload_n dX8_guard_61 rfl rfl ?_
      refine z_getR dX8_guard_62 fl_X8_25 rfl rfl rfl ?_
      refine z_aload_n dX8_guard_65 rfl rfl ?_
      refine z_getR dX8_guard_66 fl_X8_12 rfl rfl rfl ?_
      refine z_getR dX8_guard_69 fl_X8_63 rfl rfl rfl ?_
      refine z_iload dX8_guard_72 rfl ?_
      obtain ⟨q, hq, hpq⟩ := hl i hlt
      refine z_iald dX8_guard_74 rfl rfl (by omega) (show _ = nI q by rw [mkN_ne _ _ _ (by decide), gd3_lo (by omega)]; exact hpq) ?_
      refine z_iconst (v := 1) dX8_guard_75 (by decide) ?_
      refine z_zast dX8_guard_76 rfl rfl (by omega) (by first | exact Or.inl rfl | exact Or.inr rfl) ?_
      refine z_iinc dX8_guard_77 rfl (nI_i _) (by decide) ?_
      show z_V _ _ _ _ _ _ _ _ _ [_, _, _, _, _, _] _ _
      refine z_goto (tgt := 54) dX8_guard_80 (by decide) ?_
      refine z_Vx (σ' := mkN (gd3 σ (tr t) g v y w e) 21 (i + 1)) ?_ (ih (i + 1) (by omega) (by omega))
      rw [mkN_s, show gd3 σ (tr t) g v y w e 21 i = nI q by rw [gd3_lo (by omega)]; exact hpq, tN_nI (by omega)]
set_option maxRecDepth 100000 in
set_option maxHeartbeats 4000000 in
theorem sp_guard {d : Nat} {σ : Nat → Nat → Int32} {τ : Nat → Nat → Int64} {t g c v e : Nat} {y w : Int32} (ht : t < 4) (hv : v < 36) (hy : y = 0 ∨ y = 1) (hg : σ (tr t + 6) 5 = nI g) (hg15 : g < 15) (hc : σ 19 3 = nI c) (hc30 : c < 30) (he : σ 20 2 = nI e) (he6 : e ≤ 6) (hl : ∀ l, l < 6 → ∃ q, q < 36 ∧ σ 21 l = nI q) (hs : ∀ s, s < e → ∃ q, q < 36 ∧ σ 22 s = nI q) : z_MV M_X8_guard (d + 1) 0 0 [.ref 19, .ref (tr t), .int (nI v), .int y, .int w] (124, z_r0, σ, τ) (none) (124, z_r0, gdS σ (tr t) v y w, τ) := by
  refine z_MV.of pn_X8_guard (Nat.le_of_ble_eq_true rfl) (by simp [Value.category]) rfl ?_
  show z_V _ _ _ _ _ _ _ _ _ [_, _, _, _, _, _] _ _
  have hk := tr_k ht
  have hr := tr_r ht
  refine z_aload_n dX8_guard_0 rfl rfl ?_
  refine z_getR dX8_guard_1 fl_X8_66 rfl hk.1 hr.2.1 ?_
  refine z_iload_n dX8_guard_4 rfl rfl ?_
  refine z_cV1 dX8_guard_5 ml_X8_123 (sp_isNumber ht hv) hk.2.1 ⟨by decide, rfl⟩ rfl rfl (Nat.le_of_ble_eq_true rfl) ?_
  refine z_if_ne (tgt := 23) dX8_guard_8 (by decide) (fun c8 => ?_) (fun c8 => ?_)
  · have hz : σ (tr t + 2) v = 0 := by
      rcases Decidable.em (σ (tr t + 2) v = 0) with q | q
      · exact q
      · rw [b2i_f q] at c8; exact absurd rfl c8
    have e1 : gdS σ (tr t) v y w = σ := by unfold gdS; rw [if_pos hz]
    exact z_vret dX8_guard_23 rfl rfl (by rw [e1])
  · have hz : ¬ σ (tr t + 2) v = 0 := fun q => by rw [b2i_t q] at c8; exact absurd c8 (by decide)
    refine z_aload_n dX8_guard_11 rfl rfl ?_
    refine z_getR dX8_guard_12 fl_X8_136 rfl hk.1 hr.2.2.1 ?_
    refine z_iload_n dX8_guard_15 rfl rfl ?_
    refine z_iload_n dX8_guard_16 rfl rfl ?_
    refine z_cV1 dX8_guard_17 ml_X8_140 (sp_hasF ht hg (by omega)) hk.2.2.2.2.2.2.1 ⟨by decide, rfl⟩ rfl rfl (Nat.le_of_ble_eq_true rfl) ?_
    refine z_if_eq (tgt := 24) dX8_guard_20 (by decide) (fun c20 => ?_) (fun c20 => ?_)
    · have hf : ¬ fnd (hsB σ (tr t) (nI v) y) g < g := fun q => by rw [b2i_t q] at c20; exact absurd c20 (by decide)
      have e1 : gdS σ (tr t) v y w = gdN σ (tr t) g v y w e := by unfold gdS; rw [if_neg hz, hg, tN_nI (by omega), if_neg hf, he, tN_nI (by omega)]
      refine z_aload_n dX8_guard_24 rfl rfl ?_
      refine z_iconst (v := 1) dX8_guard_25 (by decide) ?_
      refine z_aload_n dX8_guard_26 rfl rfl ?_
      refine z_getR dX8_guard_27 fl_X8_136 rfl hk.1 hr.2.2.1 ?_
      refine z_iload_n dX8_guard_30 rfl rfl ?_
      refine z_iload_n dX8_guard_31 rfl rfl ?_
      refine z_iload dX8_guard_32 rfl ?_
      refine z_aload_n dX8_guard_34 rfl rfl ?_
      refine z_getR dX8_guard_35 fl_X8_12 rfl rfl rfl ?_
      refine z_cV1 dX8_guard_38 ml_X8_146 (sp_gput ht hg hg15 hy he he6) hk.2.2.2.2.2.2.1 ⟨by decide, rfl⟩ rfl rfl (Nat.le_of_ble_eq_true rfl) ?_
      refine z_cV0 dX8_guard_41 ml_X8_112 (sp_came (show _ = nI c by rw [putG_lo (by decide)]; exact hc) hc30) rfl ⟨by decide, rfl⟩ rfl rfl (Nat.le_of_ble_eq_true rfl) ?_
      refine z_aload_n dX8_guard_44 rfl rfl ?_
      refine z_getR dX8_guard_45 fl_X8_25 rfl rfl rfl ?_
      refine z_iload_n dX8_guard_48 rfl rfl ?_
      refine z_iconst (v := 1) dX8_guard_49 (by decide) ?_
      refine z_zast dX8_guard_50 rfl rfl (by omega) (by first | exact Or.inl rfl | exact Or.inr rfl) ?_
      refine z_iconst (v := 0) dX8_guard_51 (by decide) ?_
      refine z_istore dX8_guard_52 (by decide) ?_
      show z_V _ _ _ _ _ _ _ _ _ [_, _, _, _, _, _] _ _
      rw [e1]
      exact guard_loop1 ht hv hy hg hg15 hc hc30 he he6 hl hs 7 0 (by omega) (by omega)
    · have hf : fnd (hsB σ (tr t) (nI v) y) g < g := by
        rcases Decidable.em (fnd (hsB σ (tr t) (nI v) y) g < g) with q | q
        · exact q
        · rw [b2i_f q] at c20; exact absurd rfl c20
      have e1 : gdS σ (tr t) v y w = σ := by unfold gdS; rw [if_neg hz, hg, tN_nI (by omega), if_pos hf]
      exact z_vret dX8_guard_23 rfl rfl (by rw [e1])
theorem shS_lo {σ : Nat → Nat → Int32} {t n b : Nat} {k l r : Int32} (h : b < 28) : shS σ (tr t) n k l r b = σ b := by
  unfold shS shr
  split
  · rfl
  · rw [z_up_ne _ _ _ (tr_ne h 1), z_up_ne _ _ _ (tr_ne h 5), z_up_ne _ _ _ (tr_ne h 4), z_up_ne _ _ _ (tr_ne h 3), z_up_ne _ _ _ (tr_ne h 2)]
theorem cmb_20 {σ : Nat → Nat → Int32} {t n op a b c : Nat} (h : c = 20 ∨ c = 21 ∨ c = 22) : (cmb σ (tr t) n op a b).2 c = σ c := by
  unfold cmb
  split
  · exact shS_lo (by omega)
  · show (if _ then σ else _) c = _
    split
    · rfl
    · rw [cmS_ne (by omega)]
      unfold shr
      rw [z_up_ne _ _ _ (tr_ne (by omega) 1), z_up_ne _ _ _ (tr_ne (by omega) 5), z_up_ne _ _ _ (tr_ne (by omega) 4), z_up_ne _ _ _ (tr_ne (by omega) 3), z_up_ne _ _ _ (tr_ne (by omega) 2)]
theorem po_ne {σ : Nat → Nat → Int32} {f e b : Nat} (h : b ≠ f) : po σ f e b = σ b := z_up_ne _ _ _ h
set_option maxRecDepth 100000 in
set_option maxHeartbeats 4000000 in
theorem sp_fl0 {d : Nat} {σ : Nat → Nat → Int32} {τ : Nat → Nat → Int64} {t p n e : Nat} {y : Int32} (ht : t < 4) (hp : p < 40) (hop : σ 2 p = nI 0) (hn : σ (tr t + 1) 4 = nI n) (h36 : n < 36) (he : σ 20 2 = nI e) (he6 : e < 6) : z_MV M_X8_follow (d + 2) 0 0 [.ref 19, .ref (tr t), .int (nI p), .int y, .ref 1] (124, z_r0, σ, τ) (none) (124, z_r0, pu (shS σ (tr t) n 0 (σ 3 p) 0) 20 e (nI (shI σ (tr t) n 0 (σ 3 p) 0)), τ) := by
  refine z_MV.of pn_X8_follow (Nat.le_of_ble_eq_true rfl) (by simp [Value.category]) rfl ?_
  show z_V _ _ _ _ _ _ _ _ _ [_, _, _, _, _, _, _, _, _, _] _ _
  have hk := tr_k ht
  have hr := tr_r ht
  refine z_aload dX8_follow_0 rfl ?_
  refine z_getR dX8_follow_2 fl_X8_87 rfl rfl rfl ?_
  refine z_iload_n dX8_follow_5 rfl rfl ?_
  refine z_iald dX8_follow_6 rfl rfl (by omega) hop ?_
  refine z_istore dX8_follow_7 (by decide) ?_
  show z_V _ _ _ _ _ _ _ _ _ [_, _, _, _, _, _, _, _, _, _] _ _
  refine z_aload dX8_follow_9 rfl ?_
  refine z_getR dX8_follow_11 fl_X8_92 rfl rfl rfl ?_
  refine z_iload_n dX8_follow_14 rfl rfl ?_
  refine z_iald dX8_follow_15 rfl rfl (by omega) rfl ?_
  refine z_istore dX8_follow_16 (by decide) ?_
  show z_V _ _ _ _ _ _ _ _ _ [_, _, _, _, _, _, _, _, _, _] _ _
  refine z_iload dX8_follow_18 rfl ?_
  refine z_tableIn (off := 76) (tgt := 96) dX8_follow_20 (by decide) (by decide) (by decide) (by decide) ?_
  refine z_aload_n dX8_follow_96 rfl rfl ?_
  refine z_getR dX8_follow_97 fl_X8_12 rfl rfl rfl ?_
  refine z_aload_n dX8_follow_100 rfl rfl ?_
  refine z_getR dX8_follow_101 fl_X8_66 rfl hk.1 hr.2.1 ?_
  refine z_iconst (v := 0) dX8_follow_104 (by decide) ?_
  refine z_iload dX8_follow_105 rfl ?_
  refine z_iconst (v := 0) dX8_follow_107 (by decide) ?_
  refine z_cV1 dX8_follow_108 ml_X8_95 (sp_shareF ht hn h36) hk.2.1 ⟨by decide, rfl⟩ rfl rfl (Nat.le_of_ble_eq_true rfl) ?_
  refine z_cV0 dX8_follow_111 ml_X8_101 (sp_push (Or.inr rfl) (show _ = nI e by rw [shS_lo (by decide)]; exact he) he6) rfl ⟨by decide, rfl⟩ rfl rfl (Nat.le_of_ble_eq_true rfl) ?_
  refine z_goto (tgt := 225) dX8_follow_114 (by decide) ?_
  exact z_vret dX8_follow_225 rfl rfl rfl
set_option maxRecDepth 100000 in
set_option maxHeartbeats 4000000 in
theorem sp_fl1 {d : Nat} {σ : Nat → Nat → Int32} {τ : Nat → Nat → Int64} {t p n e : Nat} {y : Int32} (ht : t < 4) (hp : p < 40) (hop : σ 2 p = nI 1) {l : Nat} (he : σ 20 2 = nI e) (he6 : e < 6) (hx : σ 3 p = nI l) (hl : l < 6) : z_MV M_X8_follow (d + 2) 0 0 [.ref 19, .ref (tr t), .int (nI p), .int y, .ref 1] (124, z_r0, σ, τ) (none) (124, z_r0, pu σ 20 e (σ 21 l), τ) := by
  refine z_MV.of pn_X8_follow (Nat.le_of_ble_eq_true rfl) (by simp [Value.category]) rfl ?_
  show z_V _ _ _ _ _ _ _ _ _ [_, _, _, _, _, _, _, _, _, _] _ _
  have hk := tr_k ht
  have hr := tr_r ht
  refine z_aload dX8_follow_0 rfl ?_
  refine z_getR dX8_follow_2 fl_X8_87 rfl rfl rfl ?_
  refine z_iload_n dX8_follow_5 rfl rfl ?_
  refine z_iald dX8_follow_6 rfl rfl (by omega) hop ?_
  refine z_istore dX8_follow_7 (by decide) ?_
  show z_V _ _ _ _ _ _ _ _ _ [_, _, _, _, _, _, _, _, _, _] _ _
  refine z_aload dX8_follow_9 rfl ?_
  refine z_getR dX8_follow_11 fl_X8_92 rfl rfl rfl ?_
  refine z_iload_n dX8_follow_14 rfl rfl ?_
  refine z_iald dX8_follow_15 rfl rfl (by omega) hx ?_
  refine z_istore dX8_follow_16 (by decide) ?_
  show z_V _ _ _ _ _ _ _ _ _ [_, _, _, _, _, _, _, _, _, _] _ _
  refine z_iload dX8_follow_18 rfl ?_
  refine z_tableIn (off := 194) (tgt := 214) dX8_follow_20 (by decide) (by decide) (by decide) (by decide) ?_
  refine z_aload_n dX8_follow_214 rfl rfl ?_
  refine z_getR dX8_follow_215 fl_X8_12 rfl rfl rfl ?_
  refine z_iload dX8_follow_218 rfl ?_
  refine z_iload dX8_follow_220 rfl ?_
  refine z_cV0 dX8_follow_222 ml_X8_120 (sp_mv1 (Or.inr rfl) he he6 hl) rfl ⟨by decide, rfl⟩ rfl rfl (Nat.le_of_ble_eq_true rfl) ?_
  exact z_vret dX8_follow_225 rfl rfl rfl
set_option maxRecDepth 100000 in
set_option maxHeartbeats 4000000 in
theorem sp_fl2 {d : Nat} {σ : Nat → Nat → Int32} {τ : Nat → Nat → Int64} {t p n e : Nat} {y : Int32} (ht : t < 4) (hp : p < 40) (hop : σ 2 p = nI 2) {l : Nat} (he : σ 20 2 = nI (e + 1)) (he6 : e < 6) (hx : σ 3 p = nI l) (hl : l < 6) : z_MV M_X8_follow (d + 2) 0 0 [.ref 19, .ref (tr t), .int (nI p), .int y, .ref 1] (124, z_r0, σ, τ) (none) (124, z_r0, z_up (po σ 20 e) 21 l (σ 22 e), τ) := by
  refine z_MV.of pn_X8_follow (Nat.le_of_ble_eq_true rfl) (by simp [Value.category]) rfl ?_
  show z_V _ _ _ _ _ _ _ _ _ [_, _, _, _, _, _, _, _, _, _] _ _
  have hk := tr_k ht
  have hr := tr_r ht
  refine z_aload dX8_follow_0 rfl ?_
  refine z_getR dX8_follow_2 fl_X8_87 rfl rfl rfl ?_
  refine z_iload_n dX8_follow_5 rfl rfl ?_
  refine z_iald dX8_follow_6 rfl rfl (by omega) hop ?_
  refine z_istore dX8_follow_7 (by decide) ?_
  show z_V _ _ _ _ _ _ _ _ _ [_, _, _, _, _, _, _, _, _, _] _ _
  refine z_aload dX8_follow_9 rfl ?_
  refine z_getR dX8_follow_11 fl_X8_92 rfl rfl rfl ?_
  refine z_iload_n dX8_follow_14 rfl rfl ?_
  refine z_iald dX8_follow_15 rfl rfl (by omega) hx ?_
  refine z_istore dX8_follow_16 (by decide) ?_
  show z_V _ _ _ _ _ _ _ _ _ [_, _, _, _, _, _, _, _, _, _] _ _
  refine z_iload dX8_follow_18 rfl ?_
  refine z_tableIn (off := 194) (tgt := 214) dX8_follow_20 (by decide) (by decide) (by decide) (by decide) ?_
  refine z_aload_n dX8_follow_214 rfl rfl ?_
  refine z_getR dX8_follow_215 fl_X8_12 rfl rfl rfl ?_
  refine z_iload dX8_follow_218 rfl ?_
  refine z_iload dX8_follow_220 rfl ?_
  refine z_cV0 dX8_follow_222 ml_X8_120 (sp_mv2 (Or.inr rfl) he he6 hl) rfl ⟨by decide, rfl⟩ rfl rfl (Nat.le_of_ble_eq_true rfl) ?_
  exact z_vret dX8_follow_225 rfl rfl rfl
set_option maxRecDepth 100000 in
set_option maxHeartbeats 4000000 in
theorem sp_fl9 {d : Nat} {σ : Nat → Nat → Int32} {τ : Nat → Nat → Int64} {t p n e : Nat} {y : Int32} (ht : t < 4) (hp : p < 40) (hop : σ 2 p = nI 9) (he : σ 20 2 = nI (e + 1)) (he6 : e + 1 < 6) : z_MV M_X8_follow (d + 2) 0 0 [.ref 19, .ref (tr t), .int (nI p), .int y, .ref 1] (124, z_r0, σ, τ) (none) (124, z_r0, pu (pu (po σ 20 e) 20 e (σ 22 e)) 20 (e + 1) (σ 22 e), τ) := by
  refine z_MV.of pn_X8_follow (Nat.le_of_ble_eq_true rfl) (by simp [Value.category]) rfl ?_
  show z_V _ _ _ _ _ _ _ _ _ [_, _, _, _, _, _, _, _, _, _] _ _
  have hk := tr_k ht
  have hr := tr_r ht
  refine z_aload dX8_follow_0 rfl ?_
  refine z_getR dX8_follow_2 fl_X8_87 rfl rfl rfl ?_
  refine z_iload_n dX8_follow_5 rfl rfl ?_
  refine z_iald dX8_follow_6 rfl rfl (by omega) hop ?_
  refine z_istore dX8_follow_7 (by decide) ?_
  show z_V _ _ _ _ _ _ _ _ _ [_, _, _, _, _, _, _, _, _, _] _ _
  refine z_aload dX8_follow_9 rfl ?_
  refine z_getR dX8_follow_11 fl_X8_92 rfl rfl rfl ?_
  refine z_iload_n dX8_follow_14 rfl rfl ?_
  refine z_iald dX8_follow_15 rfl rfl (by omega) rfl ?_
  refine z_istore dX8_follow_16 (by decide) ?_
  show z_V _ _ _ _ _ _ _ _ _ [_, _, _, _, _, _, _, _, _, _] _ _
  refine z_iload dX8_follow_18 rfl ?_
  refine z_tableIn (off := 194) (tgt := 214) dX8_follow_20 (by decide) (by decide) (by decide) (by decide) ?_
  refine z_aload_n dX8_follow_214 rfl rfl ?_
  refine z_getR dX8_follow_215 fl_X8_12 rfl rfl rfl ?_
  refine z_iload dX8_follow_218 rfl ?_
  refine z_iload dX8_follow_220 rfl ?_
  refine z_cV0 dX8_follow_222 ml_X8_120 (sp_mv9 (Or.inr rfl) he he6) rfl ⟨by decide, rfl⟩ rfl rfl (Nat.le_of_ble_eq_true rfl) ?_
  exact z_vret dX8_follow_225 rfl rfl rfl
set_option maxRecDepth 100000 in
set_option maxHeartbeats 4000000 in
theorem sp_fl10 {d : Nat} {σ : Nat → Nat → Int32} {τ : Nat → Nat → Int64} {t p n e : Nat} {y : Int32} (ht : t < 4) (hp : p < 40) (hop : σ 2 p = nI 10) (he : σ 20 2 = nI (e + 1)) (he6 : e < 6) : z_MV M_X8_follow (d + 2) 0 0 [.ref 19, .ref (tr t), .int (nI p), .int y, .ref 1] (124, z_r0, σ, τ) (none) (124, z_r0, po σ 20 e, τ) := by
  refine z_MV.of pn_X8_follow (Nat.le_of_ble_eq_true rfl) (by simp [Value.category]) rfl ?_
  show z_V _ _ _ _ _ _ _ _ _ [_, _, _, _, _, _, _, _, _, _] _ _
  have hk := tr_k ht
  have hr := tr_r ht
  refine z_aload dX8_follow_0 rfl ?_
  refine z_getR dX8_follow_2 fl_X8_87 rfl rfl rfl ?_
  refine z_iload_n dX8_follow_5 rfl rfl ?_
  refine z_iald dX8_follow_6 rfl rfl (by omega) hop ?_
  refine z_istore dX8_follow_7 (by decide) ?_
  show z_V _ _ _ _ _ _ _ _ _ [_, _, _, _, _, _, _, _, _, _] _ _
  refine z_aload dX8_follow_9 rfl ?_
  refine z_getR dX8_follow_11 fl_X8_92 rfl rfl rfl ?_
  refine z_iload_n dX8_follow_14 rfl rfl ?_
  refine z_iald dX8_follow_15 rfl rfl (by omega) rfl ?_
  refine z_istore dX8_follow_16 (by decide) ?_
  show z_V _ _ _ _ _ _ _ _ _ [_, _, _, _, _, _, _, _, _, _] _ _
  refine z_iload dX8_follow_18 rfl ?_
  refine z_tableIn (off := 194) (tgt := 214) dX8_follow_20 (by decide) (by decide) (by decide) (by decide) ?_
  refine z_aload_n dX8_follow_214 rfl rfl ?_
  refine z_getR dX8_follow_215 fl_X8_12 rfl rfl rfl ?_
  refine z_iload dX8_follow_218 rfl ?_
  refine z_iload dX8_follow_220 rfl ?_
  refine z_cV0 dX8_follow_222 ml_X8_120 (sp_mv10 (Or.inr rfl) he he6) rfl ⟨by decide, rfl⟩ rfl rfl (Nat.le_of_ble_eq_true rfl) ?_
  exact z_vret dX8_follow_225 rfl rfl rfl
set_option maxRecDepth 100000 in
set_option maxHeartbeats 4000000 in
theorem sp_fl11 {d : Nat} {σ : Nat → Nat → Int32} {τ : Nat → Nat → Int64} {t p n e : Nat} {y : Int32} (ht : t < 4) (hp : p < 40) (hop : σ 2 p = nI 11) (he : σ 20 2 = nI (e + 2)) (he6 : e + 1 < 6) : z_MV M_X8_follow (d + 2) 0 0 [.ref 19, .ref (tr t), .int (nI p), .int y, .ref 1] (124, z_r0, σ, τ) (none) (124, z_r0, pu (pu (po (po σ 20 (e + 1)) 20 e) 20 e (σ 22 (e + 1))) 20 (e + 1) (po σ 20 (e + 1) 22 e), τ) := by
  refine z_MV.of pn_X8_follow (Nat.le_of_ble_eq_true rfl) (by simp [Value.category]) rfl ?_
  show z_V _ _ _ _ _ _ _ _ _ [_, _, _, _, _, _, _, _, _, _] _ _
  have hk := tr_k ht
  have hr := tr_r ht
  refine z_aload dX8_follow_0 rfl ?_
  refine z_getR dX8_follow_2 fl_X8_87 rfl rfl rfl ?_
  refine z_iload_n dX8_follow_5 rfl rfl ?_
  refine z_iald dX8_follow_6 rfl rfl (by omega) hop ?_
  refine z_istore dX8_follow_7 (by decide) ?_
  show z_V _ _ _ _ _ _ _ _ _ [_, _, _, _, _, _, _, _, _, _] _ _
  refine z_aload dX8_follow_9 rfl ?_
  refine z_getR dX8_follow_11 fl_X8_92 rfl rfl rfl ?_
  refine z_iload_n dX8_follow_14 rfl rfl ?_
  refine z_iald dX8_follow_15 rfl rfl (by omega) rfl ?_
  refine z_istore dX8_follow_16 (by decide) ?_
  show z_V _ _ _ _ _ _ _ _ _ [_, _, _, _, _, _, _, _, _, _] _ _
  refine z_iload dX8_follow_18 rfl ?_
  refine z_tableIn (off := 194) (tgt := 214) dX8_follow_20 (by decide) (by decide) (by decide) (by decide) ?_
  refine z_aload_n dX8_follow_214 rfl rfl ?_
  refine z_getR dX8_follow_215 fl_X8_12 rfl rfl rfl ?_
  refine z_iload dX8_follow_218 rfl ?_
  refine z_iload dX8_follow_220 rfl ?_
  refine z_cV0 dX8_follow_222 ml_X8_120 (sp_mv11 (Or.inr rfl) he he6) rfl ⟨by decide, rfl⟩ rfl rfl (Nat.le_of_ble_eq_true rfl) ?_
  exact z_vret dX8_follow_225 rfl rfl rfl
set_option maxRecDepth 100000 in
set_option maxHeartbeats 4000000 in
theorem sp_fl13 {d : Nat} {σ : Nat → Nat → Int32} {τ : Nat → Nat → Int64} {t p n e : Nat} {y : Int32} (ht : t < 4) (hp : p < 40) (hop : σ 2 p = nI 13) : z_MV M_X8_follow (d + 2) 0 0 [.ref 19, .ref (tr t), .int (nI p), .int y, .ref 1] (124, z_r0, σ, τ) (none) (124, z_r0, σ, τ) := by
  refine z_MV.of pn_X8_follow (Nat.le_of_ble_eq_true rfl) (by simp [Value.category]) rfl ?_
  show z_V _ _ _ _ _ _ _ _ _ [_, _, _, _, _, _, _, _, _, _] _ _
  have hk := tr_k ht
  have hr := tr_r ht
  refine z_aload dX8_follow_0 rfl ?_
  refine z_getR dX8_follow_2 fl_X8_87 rfl rfl rfl ?_
  refine z_iload_n dX8_follow_5 rfl rfl ?_
  refine z_iald dX8_follow_6 rfl rfl (by omega) hop ?_
  refine z_istore dX8_follow_7 (by decide) ?_
  show z_V _ _ _ _ _ _ _ _ _ [_, _, _, _, _, _, _, _, _, _] _ _
  refine z_aload dX8_follow_9 rfl ?_
  refine z_getR dX8_follow_11 fl_X8_92 rfl rfl rfl ?_
  refine z_iload_n dX8_follow_14 rfl rfl ?_
  refine z_iald dX8_follow_15 rfl rfl (by omega) rfl ?_
  refine z_istore dX8_follow_16 (by decide) ?_
  show z_V _ _ _ _ _ _ _ _ _ [_, _, _, _, _, _, _, _, _, _] _ _
  refine z_iload dX8_follow_18 rfl ?_
  refine z_tableIn (off := 194) (tgt := 214) dX8_follow_20 (by decide) (by decide) (by decide) (by decide) ?_
  refine z_aload_n dX8_follow_214 rfl rfl ?_
  refine z_getR dX8_follow_215 fl_X8_12 rfl rfl rfl ?_
  refine z_iload dX8_follow_218 rfl ?_
  refine z_iload dX8_follow_220 rfl ?_
  refine z_cV0 dX8_follow_222 ml_X8_120 (sp_mv13 (e := 0) (Or.inr rfl)) rfl ⟨by decide, rfl⟩ rfl rfl (Nat.le_of_ble_eq_true rfl) ?_
  exact z_vret dX8_follow_225 rfl rfl rfl
set_option maxRecDepth 100000 in
set_option maxHeartbeats 4000000 in
theorem sp_fl3 {d : Nat} {σ : Nat → Nat → Int32} {τ : Nat → Nat → Int64} {t p n e : Nat} {y : Int32} (ht : t < 4) (hp : p < 40) (hop : σ 2 p = nI 3) {c a b : Nat} (hn : σ (tr t + 1) 4 = nI n) (h36 : n < 36) (hc : σ 19 3 = nI c) (hc30 : c < 30) (he : σ 20 2 = nI (e + 2)) (he6 : e + 1 < 6) (hb : σ 22 (e + 1) = nI b) (hb36 : b < 36) (ha : σ 22 e = nI a) (ha36 : a < 36) : z_MV M_X8_follow (d + 2) 0 0 [.ref 19, .ref (tr t), .int (nI p), .int y, .ref 1] (124, z_r0, σ, τ) (none) (124, z_r0, pu (cmb (po (po σ 20 (e + 1)) 20 e) (tr t) n 3 a b).2 20 e (nI (cmb (po (po σ 20 (e + 1)) 20 e) (tr t) n 3 a b).1), τ) := by
  refine z_MV.of pn_X8_follow (Nat.le_of_ble_eq_true rfl) (by simp [Value.category]) rfl ?_
  show z_V _ _ _ _ _ _ _ _ _ [_, _, _, _, _, _, _, _, _, _] _ _
  have hk := tr_k ht
  have hr := tr_r ht
  refine z_aload dX8_follow_0 rfl ?_
  refine z_getR dX8_follow_2 fl_X8_87 rfl rfl rfl ?_
  refine z_iload_n dX8_follow_5 rfl rfl ?_
  refine z_iald dX8_follow_6 rfl rfl (by omega) hop ?_
  refine z_istore dX8_follow_7 (by decide) ?_
  show z_V _ _ _ _ _ _ _ _ _ [_, _, _, _, _, _, _, _, _, _] _ _
  refine z_aload dX8_follow_9 rfl ?_
  refine z_getR dX8_follow_11 fl_X8_92 rfl rfl rfl ?_
  refine z_iload_n dX8_follow_14 rfl rfl ?_
  refine z_iald dX8_follow_15 rfl rfl (by omega) rfl ?_
  refine z_istore dX8_follow_16 (by decide) ?_
  show z_V _ _ _ _ _ _ _ _ _ [_, _, _, _, _, _, _, _, _, _] _ _
  refine z_iload dX8_follow_18 rfl ?_
  refine z_tableIn (off := 97) (tgt := 117) dX8_follow_20 (by decide) (by decide) (by decide) (by decide) ?_
  refine z_aload_n dX8_follow_117 rfl rfl ?_
  refine z_getR dX8_follow_118 fl_X8_12 rfl rfl rfl ?_
  refine z_cV1 dX8_follow_121 ml_X8_104 (sp_pop (Or.inr rfl) he (by omega)) rfl ⟨by decide, rfl⟩ rfl rfl (Nat.le_of_ble_eq_true rfl) ?_
  rw [show σ (20 + 2) (e + 1) = nI b from hb]
  refine z_istore dX8_follow_124 (by decide) ?_
  show z_V _ _ _ _ _ _ _ _ _ [_, _, _, _, _, _, _, _, _, _] _ _
  refine z_aload_n dX8_follow_126 rfl rfl ?_
  refine z_getR dX8_follow_127 fl_X8_12 rfl rfl rfl ?_
  refine z_cV1 dX8_follow_130 ml_X8_104 (sp_pop (e := e) (Or.inr rfl) (show _ = nI (e + 1) by simp [z_up]) (by omega)) rfl ⟨by decide, rfl⟩ rfl rfl (Nat.le_of_ble_eq_true rfl) ?_
  rw [show z_up σ 20 2 (nI (e + 1)) (20 + 2) e = nI a from (congrFun (z_up_ne _ _ _ (by decide)) e).trans ha]
  refine z_istore dX8_follow_133 (by decide) ?_
  show z_V _ _ _ _ _ _ _ _ _ [_, _, _, _, _, _, _, _, _, _] _ _
  refine z_aload_n dX8_follow_135 rfl rfl ?_
  refine z_getR dX8_follow_136 fl_X8_12 rfl rfl rfl ?_
  refine z_aload_n dX8_follow_139 rfl rfl ?_
  refine z_aload_n dX8_follow_140 rfl rfl ?_
  refine z_getR dX8_follow_141 fl_X8_66 rfl hk.1 hr.2.1 ?_
  refine z_iload dX8_follow_144 rfl ?_
  refine z_iload dX8_follow_146 rfl ?_
  refine z_iload dX8_follow_148 rfl ?_
  refine z_cV1 dX8_follow_150 ml_X8_108 (sp_combine (σ := po (po σ 20 (e + 1)) 20 e) ht (show _ = nI n by rw [po_ne (tr_ne' (by decide) 1), po_ne (tr_ne' (by decide) 1)]; exact hn) h36 (show _ = nI c by rw [po_ne (by decide), po_ne (by decide)]; exact hc) hc30 (by decide) (by decide) ha36 hb36) rfl ⟨by decide, rfl⟩ rfl rfl (Nat.le_of_ble_eq_true rfl) ?_
  refine z_cV0 dX8_follow_153 ml_X8_101 (sp_push (e := e) (Or.inr rfl) (show _ = nI e by rw [cmb_20 (by omega)]; simp [po, z_up]) (by omega)) rfl ⟨by decide, rfl⟩ rfl rfl (Nat.le_of_ble_eq_true rfl) ?_
  refine z_goto (tgt := 225) dX8_follow_156 (by decide) ?_
  exact z_vret dX8_follow_225 rfl rfl rfl
set_option maxRecDepth 100000 in
set_option maxHeartbeats 4000000 in
theorem sp_fl4 {d : Nat} {σ : Nat → Nat → Int32} {τ : Nat → Nat → Int64} {t p n e : Nat} {y : Int32} (ht : t < 4) (hp : p < 40) (hop : σ 2 p = nI 4) {c a b : Nat} (hn : σ (tr t + 1) 4 = nI n) (h36 : n < 36) (hc : σ 19 3 = nI c) (hc30 : c < 30) (he : σ 20 2 = nI (e + 2)) (he6 : e + 1 < 6) (hb : σ 22 (e + 1) = nI b) (hb36 : b < 36) (ha : σ 22 e = nI a) (ha36 : a < 36) : z_MV M_X8_follow (d + 2) 0 0 [.ref 19, .ref (tr t), .int (nI p), .int y, .ref 1] (124, z_r0, σ, τ) (none) (124, z_r0, pu (cmb (po (po σ 20 (e + 1)) 20 e) (tr t) n 4 a b).2 20 e (nI (cmb (po (po σ 20 (e + 1)) 20 e) (tr t) n 4 a b).1), τ) := by
  refine z_MV.of pn_X8_follow (Nat.le_of_ble_eq_true rfl) (by simp [Value.category]) rfl ?_
  show z_V _ _ _ _ _ _ _ _ _ [_, _, _, _, _, _, _, _, _, _] _ _
  have hk := tr_k ht
  have hr := tr_r ht
  refine z_aload dX8_follow_0 rfl ?_
  refine z_getR dX8_follow_2 fl_X8_87 rfl rfl rfl ?_
  refine z_iload_n dX8_follow_5 rfl rfl ?_
  refine z_iald dX8_follow_6 rfl rfl (by omega) hop ?_
  refine z_istore dX8_follow_7 (by decide) ?_
  show z_V _ _ _ _ _ _ _ _ _ [_, _, _, _, _, _, _, _, _, _] _ _
  refine z_aload dX8_follow_9 rfl ?_
  refine z_getR dX8_follow_11 fl_X8_92 rfl rfl rfl ?_
  refine z_iload_n dX8_follow_14 rfl rfl ?_
  refine z_iald dX8_follow_15 rfl rfl (by omega) rfl ?_
  refine z_istore dX8_follow_16 (by decide) ?_
  show z_V _ _ _ _ _ _ _ _ _ [_, _, _, _, _, _, _, _, _, _] _ _
  refine z_iload dX8_follow_18 rfl ?_
  refine z_tableIn (off := 97) (tgt := 117) dX8_follow_20 (by decide) (by decide) (by decide) (by decide) ?_
  refine z_aload_n dX8_follow_117 rfl rfl ?_
  refine z_getR dX8_follow_118 fl_X8_12 rfl rfl rfl ?_
  refine z_cV1 dX8_follow_121 ml_X8_104 (sp_pop (Or.inr rfl) he (by omega)) rfl ⟨by decide, rfl⟩ rfl rfl (Nat.le_of_ble_eq_true rfl) ?_
  rw [show σ (20 + 2) (e + 1) = nI b from hb]
  refine z_istore dX8_follow_124 (by decide) ?_
  show z_V _ _ _ _ _ _ _ _ _ [_, _, _, _, _, _, _, _, _, _] _ _
  refine z_aload_n dX8_follow_126 rfl rfl ?_
  refine z_getR dX8_follow_127 fl_X8_12 rfl rfl rfl ?_
  refine z_cV1 dX8_follow_130 ml_X8_104 (sp_pop (e := e) (Or.inr rfl) (show _ = nI (e + 1) by simp [z_up]) (by omega)) rfl ⟨by decide, rfl⟩ rfl rfl (Nat.le_of_ble_eq_true rfl) ?_
  rw [show z_up σ 20 2 (nI (e + 1)) (20 + 2) e = nI a from (congrFun (z_up_ne _ _ _ (by decide)) e).trans ha]
  refine z_istore dX8_follow_133 (by decide) ?_
  show z_V _ _ _ _ _ _ _ _ _ [_, _, _, _, _, _, _, _, _, _] _ _
  refine z_aload_n dX8_follow_135 rfl rfl ?_
  refine z_getR dX8_follow_136 fl_X8_12 rfl rfl rfl ?_
  refine z_aload_n dX8_follow_139 rfl rfl ?_
  refine z_aload_n dX8_follow_140 rfl rfl ?_
  refine z_getR dX8_follow_141 fl_X8_66 rfl hk.1 hr.2.1 ?_
  refine z_iload dX8_follow_144 rfl ?_
  refine z_iload dX8_follow_146 rfl ?_
  refine z_iload dX8_follow_148 rfl ?_
  refine z_cV1 dX8_follow_150 ml_X8_108 (sp_combine (σ := po (po σ 20 (e + 1)) 20 e) ht (show _ = nI n by rw [po_ne (tr_ne' (by decide) 1), po_ne (tr_ne' (by decide) 1)]; exact hn) h36 (show _ = nI c by rw [po_ne (by decide), po_ne (by decide)]; exact hc) hc30 (by decide) (by decide) ha36 hb36) rfl ⟨by decide, rfl⟩ rfl rfl (Nat.le_of_ble_eq_true rfl) ?_
  refine z_cV0 dX8_follow_153 ml_X8_101 (sp_push (e := e) (Or.inr rfl) (show _ = nI e by rw [cmb_20 (by omega)]; simp [po, z_up]) (by omega)) rfl ⟨by decide, rfl⟩ rfl rfl (Nat.le_of_ble_eq_true rfl) ?_
  refine z_goto (tgt := 225) dX8_follow_156 (by decide) ?_
  exact z_vret dX8_follow_225 rfl rfl rfl
set_option maxRecDepth 100000 in
set_option maxHeartbeats 4000000 in
theorem sp_fl5 {d : Nat} {σ : Nat → Nat → Int32} {τ : Nat → Nat → Int64} {t p n e : Nat} {y : Int32} (ht : t < 4) (hp : p < 40) (hop : σ 2 p = nI 5) {c a b : Nat} (hn : σ (tr t + 1) 4 = nI n) (h36 : n < 36) (hc : σ 19 3 = nI c) (hc30 : c < 30) (he : σ 20 2 = nI (e + 2)) (he6 : e + 1 < 6) (hb : σ 22 (e + 1) = nI b) (hb36 : b < 36) (ha : σ 22 e = nI a) (ha36 : a < 36) : z_MV M_X8_follow (d + 2) 0 0 [.ref 19, .ref (tr t), .int (nI p), .int y, .ref 1] (124, z_r0, σ, τ) (none) (124, z_r0, pu (cmb (po (po σ 20 (e + 1)) 20 e) (tr t) n 5 a b).2 20 e (nI (cmb (po (po σ 20 (e + 1)) 20 e) (tr t) n 5 a b).1), τ) := by
  refine z_MV.of pn_X8_follow (Nat.le_of_ble_eq_true rfl) (by simp [Value.category]) rfl ?_
  show z_V _ _ _ _ _ _ _ _ _ [_, _, _, _, _, _, _, _, _, _] _ _
  have hk := tr_k ht
  have hr := tr_r ht
  refine z_aload dX8_follow_0 rfl ?_
  refine z_getR dX8_follow_2 fl_X8_87 rfl rfl rfl ?_
  refine z_iload_n dX8_follow_5 rfl rfl ?_
  refine z_iald dX8_follow_6 rfl rfl (by omega) hop ?_
  refine z_istore dX8_follow_7 (by decide) ?_
  show z_V _ _ _ _ _ _ _ _ _ [_, _, _, _, _, _, _, _, _, _] _ _
  refine z_aload dX8_follow_9 rfl ?_
  refine z_getR dX8_follow_11 fl_X8_92 rfl rfl rfl ?_
  refine z_iload_n dX8_follow_14 rfl rfl ?_
  refine z_iald dX8_follow_15 rfl rfl (by omega) rfl ?_
  refine z_istore dX8_follow_16 (by decide) ?_
  show z_V _ _ _ _ _ _ _ _ _ [_, _, _, _, _, _, _, _, _, _] _ _
  refine z_iload dX8_follow_18 rfl ?_
  refine z_tableIn (off := 97) (tgt := 117) dX8_follow_20 (by decide) (by decide) (by decide) (by decide) ?_
  refine z_aload_n dX8_follow_117 rfl rfl ?_
  refine z_getR dX8_follow_118 fl_X8_12 rfl rfl rfl ?_
  refine z_cV1 dX8_follow_121 ml_X8_104 (sp_pop (Or.inr rfl) he (by omega)) rfl ⟨by decide, rfl⟩ rfl rfl (Nat.le_of_ble_eq_true rfl) ?_
  rw [show σ (20 + 2) (e + 1) = nI b from hb]
  refine z_istore dX8_follow_124 (by decide) ?_
  show z_V _ _ _ _ _ _ _ _ _ [_, _, _, _, _, _, _, _, _, _] _ _
  refine z_aload_n dX8_follow_126 rfl rfl ?_
  refine z_getR dX8_follow_127 fl_X8_12 rfl rfl rfl ?_
  refine z_cV1 dX8_follow_130 ml_X8_104 (sp_pop (e := e) (Or.inr rfl) (show _ = nI (e + 1) by simp [z_up]) (by omega)) rfl ⟨by decide, rfl⟩ rfl rfl (Nat.le_of_ble_eq_true rfl) ?_
  rw [show z_up σ 20 2 (nI (e + 1)) (20 + 2) e = nI a from (congrFun (z_up_ne _ _ _ (by decide)) e).trans ha]
  refine z_istore dX8_follow_133 (by decide) ?_
  show z_V _ _ _ _ _ _ _ _ _ [_, _, _, _, _, _, _, _, _, _] _ _
  refine z_aload_n dX8_follow_135 rfl rfl ?_
  refine z_getR dX8_follow_136 fl_X8_12 rfl rfl rfl ?_
  refine z_aload_n dX8_follow_139 rfl rfl ?_
  refine z_aload_n dX8_follow_140 rfl rfl ?_
  refine z_getR dX8_follow_141 fl_X8_66 rfl hk.1 hr.2.1 ?_
  refine z_iload dX8_follow_144 rfl ?_
  refine z_iload dX8_follow_146 rfl ?_
  refine z_iload dX8_follow_148 rfl ?_
  refine z_cV1 dX8_follow_150 ml_X8_108 (sp_combine (σ := po (po σ 20 (e + 1)) 20 e) ht (show _ = nI n by rw [po_ne (tr_ne' (by decide) 1), po_ne (tr_ne' (by decide) 1)]; exact hn) h36 (show _ = nI c by rw [po_ne (by decide), po_ne (by decide)]; exact hc) hc30 (by decide) (by decide) ha36 hb36) rfl ⟨by decide, rfl⟩ rfl rfl (Nat.le_of_ble_eq_true rfl) ?_
  refine z_cV0 dX8_follow_153 ml_X8_101 (sp_push (e := e) (Or.inr rfl) (show _ = nI e by rw [cmb_20 (by omega)]; simp [po, z_up]) (by omega)) rfl ⟨by decide, rfl⟩ rfl rfl (Nat.le_of_ble_eq_true rfl) ?_
  refine z_goto (tgt := 225) dX8_follow_156 (by decide) ?_
  exact z_vret dX8_follow_225 rfl rfl rfl
set_option maxRecDepth 100000 in
set_option maxHeartbeats 4000000 in
theorem sp_fl6 {d : Nat} {σ : Nat → Nat → Int32} {τ : Nat → Nat → Int64} {t p n e : Nat} {y : Int32} (ht : t < 4) (hp : p < 40) (hop : σ 2 p = nI 6) {c a b : Nat} (hn : σ (tr t + 1) 4 = nI n) (h36 : n < 36) (hc : σ 19 3 = nI c) (hc30 : c < 30) (he : σ 20 2 = nI (e + 2)) (he6 : e + 1 < 6) (hb : σ 22 (e + 1) = nI b) (hb36 : b < 36) (ha : σ 22 e = nI a) (ha36 : a < 36) : z_MV M_X8_follow (d + 2) 0 0 [.ref 19, .ref (tr t), .int (nI p), .int y, .ref 1] (124, z_r0, σ, τ) (none) (124, z_r0, pu (cmb (po (po σ 20 (e + 1)) 20 e) (tr t) n 6 a b).2 20 e (nI (cmb (po (po σ 20 (e + 1)) 20 e) (tr t) n 6 a b).1), τ) := by
  refine z_MV.of pn_X8_follow (Nat.le_of_ble_eq_true rfl) (by simp [Value.category]) rfl ?_
  show z_V _ _ _ _ _ _ _ _ _ [_, _, _, _, _, _, _, _, _, _] _ _
  have hk := tr_k ht
  have hr := tr_r ht
  refine z_aload dX8_follow_0 rfl ?_
  refine z_getR dX8_follow_2 fl_X8_87 rfl rfl rfl ?_
  refine z_iload_n dX8_follow_5 rfl rfl ?_
  refine z_iald dX8_follow_6 rfl rfl (by omega) hop ?_
  refine z_istore dX8_follow_7 (by decide) ?_
  show z_V _ _ _ _ _ _ _ _ _ [_, _, _, _, _, _, _, _, _, _] _ _
  refine z_aload dX8_follow_9 rfl ?_
  refine z_getR dX8_follow_11 fl_X8_92 rfl rfl rfl ?_
  refine z_iload_n dX8_follow_14 rfl rfl ?_
  refine z_iald dX8_follow_15 rfl rfl (by omega) rfl ?_
  refine z_istore dX8_follow_16 (by decide) ?_
  show z_V _ _ _ _ _ _ _ _ _ [_, _, _, _, _, _, _, _, _, _] _ _
  refine z_iload dX8_follow_18 rfl ?_
  refine z_tableIn (off := 97) (tgt := 117) dX8_follow_20 (by decide) (by decide) (by decide) (by decide) ?_
  refine z_aload_n dX8_follow_117 rfl rfl ?_
  refine z_getR dX8_follow_118 fl_X8_12 rfl rfl rfl ?_
  refine z_cV1 dX8_follow_121 ml_X8_104 (sp_pop (Or.inr rfl) he (by omega)) rfl ⟨by decide, rfl⟩ rfl rfl (Nat.le_of_ble_eq_true rfl) ?_
  rw [show σ (20 + 2) (e + 1) = nI b from hb]
  refine z_istore dX8_follow_124 (by decide) ?_
  show z_V _ _ _ _ _ _ _ _ _ [_, _, _, _, _, _, _, _, _, _] _ _
  refine z_aload_n dX8_follow_126 rfl rfl ?_
  refine z_getR dX8_follow_127 fl_X8_12 rfl rfl rfl ?_
  refine z_cV1 dX8_follow_130 ml_X8_104 (sp_pop (e := e) (Or.inr rfl) (show _ = nI (e + 1) by simp [z_up]) (by omega)) rfl ⟨by decide, rfl⟩ rfl rfl (Nat.le_of_ble_eq_true rfl) ?_
  rw [show z_up σ 20 2 (nI (e + 1)) (20 + 2) e = nI a from (congrFun (z_up_ne _ _ _ (by decide)) e).trans ha]
  refine z_istore dX8_follow_133 (by decide) ?_
  show z_V _ _ _ _ _ _ _ _ _ [_, _, _, _, _, _, _, _, _, _] _ _
  refine z_aload_n dX8_follow_135 rfl rfl ?_
  refine z_getR dX8_follow_136 fl_X8_12 rfl rfl rfl ?_
  refine z_aload_n dX8_follow_139 rfl rfl ?_
  refine z_aload_n dX8_follow_140 rfl rfl ?_
  refine z_getR dX8_follow_141 fl_X8_66 rfl hk.1 hr.2.1 ?_
  refine z_iload dX8_follow_144 rfl ?_
  refine z_iload dX8_follow_146 rfl ?_
  refine z_iload dX8_follow_148 rfl ?_
  refine z_cV1 dX8_follow_150 ml_X8_108 (sp_combine (σ := po (po σ 20 (e + 1)) 20 e) ht (show _ = nI n by rw [po_ne (tr_ne' (by decide) 1), po_ne (tr_ne' (by decide) 1)]; exact hn) h36 (show _ = nI c by rw [po_ne (by decide), po_ne (by decide)]; exact hc) hc30 (by decide) (by decide) ha36 hb36) rfl ⟨by decide, rfl⟩ rfl rfl (Nat.le_of_ble_eq_true rfl) ?_
  refine z_cV0 dX8_follow_153 ml_X8_101 (sp_push (e := e) (Or.inr rfl) (show _ = nI e by rw [cmb_20 (by omega)]; simp [po, z_up]) (by omega)) rfl ⟨by decide, rfl⟩ rfl rfl (Nat.le_of_ble_eq_true rfl) ?_
  refine z_goto (tgt := 225) dX8_follow_156 (by decide) ?_
  exact z_vret dX8_follow_225 rfl rfl rfl
set_option maxRecDepth 100000 in
set_option maxHeartbeats 4000000 in
theorem sp_fl7 {d : Nat} {σ : Nat → Nat → Int32} {τ : Nat → Nat → Int64} {t p n e : Nat} {y : Int32} (ht : t < 4) (hp : p < 40) (hop : σ 2 p = nI 7) {c a b : Nat} (hn : σ (tr t + 1) 4 = nI n) (h36 : n < 36) (hc : σ 19 3 = nI c) (hc30 : c < 30) (he : σ 20 2 = nI (e + 2)) (he6 : e + 1 < 6) (hb : σ 22 (e + 1) = nI b) (hb36 : b < 36) (ha : σ 22 e = nI a) (ha36 : a < 36) : z_MV M_X8_follow (d + 2) 0 0 [.ref 19, .ref (tr t), .int (nI p), .int y, .ref 1] (124, z_r0, σ, τ) (none) (124, z_r0, pu (cmb (po (po σ 20 (e + 1)) 20 e) (tr t) n 7 a b).2 20 e (nI (cmb (po (po σ 20 (e + 1)) 20 e) (tr t) n 7 a b).1), τ) := by
  refine z_MV.of pn_X8_follow (Nat.le_of_ble_eq_true rfl) (by simp [Value.category]) rfl ?_
  show z_V _ _ _ _ _ _ _ _ _ [_, _, _, _, _, _, _, _, _, _] _ _
  have hk := tr_k ht
  have hr := tr_r ht
  refine z_aload dX8_follow_0 rfl ?_
  refine z_getR dX8_follow_2 fl_X8_87 rfl rfl rfl ?_
  refine z_iload_n dX8_follow_5 rfl rfl ?_
  refine z_iald dX8_follow_6 rfl rfl (by omega) hop ?_
  refine z_istore dX8_follow_7 (by decide) ?_
  show z_V _ _ _ _ _ _ _ _ _ [_, _, _, _, _, _, _, _, _, _] _ _
  refine z_aload dX8_follow_9 rfl ?_
  refine z_getR dX8_follow_11 fl_X8_92 rfl rfl rfl ?_
  refine z_iload_n dX8_follow_14 rfl rfl ?_
  refine z_iald dX8_follow_15 rfl rfl (by omega) rfl ?_
  refine z_istore dX8_follow_16 (by decide) ?_
  show z_V _ _ _ _ _ _ _ _ _ [_, _, _, _, _, _, _, _, _, _] _ _
  refine z_iload dX8_follow_18 rfl ?_
  refine z_tableIn (off := 97) (tgt := 117) dX8_follow_20 (by decide) (by decide) (by decide) (by decide) ?_
  refine z_aload_n dX8_follow_117 rfl rfl ?_
  refine z_getR dX8_follow_118 fl_X8_12 rfl rfl rfl ?_
  refine z_cV1 dX8_follow_121 ml_X8_104 (sp_pop (Or.inr rfl) he (by omega)) rfl ⟨by decide, rfl⟩ rfl rfl (Nat.le_of_ble_eq_true rfl) ?_
  rw [show σ (20 + 2) (e + 1) = nI b from hb]
  refine z_istore dX8_follow_124 (by decide) ?_
  show z_V _ _ _ _ _ _ _ _ _ [_, _, _, _, _, _, _, _, _, _] _ _
  refine z_aload_n dX8_follow_126 rfl rfl ?_
  refine z_getR dX8_follow_127 fl_X8_12 rfl rfl rfl ?_
  refine z_cV1 dX8_follow_130 ml_X8_104 (sp_pop (e := e) (Or.inr rfl) (show _ = nI (e + 1) by simp [z_up]) (by omega)) rfl ⟨by decide, rfl⟩ rfl rfl (Nat.le_of_ble_eq_true rfl) ?_
  rw [show z_up σ 20 2 (nI (e + 1)) (20 + 2) e = nI a from (congrFun (z_up_ne _ _ _ (by decide)) e).trans ha]
  refine z_istore dX8_follow_133 (by decide) ?_
  show z_V _ _ _ _ _ _ _ _ _ [_, _, _, _, _, _, _, _, _, _] _ _
  refine z_aload_n dX8_follow_135 rfl rfl ?_
  refine z_getR dX8_follow_136 fl_X8_12 rfl rfl rfl ?_
  refine z_aload_n dX8_follow_139 rfl rfl ?_
  refine z_aload_n dX8_follow_140 rfl rfl ?_
  refine z_getR dX8_follow_141 fl_X8_66 rfl hk.1 hr.2.1 ?_
  refine z_iload dX8_follow_144 rfl ?_
  refine z_iload dX8_follow_146 rfl ?_
  refine z_iload dX8_follow_148 rfl ?_
  refine z_cV1 dX8_follow_150 ml_X8_108 (sp_combine (σ := po (po σ 20 (e + 1)) 20 e) ht (show _ = nI n by rw [po_ne (tr_ne' (by decide) 1), po_ne (tr_ne' (by decide) 1)]; exact hn) h36 (show _ = nI c by rw [po_ne (by decide), po_ne (by decide)]; exact hc) hc30 (by decide) (by decide) ha36 hb36) rfl ⟨by decide, rfl⟩ rfl rfl (Nat.le_of_ble_eq_true rfl) ?_
  refine z_cV0 dX8_follow_153 ml_X8_101 (sp_push (e := e) (Or.inr rfl) (show _ = nI e by rw [cmb_20 (by omega)]; simp [po, z_up]) (by omega)) rfl ⟨by decide, rfl⟩ rfl rfl (Nat.le_of_ble_eq_true rfl) ?_
  refine z_goto (tgt := 225) dX8_follow_156 (by decide) ?_
  exact z_vret dX8_follow_225 rfl rfl rfl
set_option maxRecDepth 100000 in
set_option maxHeartbeats 4000000 in
theorem sp_fl8 {d : Nat} {σ : Nat → Nat → Int32} {τ : Nat → Nat → Int64} {t p n e : Nat} {y : Int32} (ht : t < 4) (hp : p < 40) (hop : σ 2 p = nI 8) {c a b : Nat} (hn : σ (tr t + 1) 4 = nI n) (h36 : n < 36) (hc : σ 19 3 = nI c) (hc30 : c < 30) (he : σ 20 2 = nI (e + 2)) (he6 : e + 1 < 6) (hb : σ 22 (e + 1) = nI b) (hb36 : b < 36) (ha : σ 22 e = nI a) (ha36 : a < 36) : z_MV M_X8_follow (d + 2) 0 0 [.ref 19, .ref (tr t), .int (nI p), .int y, .ref 1] (124, z_r0, σ, τ) (none) (124, z_r0, pu (cmb (po (po σ 20 (e + 1)) 20 e) (tr t) n 8 a b).2 20 e (nI (cmb (po (po σ 20 (e + 1)) 20 e) (tr t) n 8 a b).1), τ) := by
  refine z_MV.of pn_X8_follow (Nat.le_of_ble_eq_true rfl) (by simp [Value.category]) rfl ?_
  show z_V _ _ _ _ _ _ _ _ _ [_, _, _, _, _, _, _, _, _, _] _ _
  have hk := tr_k ht
  have hr := tr_r ht
  refine z_aload dX8_follow_0 rfl ?_
  refine z_getR dX8_follow_2 fl_X8_87 rfl rfl rfl ?_
  refine z_iload_n dX8_follow_5 rfl rfl ?_
  refine z_iald dX8_follow_6 rfl rfl (by omega) hop ?_
  refine z_istore dX8_follow_7 (by decide) ?_
  show z_V _ _ _ _ _ _ _ _ _ [_, _, _, _, _, _, _, _, _, _] _ _
  refine z_aload dX8_follow_9 rfl ?_
  refine z_getR dX8_follow_11 fl_X8_92 rfl rfl rfl ?_
  refine z_iload_n dX8_follow_14 rfl rfl ?_
  refine z_iald dX8_follow_15 rfl rfl (by omega) rfl ?_
  refine z_istore dX8_follow_16 (by decide) ?_
  show z_V _ _ _ _ _ _ _ _ _ [_, _, _, _, _, _, _, _, _, _] _ _
  refine z_iload dX8_follow_18 rfl ?_
  refine z_tableIn (off := 97) (tgt := 117) dX8_follow_20 (by decide) (by decide) (by decide) (by decide) ?_
  refine z_aload_n dX8_follow_117 rfl rfl ?_
  refine z_getR dX8_follow_118 fl_X8_12 rfl rfl rfl ?_
  refine z_cV1 dX8_follow_121 ml_X8_104 (sp_pop (Or.inr rfl) he (by omega)) rfl ⟨by decide, rfl⟩ rfl rfl (Nat.le_of_ble_eq_true rfl) ?_
  rw [show σ (20 + 2) (e + 1) = nI b from hb]
  refine z_istore dX8_follow_124 (by decide) ?_
  show z_V _ _ _ _ _ _ _ _ _ [_, _, _, _, _, _, _, _, _, _] _ _
  refine z_aload_n dX8_follow_126 rfl rfl ?_
  refine z_getR dX8_follow_127 fl_X8_12 rfl rfl rfl ?_
  refine z_cV1 dX8_follow_130 ml_X8_104 (sp_pop (e := e) (Or.inr rfl) (show _ = nI (e + 1) by simp [z_up]) (by omega)) rfl ⟨by decide, rfl⟩ rfl rfl (Nat.le_of_ble_eq_true rfl) ?_
  rw [show z_up σ 20 2 (nI (e + 1)) (20 + 2) e = nI a from (congrFun (z_up_ne _ _ _ (by decide)) e).trans ha]
  refine z_istore dX8_follow_133 (by decide) ?_
  show z_V _ _ _ _ _ _ _ _ _ [_, _, _, _, _, _, _, _, _, _] _ _
  refine z_aload_n dX8_follow_135 rfl rfl ?_
  refine z_getR dX8_follow_136 fl_X8_12 rfl rfl rfl ?_
  refine z_aload_n dX8_follow_139 rfl rfl ?_
  refine z_aload_n dX8_follow_140 rfl rfl ?_
  refine z_getR dX8_follow_141 fl_X8_66 rfl hk.1 hr.2.1 ?_
  refine z_iload dX8_follow_144 rfl ?_
  refine z_iload dX8_follow_146 rfl ?_
  refine z_iload dX8_follow_148 rfl ?_
  refine z_cV1 dX8_follow_150 ml_X8_108 (sp_combine (σ := po (po σ 20 (e + 1)) 20 e) ht (show _ = nI n by rw [po_ne (tr_ne' (by decide) 1), po_ne (tr_ne' (by decide) 1)]; exact hn) h36 (show _ = nI c by rw [po_ne (by decide), po_ne (by decide)]; exact hc) hc30 (by decide) (by decide) ha36 hb36) rfl ⟨by decide, rfl⟩ rfl rfl (Nat.le_of_ble_eq_true rfl) ?_
  refine z_cV0 dX8_follow_153 ml_X8_101 (sp_push (e := e) (Or.inr rfl) (show _ = nI e by rw [cmb_20 (by omega)]; simp [po, z_up]) (by omega)) rfl ⟨by decide, rfl⟩ rfl rfl (Nat.le_of_ble_eq_true rfl) ?_
  refine z_goto (tgt := 225) dX8_follow_156 (by decide) ?_
  exact z_vret dX8_follow_225 rfl rfl rfl
set_option maxRecDepth 100000 in
set_option maxHeartbeats 4000000 in
theorem sp_fl12 {d : Nat} {σ : Nat → Nat → Int32} {τ : Nat → Nat → Int64} {t p n e : Nat} {y : Int32} (ht : t < 4) (hp : p < 40) (hop : σ 2 p = nI 12) {c q : Nat} (hc : σ 19 3 = nI c) (hc30 : c < 30) (he : σ 20 2 = nI (e + 1)) (he6 : e < 6) (hq : σ 22 e = nI q) (hq36 : q < 36) : z_MV M_X8_follow (d + 2) 0 0 [.ref 19, .ref (tr t), .int (nI p), .int y, .ref 1] (124, z_r0, σ, τ) (none) (124, z_r0, cmS (z_up (po σ 20 e) 25 q 1) (nI 2) (nI q), τ) := by
  refine z_MV.of pn_X8_follow (Nat.le_of_ble_eq_true rfl) (by simp [Value.category]) rfl ?_
  show z_V _ _ _ _ _ _ _ _ _ [_, _, _, _, _, _, _, _, _, _] _ _
  have hk := tr_k ht
  have hr := tr_r ht
  refine z_aload dX8_follow_0 rfl ?_
  refine z_getR dX8_follow_2 fl_X8_87 rfl rfl rfl ?_
  refine z_iload_n dX8_follow_5 rfl rfl ?_
  refine z_iald dX8_follow_6 rfl rfl (by omega) hop ?_
  refine z_istore dX8_follow_7 (by decide) ?_
  show z_V _ _ _ _ _ _ _ _ _ [_, _, _, _, _, _, _, _, _, _] _ _
  refine z_aload dX8_follow_9 rfl ?_
  refine z_getR dX8_follow_11 fl_X8_92 rfl rfl rfl ?_
  refine z_iload_n dX8_follow_14 rfl rfl ?_
  refine z_iald dX8_follow_15 rfl rfl (by omega) rfl ?_
  refine z_istore dX8_follow_16 (by decide) ?_
  show z_V _ _ _ _ _ _ _ _ _ [_, _, _, _, _, _, _, _, _, _] _ _
  refine z_iload dX8_follow_18 rfl ?_
  refine z_tableIn (off := 139) (tgt := 159) dX8_follow_20 (by decide) (by decide) (by decide) (by decide) ?_
  refine z_aload_n dX8_follow_159 rfl rfl ?_
  refine z_getR dX8_follow_160 fl_X8_12 rfl rfl rfl ?_
  refine z_cV1 dX8_follow_163 ml_X8_104 (sp_pop (Or.inr rfl) he he6) rfl ⟨by decide, rfl⟩ rfl rfl (Nat.le_of_ble_eq_true rfl) ?_
  rw [show σ (20 + 2) e = nI q from hq]
  refine z_istore dX8_follow_166 (by decide) ?_
  show z_V _ _ _ _ _ _ _ _ _ [_, _, _, _, _, _, _, _, _, _] _ _
  refine z_aload_n dX8_follow_168 rfl rfl ?_
  refine z_getR dX8_follow_169 fl_X8_25 rfl rfl rfl ?_
  refine z_iload dX8_follow_172 rfl ?_
  refine z_iconst (v := 1) dX8_follow_174 (by decide) ?_
  refine z_zast dX8_follow_175 rfl rfl (by omega) (by first | exact Or.inl rfl | exact Or.inr rfl) ?_
  refine z_aload_n dX8_follow_176 rfl rfl ?_
  refine z_iconst (v := nI 2) dX8_follow_177 (by decide) ?_
  refine z_iload dX8_follow_178 rfl ?_
  refine z_cV0 dX8_follow_180 ml_X8_112 (sp_came (show _ = nI c by simp [z_up, hc]) hc30) rfl ⟨by decide, rfl⟩ rfl rfl (Nat.le_of_ble_eq_true rfl) ?_
  refine z_goto (tgt := 225) dX8_follow_183 (by decide) ?_
  exact z_vret dX8_follow_225 rfl rfl rfl
set_option maxRecDepth 100000 in
set_option maxHeartbeats 4000000 in
theorem sp_fl14 {d : Nat} {σ : Nat → Nat → Int32} {τ : Nat → Nat → Int64} {t p n e : Nat} {y : Int32} (ht : t < 4) (hp : p < 40) (hop : σ 2 p = nI 14) {c g q : Nat} (hy : y = 0 ∨ y = 1) (hg : σ (tr t + 6) 5 = nI g) (hg15 : g < 15) (hc : σ 19 3 = nI c) (hc30 : c < 30) (he : σ 20 2 = nI (e + 1)) (he6 : e < 6) (hq : σ 22 e = nI q) (hq36 : q < 36) (hl : ∀ l, l < 6 → ∃ q, q < 36 ∧ σ 21 l = nI q) (hs : ∀ s, s < e → ∃ q, q < 36 ∧ σ 22 s = nI q) : z_MV M_X8_follow (d + 2) 0 0 [.ref 19, .ref (tr t), .int (nI p), .int y, .ref 1] (124, z_r0, σ, τ) (none) (124, z_r0, gdS (po σ 20 e) (tr t) q y (if y = 0 then σ 3 p else nI (p + 1)), τ) := by
  refine z_MV.of pn_X8_follow (Nat.le_of_ble_eq_true rfl) (by simp [Value.category]) rfl ?_
  show z_V _ _ _ _ _ _ _ _ _ [_, _, _, _, _, _, _, _, _, _] _ _
  have hk := tr_k ht
  have hr := tr_r ht
  refine z_aload dX8_follow_0 rfl ?_
  refine z_getR dX8_follow_2 fl_X8_87 rfl rfl rfl ?_
  refine z_iload_n dX8_follow_5 rfl rfl ?_
  refine z_iald dX8_follow_6 rfl rfl (by omega) hop ?_
  refine z_istore dX8_follow_7 (by decide) ?_
  show z_V _ _ _ _ _ _ _ _ _ [_, _, _, _, _, _, _, _, _, _] _ _
  refine z_aload dX8_follow_9 rfl ?_
  refine z_getR dX8_follow_11 fl_X8_92 rfl rfl rfl ?_
  refine z_iload_n dX8_follow_14 rfl rfl ?_
  refine z_iald dX8_follow_15 rfl rfl (by omega) rfl ?_
  refine z_istore dX8_follow_16 (by decide) ?_
  show z_V _ _ _ _ _ _ _ _ _ [_, _, _, _, _, _, _, _, _, _] _ _
  refine z_iload dX8_follow_18 rfl ?_
  refine z_tableIn (off := 166) (tgt := 186) dX8_follow_20 (by decide) (by decide) (by decide) (by decide) ?_
  refine z_aload_n dX8_follow_186 rfl rfl ?_
  refine z_aload_n dX8_follow_187 rfl rfl ?_
  refine z_aload_n dX8_follow_188 rfl rfl ?_
  refine z_getR dX8_follow_189 fl_X8_12 rfl rfl rfl ?_
  refine z_cV1 dX8_follow_192 ml_X8_104 (sp_pop (Or.inr rfl) he he6) rfl ⟨by decide, rfl⟩ rfl rfl (Nat.le_of_ble_eq_true rfl) ?_
  rw [show σ (20 + 2) e = nI q from hq]
  refine z_iload_n dX8_follow_195 rfl rfl ?_
  refine z_iload_n dX8_follow_196 rfl rfl ?_
  refine z_if_eq (tgt := 206) dX8_follow_197 (by decide) (fun c197 => ?_) (fun c197 => ?_)
  · refine z_iload dX8_follow_206 rfl ?_
    refine z_cV0 dX8_follow_208 ml_X8_116 (sp_guard (σ := po σ 20 e) (c := c) (e := e) ht hq36 hy (show _ = nI g by rw [po_ne (tr_ne' (by decide) 6)]; exact hg) hg15 (show _ = nI c by rw [po_ne (by decide)]; exact hc) hc30 (show _ = nI e by simp [po, z_up]) (by omega) (by rw [po_ne (by decide)]; exact hl) (by rw [po_ne (by decide)]; exact hs)) rfl ⟨by decide, rfl⟩ rfl rfl (Nat.le_of_ble_eq_true rfl) ?_
    refine z_goto (tgt := 225) dX8_follow_211 (by decide) ?_
    exact z_vret dX8_follow_225 rfl rfl (by simp [c197])
  · refine z_iload_n dX8_follow_200 rfl rfl ?_
    refine z_iconst (v := 1) dX8_follow_201 (by decide) ?_
    refine z_iadd dX8_follow_202 (nI_1 _) ?_
    refine z_goto (tgt := 208) dX8_follow_203 (by decide) ?_
    refine z_cV0 dX8_follow_208 ml_X8_116 (sp_guard (σ := po σ 20 e) (c := c) (e := e) ht hq36 hy (show _ = nI g by rw [po_ne (tr_ne' (by decide) 6)]; exact hg) hg15 (show _ = nI c by rw [po_ne (by decide)]; exact hc) hc30 (show _ = nI e by simp [po, z_up]) (by omega) (by rw [po_ne (by decide)]; exact hl) (by rw [po_ne (by decide)]; exact hs)) rfl ⟨by decide, rfl⟩ rfl rfl (Nat.le_of_ble_eq_true rfl) ?_
    refine z_goto (tgt := 225) dX8_follow_211 (by decide) ?_
    exact z_vret dX8_follow_225 rfl rfl (by simp [c197])
end
section
/-! PART 29: TraceMaker.follow in one, make -/
def tk (op : Nat) : Nat := ([0, 0, 1, 2, 2, 2, 2, 2, 2, 1, 1, 2, 1, 0, 1, 0] : List Nat).getD op 0
def gv (op : Nat) : Nat := ([1, 1, 0, 1, 1, 1, 1, 1, 1, 2, 0, 2, 0, 0, 0, 0] : List Nat).getD op 0
def flO (σ : Nat → Nat → Int32) (T p : Nat) (y : Int32) (op n e : Nat) : Nat → Nat → Int32 :=
  if op = 0 then pu (shS σ T n 0 (σ 3 p) 0) 20 e (nI (shI σ T n 0 (σ 3 p) 0))
  else if op = 1 then pu σ 20 e (σ 21 (tN (σ 3 p)))
  else if op = 2 then z_up (po σ 20 (e - 1)) 21 (tN (σ 3 p)) (σ 22 (e - 1))
  else if op ≤ 8 then pu (cmb (po (po σ 20 (e - 1)) 20 (e - 2)) T n op (tN (σ 22 (e - 2))) (tN (σ 22 (e - 1)))).2 20 (e - 2) (nI (cmb (po (po σ 20 (e - 1)) 20 (e - 2)) T n op (tN (σ 22 (e - 2))) (tN (σ 22 (e - 1)))).1)
  else if op = 9 then pu (pu (po σ 20 (e - 1)) 20 (e - 1) (σ 22 (e - 1))) 20 e (σ 22 (e - 1))
  else if op = 10 then po σ 20 (e - 1)
  else if op = 11 then pu (pu (po (po σ 20 (e - 1)) 20 (e - 2)) 20 (e - 2) (σ 22 (e - 1))) 20 (e - 1) (σ 22 (e - 2))
  else if op = 12 then cmS (z_up (po σ 20 (e - 1)) 25 (tN (σ 22 (e - 1))) 1) (nI 2) (σ 22 (e - 1))
  else if op = 14 then gdS (po σ 20 (e - 1)) T (tN (σ 22 (e - 1))) y (if y = 0 then σ 3 p else nI (p + 1))
  else σ
def flS (σ : Nat → Nat → Int32) (T p : Nat) (y : Int32) : Nat → Nat → Int32 := flO σ T p y (tN (σ 2 p)) (tN (σ (T + 1) 4)) (tN (σ 20 2))
def flOK (σ : Nat → Nat → Int32) (t p : Nat) (y : Int32) : Prop := p < 40 ∧ (y = 0 ∨ y = 1) ∧ ∃ op n e c g : Nat, σ 2 p = nI op ∧ op ≤ 14 ∧ σ (tr t + 1) 4 = nI n ∧ n < 36 ∧ σ 20 2 = nI e ∧ σ 19 3 = nI c ∧ c < 30 ∧ σ (tr t + 6) 5 = nI g ∧ g < 15 ∧ tk op ≤ e ∧ e ≤ 6 ∧ e - tk op + gv op ≤ 6 ∧ (∀ l, l < 6 → ∃ q, q < 36 ∧ σ 21 l = nI q) ∧ (∀ s, s < e → ∃ q, q < 36 ∧ σ 22 s = nI q) ∧ ((op = 1 ∨ op = 2) → ∃ l, l < 6 ∧ σ 3 p = nI l)
set_option maxHeartbeats 4000000 in
theorem sp_follow {d : Nat} {σ : Nat → Nat → Int32} {τ : Nat → Nat → Int64} {t p : Nat} {y : Int32} (ht : t < 4) (hok : flOK σ t p y) : z_MV M_X8_follow (d + 2) 0 0 [.ref 19, .ref (tr t), .int (nI p), .int y, .ref 1] (124, z_r0, σ, τ) none (124, z_r0, flS σ (tr t) p y, τ) := by
  obtain ⟨hp, hy, op, n, e, c, g, hop, h14, hn, h36, he, hc, hc30, hg, hg15, htk, he6, hgv, hl, hs, hx⟩ := hok
  unfold flS
  rw [hop, hn, he, tN_nI (by omega), tN_nI (by omega), tN_nI (by omega)]
  have bin : 3 ≤ op → op ≤ 8 → ∃ e', e = e' + 2 ∧ ∃ b, b < 36 ∧ σ 22 (e' + 1) = nI b ∧ ∃ a, a < 36 ∧ σ 22 e' = nI a := by
    intro h3 h8
    have h2 : 2 ≤ e := by
      rcases (show op = 3 ∨ op = 4 ∨ op = 5 ∨ op = 6 ∨ op = 7 ∨ op = 8 by omega) with rfl | rfl | rfl | rfl | rfl | rfl <;> exact htk
    obtain ⟨e', rfl⟩ : ∃ e', e = e' + 2 := ⟨e - 2, by omega⟩
    obtain ⟨b, hb, hb2⟩ := hs (e' + 1) (by omega)
    obtain ⟨a, ha, ha2⟩ := hs e' (by omega)
    exact ⟨e', rfl, b, hb, hb2, a, ha, ha2⟩
  have one : tk op = 1 → ∃ e', e = e' + 1 ∧ ∃ b, b < 36 ∧ σ 22 e' = nI b := by
    intro h1
    obtain ⟨e', rfl⟩ : ∃ e', e = e' + 1 := ⟨e - 1, by omega⟩
    obtain ⟨b, hb, hb2⟩ := hs e' (by omega)
    exact ⟨e', rfl, b, hb, hb2⟩
  rcases (show op = 0 ∨ op = 1 ∨ op = 2 ∨ op = 3 ∨ op = 4 ∨ op = 5 ∨ op = 6 ∨ op = 7 ∨ op = 8 ∨ op = 9 ∨ op = 10 ∨ op = 11 ∨ op = 12 ∨ op = 13 ∨ op = 14 by omega) with rfl | rfl | rfl | rfl | rfl | rfl | rfl | rfl | rfl | rfl | rfl | rfl | rfl | rfl | rfl
  · exact sp_fl0 ht hp hop hn h36 he (by have : e - 0 + 1 ≤ 6 := hgv; omega)
  · obtain ⟨l, hl6, hxl⟩ := hx (Or.inl rfl)
    have e1 : flO σ (tr t) p y 1 n e = pu σ 20 e (σ 21 l) := by unfold flO; rw [hxl, tN_nI (by omega)]; rfl
    rw [e1]
    exact sp_fl1 (n := n) ht hp hop he (by have : e - 0 + 1 ≤ 6 := hgv; omega) hxl hl6
  · obtain ⟨l, hl6, hxl⟩ := hx (Or.inr rfl)
    obtain ⟨e', rfl, b, hb, hb2⟩ := one rfl
    have e1 : flO σ (tr t) p y 2 n (e' + 1) = z_up (po σ 20 e') 21 l (σ 22 e') := by unfold flO; rw [hxl, tN_nI (by omega)]; rfl
    rw [e1]
    exact sp_fl2 (n := n) ht hp hop he (by omega) hxl hl6
  · obtain ⟨e', rfl, b, hb, hb2, a, ha, ha2⟩ := bin (by decide) (by decide)
    have e1 : flO σ (tr t) p y 3 n (e' + 2) = pu (cmb (po (po σ 20 (e' + 1)) 20 e') (tr t) n 3 a b).2 20 e' (nI (cmb (po (po σ 20 (e' + 1)) 20 e') (tr t) n 3 a b).1) := by
      unfold flO
      rw [show e' + 2 - 2 = e' from rfl, show e' + 2 - 1 = e' + 1 from rfl, ha2, hb2, tN_nI (show a < 2 ^ 31 by omega), tN_nI (show b < 2 ^ 31 by omega)]
      rfl
    rw [e1]
    exact sp_fl3 ht hp hop hn h36 hc hc30 he (by omega) hb2 hb ha2 ha
  · obtain ⟨e', rfl, b, hb, hb2, a, ha, ha2⟩ := bin (by decide) (by decide)
    have e1 : flO σ (tr t) p y 4 n (e' + 2) = pu (cmb (po (po σ 20 (e' + 1)) 20 e') (tr t) n 4 a b).2 20 e' (nI (cmb (po (po σ 20 (e' + 1)) 20 e') (tr t) n 4 a b).1) := by
      unfold flO
      rw [show e' + 2 - 2 = e' from rfl, show e' + 2 - 1 = e' + 1 from rfl, ha2, hb2, tN_nI (show a < 2 ^ 31 by omega), tN_nI (show b < 2 ^ 31 by omega)]
      rfl
    rw [e1]
    exact sp_fl4 ht hp hop hn h36 hc hc30 he (by omega) hb2 hb ha2 ha
  · obtain ⟨e', rfl, b, hb, hb2, a, ha, ha2⟩ := bin (by decide) (by decide)
    have e1 : flO σ (tr t) p y 5 n (e' + 2) = pu (cmb (po (po σ 20 (e' + 1)) 20 e') (tr t) n 5 a b).2 20 e' (nI (cmb (po (po σ 20 (e' + 1)) 20 e') (tr t) n 5 a b).1) := by
      unfold flO
      rw [show e' + 2 - 2 = e' from rfl, show e' + 2 - 1 = e' + 1 from rfl, ha2, hb2, tN_nI (show a < 2 ^ 31 by omega), tN_nI (show b < 2 ^ 31 by omega)]
      rfl
    rw [e1]
    exact sp_fl5 ht hp hop hn h36 hc hc30 he (by omega) hb2 hb ha2 ha
  · obtain ⟨e', rfl, b, hb, hb2, a, ha, ha2⟩ := bin (by decide) (by decide)
    have e1 : flO σ (tr t) p y 6 n (e' + 2) = pu (cmb (po (po σ 20 (e' + 1)) 20 e') (tr t) n 6 a b).2 20 e' (nI (cmb (po (po σ 20 (e' + 1)) 20 e') (tr t) n 6 a b).1) := by
      unfold flO
      rw [show e' + 2 - 2 = e' from rfl, show e' + 2 - 1 = e' + 1 from rfl, ha2, hb2, tN_nI (show a < 2 ^ 31 by omega), tN_nI (show b < 2 ^ 31 by omega)]
      rfl
    rw [e1]
    exact sp_fl6 ht hp hop hn h36 hc hc30 he (by omega) hb2 hb ha2 ha
  · obtain ⟨e', rfl, b, hb, hb2, a, ha, ha2⟩ := bin (by decide) (by decide)
    have e1 : flO σ (tr t) p y 7 n (e' + 2) = pu (cmb (po (po σ 20 (e' + 1)) 20 e') (tr t) n 7 a b).2 20 e' (nI (cmb (po (po σ 20 (e' + 1)) 20 e') (tr t) n 7 a b).1) := by
      unfold flO
      rw [show e' + 2 - 2 = e' from rfl, show e' + 2 - 1 = e' + 1 from rfl, ha2, hb2, tN_nI (show a < 2 ^ 31 by omega), tN_nI (show b < 2 ^ 31 by omega)]
      rfl
    rw [e1]
    exact sp_fl7 ht hp hop hn h36 hc hc30 he (by omega) hb2 hb ha2 ha
  · obtain ⟨e', rfl, b, hb, hb2, a, ha, ha2⟩ := bin (by decide) (by decide)
    have e1 : flO σ (tr t) p y 8 n (e' + 2) = pu (cmb (po (po σ 20 (e' + 1)) 20 e') (tr t) n 8 a b).2 20 e' (nI (cmb (po (po σ 20 (e' + 1)) 20 e') (tr t) n 8 a b).1) := by
      unfold flO
      rw [show e' + 2 - 2 = e' from rfl, show e' + 2 - 1 = e' + 1 from rfl, ha2, hb2, tN_nI (show a < 2 ^ 31 by omega), tN_nI (show b < 2 ^ 31 by omega)]
      rfl
    rw [e1]
    exact sp_fl8 ht hp hop hn h36 hc hc30 he (by omega) hb2 hb ha2 ha
  · obtain ⟨e', rfl, b, hb, hb2⟩ := one rfl
    exact sp_fl9 (n := n) ht hp hop he (by have : e' + 1 - 1 + 2 ≤ 6 := hgv; omega)
  · obtain ⟨e', rfl, b, hb, hb2⟩ := one rfl
    exact sp_fl10 (n := n) ht hp hop he (by omega)
  · have h2 : 2 ≤ e := htk
    obtain ⟨e', rfl⟩ : ∃ e', e = e' + 2 := ⟨e - 2, by omega⟩
    have e1 : flO σ (tr t) p y 11 n (e' + 2) = pu (pu (po (po σ 20 (e' + 1)) 20 e') 20 e' (σ 22 (e' + 1))) 20 (e' + 1) (po σ 20 (e' + 1) 22 e') := by
      rw [po_ne (by decide)]
      rfl
    rw [e1]
    exact sp_fl11 (n := n) ht hp hop he (by omega)
  · obtain ⟨e', rfl, b, hb, hb2⟩ := one rfl
    have e1 : flO σ (tr t) p y 12 n (e' + 1) = cmS (z_up (po σ 20 e') 25 b 1) (nI 2) (nI b) := by
      unfold flO
      rw [show e' + 1 - 1 = e' from rfl, hb2, tN_nI (show b < 2 ^ 31 by omega)]
      rfl
    rw [e1]
    exact sp_fl12 (n := n) ht hp hop hc hc30 he (by omega) hb2 hb
  · exact sp_fl13 (n := n) (e := e) ht hp hop
  · obtain ⟨e', rfl, b, hb, hb2⟩ := one rfl
    have e1 : flO σ (tr t) p y 14 n (e' + 1) = gdS (po σ 20 e') (tr t) b y (if y = 0 then σ 3 p else nI (p + 1)) := by
      unfold flO
      rw [show e' + 1 - 1 = e' from rfl, hb2, tN_nI (show b < 2 ^ 31 by omega)]
      rfl
    rw [e1]
    exact sp_fl14 (n := n) ht hp hop hy hg hg15 hc hc30 he (by omega) hb2 hb hl (fun s h => hs s (by omega))
def mkF (σ : Nat → Nat → Int32) (T : Nat) : Nat → Nat → Nat → Int32
  | 0 => σ
  | r + 1 => flS (mkF σ T r) T (tN (σ 17 r)) (σ 18 r)
theorem gdS_lo {σ : Nat → Nat → Int32} {t v b : Nat} {y w : Int32} (h : b < 28 ∧ b ≠ 19 ∧ b ≠ 23 ∧ b ≠ 24 ∧ b ≠ 25) : gdS σ (tr t) v y w b = σ b := by
  unfold gdS
  split
  · rfl
  · split
    · rfl
    · unfold gdN
      rw [mkN_ne _ _ _ h.2.2.2.2, mkN_ne _ _ _ h.2.2.2.2]
      unfold gd3
      rw [z_up_ne _ _ _ h.2.2.2.2, cmS_ne ⟨h.2.1, h.2.2.1, h.2.2.2.1⟩, putG_lo h.1]
theorem cmb_lo {σ : Nat → Nat → Int32} {t n op a b c : Nat} (h : c < 28 ∧ c ≠ 19 ∧ c ≠ 23 ∧ c ≠ 24) : (cmb σ (tr t) n op a b).2 c = σ c := by
  unfold cmb
  split
  · exact shS_lo h.1
  · show (if _ then σ else _) c = _
    split
    · rfl
    · rw [cmS_ne h.2]
      unfold shr
      rw [z_up_ne _ _ _ (tr_ne h.1 1), z_up_ne _ _ _ (tr_ne h.1 5), z_up_ne _ _ _ (tr_ne h.1 4), z_up_ne _ _ _ (tr_ne h.1 3), z_up_ne _ _ _ (tr_ne h.1 2)]
theorem pu_ne {σ : Nat → Nat → Int32} {f e b : Nat} {x : Int32} (h : b ≠ f ∧ b ≠ f + 2) : pu σ f e x b = σ b := by
  unfold pu
  rw [z_up_ne _ _ _ h.1, z_up_ne _ _ _ h.2]
theorem flS_lo {σ : Nat → Nat → Int32} {t p b : Nat} {y : Int32} (h : b < 19) : flS σ (tr t) p y b = σ b := by
  unfold flS flO
  have e1 : ∀ {σ : Nat → Nat → Int32} {e : Nat} {x : Int32}, pu σ 20 e x b = σ b := fun {σ e x} => pu_ne (by omega)
  have e2 : ∀ {σ : Nat → Nat → Int32} {e : Nat}, po σ 20 e b = σ b := fun {σ e} => po_ne (by omega)
  split
  · rw [e1, shS_lo (by omega)]
  · split
    · rw [e1]
    · split
      · rw [z_up_ne _ _ _ (by omega), e2]
      · split
        · rw [e1, cmb_lo (by omega), e2, e2]
        · split
          · rw [e1, e1, e2]
          · split
            · rw [e2]
            · split
              · rw [e1, e1, e2, e2]
              · split
                · rw [cmS_ne (by omega), z_up_ne _ _ _ (by omega), e2]
                · split
                  · rw [gdS_lo (by omega), e2]
                  · rfl
theorem mkF_lo {σ : Nat → Nat → Int32} {t r b : Nat} (h : b < 19) : mkF σ (tr t) r b = σ b := by
  induction r with
  | zero => rfl
  | succ r ih => simp only [mkF]; rw [flS_lo h, ih]
def rsA (σ : Nat → Nat → Int32) (T : Nat) (x : Int32) : Nat → Nat → Int32 := z_up (z_up (z_up (z_up (z_up (rsV σ T 6) (T + 6) 5 0) T 3 x) T 4 0) T 9 0) T 5 0
def nvS (σ : Nat → Nat → Int32) (T : Nat) : Nat → Nat → Nat → Int32
  | 0 => σ
  | i + 1 => z_up (z_up (nvS σ T i) (T + 12) i (σ 21 i)) 25 (tN (σ 21 i)) 1
theorem nvS_ne {σ : Nat → Nat → Int32} {T i b : Nat} (h : b ≠ T + 12 ∧ b ≠ 25) : nvS σ T i b = σ b := by
  induction i with
  | zero => rfl
  | succ i ih => simp only [nvS]; rw [z_up_ne _ _ _ h.2, z_up_ne _ _ _ h.1, ih]
theorem mpS_ne {T k b : Nat} (h : b ≠ 25) : ∀ (σ : Nat → Nat → Int32), mpS T k σ b = σ b := by
  induction k with
  | zero => intro σ; rfl
  | succ k ih => intro σ; simp only [mpS]; rw [ih, mpT_ne _ _ _ h]
/-- what a recording leaves to the maker's last part -/
def mkOK (σ : Nat → Nat → Int32) (t n c : Nat) : Prop := σ (tr t + 1) 4 = nI n ∧ n ≤ 36 ∧ okP σ (tr t) n ∧ (∀ v, v < n → σ (tr t + 2) v = 1 → v < 6) ∧ (∀ l, l < 6 → ∃ q, q < 36 ∧ σ 21 l = nI q) ∧ σ 19 3 = nI c ∧ c ≤ 30 ∧ (∀ i, i < c → ∃ q, q < 36 ∧ σ 24 i = nI q) ∧ σ (tr t) 9 = nI 0 ∧ σ (tr t) 4 = nI 0
/-- the maker's last part -/
def mkE (σ : Nat → Nat → Int32) (t n c : Nat) : Nat → Nat → Int32 := soS (tr t) c 0 (mcS (mpS (tr t) n (nvS σ (tr t) 6)) (tr t) n)
def mk0 (σ : Nat → Nat → Int32) (t : Nat) : Nat → Nat → Int32 := fg4 (rsA σ (tr t) (σ 16 2)) 36
theorem rsV_lo {σ : Nat → Nat → Int32} {t i b : Nat} (h : b < 28) : rsV σ (tr t) i b = σ b := by
  induction i with
  | zero => simp only [rsV]; rw [z_up_ne _ _ _ (tr_ne h 1)]
  | succ i ih =>
    simp only [rsV]
    unfold shr
    rw [z_up_ne _ _ _ (tr_ne h 1), z_up_ne _ _ _ (tr_ne h 5), z_up_ne _ _ _ (tr_ne h 4), z_up_ne _ _ _ (tr_ne h 3), z_up_ne _ _ _ (tr_ne h 2), ih]
theorem rsA_lo {σ : Nat → Nat → Int32} {t b : Nat} {x : Int32} (h : b < 28) : rsA σ (tr t) x b = σ b := by
  unfold rsA
  rw [z_up_ne _ _ _ (tr_ne0 h), z_up_ne _ _ _ (tr_ne0 h), z_up_ne _ _ _ (tr_ne0 h), z_up_ne _ _ _ (tr_ne0 h), z_up_ne _ _ _ (tr_ne h 6), rsV_lo h]
theorem fg4_lo {σ : Nat → Nat → Int32} {i b : Nat} (h : b ≠ 19 ∧ b ≠ 20 ∧ b ≠ 21 ∧ b ≠ 25) : fg4 σ i b = σ b := by
  unfold fg4
  rw [rowF_ne _ _ _ h.2.2.2]
  unfold fg3
  rw [z_up_ne _ _ _ h.1]
  unfold fg2
  rw [rowF_ne _ _ _ h.2.2.1]
  unfold fg1 fillR z_row
  rw [z_up_ne _ _ _ h.2.1, z_up_ne _ _ _ h.2.1, if_neg h.2.2.1]
theorem mk0_lo {σ : Nat → Nat → Int32} {t b : Nat} (h : b < 19) : mk0 σ t b = σ b := by
  unfold mk0
  rw [fg4_lo (by omega), rsA_lo (by omega)]
theorem mkOK_sI {σ : Nat → Nat → Int32} {t n c : Nat} (h : mkOK σ t n c) : sI (mcS (mpS (tr t) n (nvS σ (tr t) 6)) (tr t) n) t c 0 := by
  obtain ⟨h1, h2, h3, h4, h5, h6, h7, h8, h9, h10⟩ := h
  have e1 : ∀ b, b ≠ 25 → b ≠ 26 → b ≠ tr t + 12 → mcS (mpS (tr t) n (nvS σ (tr t) 6)) (tr t) n b = σ b := fun b a1 a2 a3 => by
    rw [mcS_ne _ _ _ a2, mpS_ne a1, nvS_ne ⟨a3, a1⟩]
  refine ⟨by rw [e1 19 (by decide) (by decide) (tr_ne (by decide) 12)]; exact h6, h7, by rw [e1 24 (by decide) (by decide) (tr_ne (by decide) 12)]; exact h8, ⟨0, Nat.le_refl 0, ?_⟩, ⟨0, Nat.le_refl 0, ?_⟩⟩
  · rw [e1 (tr t) (tr_ne0' (by decide)) (tr_ne0' (by decide)) (by omega)]; exact h9
  · rw [e1 (tr t) (tr_ne0' (by decide)) (tr_ne0' (by decide)) (by omega)]; exact h10
set_option maxRecDepth 100000 in
set_option maxHeartbeats 4000000 in
theorem make_loop2 {d : Nat} {σ : Nat → Nat → Int32} {τ : Nat → Nat → Int64} {t n c : Nat} {w5 : Option Value} (ht : t < 4) (hk0 : mkOK σ t n c) : ∀ (m i : Nat), i ≤ 6 → 6 - i < m → z_V M_X8_make (d + 3) 0 0 0 0 none (124, z_r0, mkE σ t n c, τ) 57 [some (.ref 19), some (.ref (tr t)), some (.ref 1), some (.ref 16), some (.int (nI i)), w5] [] (124, z_r0, nvS σ (tr t) i, τ) := by
  have hk := tr_k ht
  have hr := tr_r ht
  intro m
  induction m with
  | zero => intro i _ h; omega
  | succ m ih =>
    intro i hv1 hv2
    refine z_iload dX8_make_57 rfl ?_
    refine z_bipush (v := nI 6) dX8_make_59 (by decide) ?_
    refine z_icmp_ge (tgt := 103) dX8_make_61 (by decide) (fun c61 => ?_) (fun c61 => ?_)
    · have e0 : 6 = i := by
        rcases Nat.lt_or_ge i 6 with q | q
        · exact absurd c61 (nI_ge q (by omega))
        · omega
      subst e0
      refine z_aload_n dX8_make_103 rfl rfl ?_
      refine z_aload_n dX8_make_104 rfl rfl ?_
      refine z_getR dX8_make_105 fl_X8_66 rfl hk.1 hr.2.1 ?_
      refine z_cV0 dX8_make_108 ml_X8_70 (sp_markParts ht (show _ = nI n by rw [nvS_ne ⟨by omega, tr_ne' (by decide) 1⟩]; exact hk0.1) hk0.2.1 (by unfold okP; rw [nvS_ne ⟨by omega, tr_ne' (by decide) 2⟩, nvS_ne ⟨by omega, tr_ne' (by decide) 3⟩, nvS_ne ⟨by omega, tr_ne' (by decide) 4⟩]; exact hk0.2.2.1)) rfl ⟨by decide, rfl⟩ rfl rfl (Nat.le_of_ble_eq_true rfl) ?_
      refine z_aload_n dX8_make_111 rfl rfl ?_
      refine z_aload_n dX8_make_112 rfl rfl ?_
      refine z_cV0 dX8_make_113 ml_X8_74 (sp_markConstant ht (show _ = nI n by rw [mpS_ne (tr_ne' (by decide) 1), nvS_ne ⟨by omega, tr_ne' (by decide) 1⟩]; exact hk0.1) hk0.2.1 (by unfold okP; rw [mpS_ne (tr_ne' (by decide) 2), mpS_ne (tr_ne' (by decide) 3), mpS_ne (tr_ne' (by decide) 4), nvS_ne ⟨by omega, tr_ne' (by decide) 2⟩, nvS_ne ⟨by omega, tr_ne' (by decide) 3⟩, nvS_ne ⟨by omega, tr_ne' (by decide) 4⟩]; exact hk0.2.2.1) (by rw [mpS_ne (tr_ne' (by decide) 2), nvS_ne ⟨by omega, tr_ne' (by decide) 2⟩]; exact hk0.2.2.2.1)) rfl ⟨by decide, rfl⟩ rfl rfl (Nat.le_of_ble_eq_true rfl) ?_
      refine z_aload_n dX8_make_116 rfl rfl ?_
      refine z_aload_n dX8_make_117 rfl rfl ?_
      refine z_cV0 dX8_make_118 ml_X8_78 (sp_sortOut ht (mkOK_sI hk0)) rfl ⟨by decide, rfl⟩ rfl rfl (Nat.le_of_ble_eq_true rfl) ?_
      exact z_vret dX8_make_121 rfl rfl rfl
    · have hlt : i < 6 := by
        rcases Nat.lt_or_ge i 6 with q | q
        · exact q
        · exact absurd (nI_le q (by omega)) c61
      refine z_aload_n dX8_make_64 rfl rfl ?_
      refine z_getR dX8_make_65 fl_X8_60 rfl hk.1 hr.2.2.2.1 ?_
      refine z_iload dX8_make_68 rfl ?_
      refine z_aload_n dX8_make_70 rfl rfl ?_
      refine z_getR dX8_make_71 fl_X8_12 rfl rfl rfl ?_
      refine z_getR dX8_make_74 fl_X8_63 rfl rfl rfl ?_
      refine z_iload dX8_make_77 rfl ?_
      obtain ⟨q, hq, hpq⟩ := hk0.2.2.2.2.1 i hlt
      refine z_iald dX8_make_79 rfl rfl (by omega) (show _ = nI q by rw [nvS_ne ⟨tr_ne (by decide) 12, by decide⟩]; exact hpq) ?_
      refine z_iast dX8_make_80 hk.2.2.2.2.2.2.2.2.2.2.2.2.1 rfl (by omega) ?_
      refine z_aload_n dX8_make_81 rfl rfl ?_
      refine z_getR dX8_make_82 fl_X8_25 rfl rfl rfl ?_
      refine z_aload_n dX8_make_85 rfl rfl ?_
      refine z_getR dX8_make_86 fl_X8_12 rfl rfl rfl ?_
      refine z_getR dX8_make_89 fl_X8_63 rfl rfl rfl ?_
      refine z_iload dX8_make_92 rfl ?_
      refine z_iald dX8_make_94 rfl rfl (by omega) (show _ = nI q by rw [z_up_ne _ _ _ (tr_ne (by decide) 12), nvS_ne ⟨tr_ne (by decide) 12, by decide⟩]; exact hpq) ?_
      refine z_iconst (v := 1) dX8_make_95 (by decide) ?_
      refine z_zast dX8_make_96 rfl rfl (by omega) (by first | exact Or.inl rfl | exact Or.inr rfl) ?_
      refine z_iinc dX8_make_97 rfl (nI_i _) (by decide) ?_
      show z_V _ _ _ _ _ _ _ _ _ [_, _, _, _, _, _] _ _
      refine z_goto (tgt := 57) dX8_make_100 (by decide) ?_
      refine z_Vx (σ' := nvS σ (tr t) (i + 1)) ?_ (ih (i + 1) (by omega) (by omega))
      show z_up (z_up (nvS σ (tr t) i) (tr t + 12) i (σ 21 i)) 25 (tN (σ 21 i)) 1 = _
      rw [hpq, tN_nI (by omega)]
set_option maxRecDepth 100000 in
set_option maxHeartbeats 4000000 in
theorem make_loop1 {d : Nat} {σ : Nat → Nat → Int32} {τ : Nat → Nat → Int64} {t n c len : Nat} (ht : t < 4) (hln : σ 16 3 = nI len) (hl30 : len ≤ 30) (hpt : ∀ r, r < len → ∃ q, q < 40 ∧ σ 17 r = nI q) (hfl : ∀ r, r < len → flOK (mkF σ (tr t) r) t (tN (σ 17 r)) (σ 18 r)) (hk0 : mkOK (mkF σ (tr t) len) t n c) : ∀ (m i : Nat) (w5 : Option Value), i ≤ len → len - i < m → z_V M_X8_make (d + 3) 0 0 0 0 none (124, z_r0, mkE (mkF σ (tr t) len) t n c, τ) 15 [some (.ref 19), some (.ref (tr t)), some (.ref 1), some (.ref 16), some (.int (nI i)), w5] [] (124, z_r0, mkF σ (tr t) i, τ) := by
  have hk := tr_k ht
  have hr := tr_r ht
  intro m
  induction m with
  | zero => intro i w5 _ h; omega
  | succ m ih =>
    intro i w5 hv1 hv2
    refine z_iload dX8_make_15 rfl ?_
    refine z_aload_n dX8_make_17 rfl rfl ?_
    refine z_getI dX8_make_18 fl_X8_47 rfl rfl (show _ = nI len by rw [mkF_lo (by decide)]; exact hln) ?_
    refine z_icmp_ge (tgt := 54) dX8_make_21 (by decide) (fun c21 => ?_) (fun c21 => ?_)
    · have e0 : len = i := by
        rcases Nat.lt_or_ge i len with q | q
        · exact absurd c21 (nI_ge q (by omega))
        · omega
      subst e0
      refine z_iconst (v := 0) dX8_make_54 (by decide) ?_
      refine z_istore dX8_make_55 (by decide) ?_
      show z_V _ _ _ _ _ _ _ _ _ [_, _, _, _, _, _] _ _
      exact make_loop2 ht hk0 7 0 (by omega) (by omega)
    · have hlt : i < len := by
        rcases Nat.lt_or_ge i len with q | q
        · exact q
        · exact absurd (nI_le q (by omega)) c21
      refine z_aload_n dX8_make_24 rfl rfl ?_
      refine z_getR dX8_make_25 fl_X8_50 rfl rfl rfl ?_
      refine z_iload dX8_make_28 rfl ?_
      obtain ⟨q, hq, hpq⟩ := hpt i hlt
      refine z_iald dX8_make_30 rfl rfl (by omega) (show _ = nI q by rw [mkF_lo (by decide)]; exact hpq) ?_
      refine z_istore dX8_make_31 (by decide) ?_
      show z_V _ _ _ _ _ _ _ _ _ [_, _, _, _, _, _] _ _
      refine z_aload_n dX8_make_33 rfl rfl ?_
      refine z_aload_n dX8_make_34 rfl rfl ?_
      refine z_iload dX8_make_35 rfl ?_
      refine z_aload_n dX8_make_37 rfl rfl ?_
      refine z_getR dX8_make_38 fl_X8_53 rfl rfl rfl ?_
      refine z_iload dX8_make_41 rfl ?_
      refine z_zald dX8_make_43 rfl rfl (by omega) (show _ = σ 18 i by rw [mkF_lo (by decide)]) ?_
      refine z_aload_n dX8_make_44 rfl rfl ?_
      have hok := hfl i hlt
      rw [hpq, tN_nI (by omega)] at hok
      refine z_cV0 dX8_make_45 ml_X8_56 (sp_follow ht hok) rfl ⟨by decide, rfl⟩ rfl rfl (Nat.le_of_ble_eq_true rfl) ?_
      refine z_iinc dX8_make_48 rfl (nI_i _) (by decide) ?_
      show z_V _ _ _ _ _ _ _ _ _ [_, _, _, _, _, _] _ _
      refine z_goto (tgt := 15) dX8_make_51 (by decide) ?_
      refine z_Vx (σ' := mkF σ (tr t) (i + 1)) ?_ (ih (i + 1) (some (.int (nI q))) (by omega) (by omega))
      show flS (mkF σ (tr t) i) (tr t) (tN (σ 17 i)) (σ 18 i) = _
      rw [hpq, tN_nI (by omega)]
set_option maxRecDepth 100000 in
set_option maxHeartbeats 4000000 in
theorem sp_make {d : Nat} {σ : Nat → Nat → Int32} {τ : Nat → Nat → Int64} {t n c len : Nat} (ht : t < 4) (hln : σ 16 3 = nI len) (hl30 : len ≤ 30) (hpt : ∀ r, r < len → ∃ q, q < 40 ∧ σ 17 r = nI q) (hfl : ∀ r, r < len → flOK (mkF (mk0 σ t) (tr t) r) t (tN (σ 17 r)) (σ 18 r)) (hk0 : mkOK (mkF (mk0 σ t) (tr t) len) t n c) : z_MV M_X8_make (d + 3) 0 0 [.ref 19, .ref (tr t), .ref 1, .ref 16] (124, z_r0, σ, τ) (none) (124, z_r0, mkE (mkF (mk0 σ t) (tr t) len) t n c, τ) := by
  refine z_MV.of pn_X8_make (Nat.le_of_ble_eq_true rfl) (by simp [Value.category]) rfl ?_
  show z_V _ _ _ _ _ _ _ _ _ [_, _, _, _, _, _] _ _
  have hk := tr_k ht
  have hr := tr_r ht
  refine z_aload_n dX8_make_0 rfl rfl ?_
  refine z_aload_n dX8_make_1 rfl rfl ?_
  refine z_getI dX8_make_2 fl_X8_32 rfl rfl rfl ?_
  refine z_cV0 dX8_make_5 ml_X8_38 (sp_resetAt ht) hk.1 ⟨by decide, rfl⟩ rfl rfl (Nat.le_of_ble_eq_true rfl) ?_
  refine z_aload_n dX8_make_8 rfl rfl ?_
  refine z_cV0 dX8_make_9 ml_X8_44 (sp_forgetLast) rfl ⟨by decide, rfl⟩ rfl rfl (Nat.le_of_ble_eq_true rfl) ?_
  refine z_iconst (v := 0) dX8_make_12 (by decide) ?_
  refine z_istore dX8_make_13 (by decide) ?_
  show z_V _ _ _ _ _ _ _ _ _ [_, _, _, _, _, _] _ _
  exact make_loop1 (σ := mk0 σ t) ht (by rw [mk0_lo (by decide)]; exact hln) hl30 (by rw [mk0_lo (by decide)]; exact hpt) (by rw [mk0_lo (by decide), mk0_lo (by decide)]; exact hfl) hk0 (len + 1) 0 none (Nat.zero_le _) (by omega)
end
section
theorem nI_nm1 {n : Nat} (h : n < 2 ^ 31) : ¬ nI n = -1 := fun q => absurd (show nI n < 0 by rw [q]; decide) (nI_pos h)
end
section
/-! PART 32: Code: isInstruction, reach, leadsOnWell, isSound -/
theorem nI_ne {a b : Nat} (ha : a < 2 ^ 31) (hb : b < 2 ^ 31) (h : a ≠ b) : ¬ nI a = nI b := fun q => h ((nI_eq ha hb).mp q)
def cnt (f : Nat → Int32) : Nat → Nat
  | 0 => 0
  | i + 1 => cnt f i + (if f i = -1 then 0 else 1)
theorem cnt_le (f : Nat → Int32) (n : Nat) : cnt f n ≤ n := by
  induction n with
  | zero => simp [cnt]
  | succ n ih => simp only [cnt]; split <;> omega
theorem cnt_lt {f : Nat → Int32} {n a : Nat} (ha : a < n) (h : f a = -1) : cnt f n < n := by
  induction n with
  | zero => omega
  | succ n ih =>
    simp only [cnt]
    have := cnt_le f n
    by_cases han : a = n
    · subst han; rw [if_pos h]; omega
    · have := ih (by omega)
      split <;> omega
theorem cnt_same {f g : Nat → Int32} {n : Nat} (h : ∀ i, i < n → f i = g i) : cnt f n = cnt g n := by
  induction n with
  | zero => rfl
  | succ n ih => simp only [cnt]; rw [ih (fun i hi => h i (by omega)), h n (by omega)]
theorem cnt_up {f : Nat → Int32} {n a : Nat} {x : Int32} (ha : a < n) (h : f a = -1) (hx : ¬ x = -1) : cnt (va_up f a x) n = cnt f n + 1 := by
  induction n with
  | zero => omega
  | succ n ih =>
    simp only [cnt]
    by_cases han : a = n
    · subst han
      rw [cnt_same (g := f) (fun i hi => by simp only [va_up]; rw [if_neg (by omega)])]
      simp [va_up, hx, h]
    · rw [ih (by omega)]
      have : va_up f a x n = f n := by simp only [va_up]; rw [if_neg (by omega)]
      rw [this]
      omega
def rch (σ : Nat → Nat → Int32) (a : Nat) (q : Int32) : Int32 × (Nat → Nat → Int32) :=
  if tN (σ 1 2) ≤ a then (0, σ) else if σ 4 a = -1 then (1, z_up (z_up (z_up σ 4 a q) 5 (tN (σ 1 5)) (nI a)) 1 5 (nI (tN (σ 1 5) + 1))) else (b2i (σ 4 a = q), σ)
/-- the code has n places, as many are marked as are told -/
def cI (σ : Nat → Nat → Int32) (n : Nat) : Prop := n ≤ 40 ∧ σ 1 2 = nI n ∧ σ 1 5 = nI (cnt (σ 4) n)
theorem cI_rch {σ : Nat → Nat → Int32} {n a q : Nat} (hq : q < 100) (h : cI σ n) : cI (rch σ a (nI q)).2 n := by
  obtain ⟨h1, h2, h3⟩ := h
  have hle := cnt_le (σ 4) n
  unfold rch
  rw [h2, h3, tN_nI (by omega), tN_nI (by omega)]
  split
  · exact ⟨h1, h2, h3⟩
  · split
    next hna hm =>
      refine ⟨h1, by simp [z_up, h2], ?_⟩
      have e4 : z_up (z_up (z_up σ 4 a (nI q)) 5 (cnt (σ 4) n) (nI a)) 1 5 (nI (cnt (σ 4) n + 1)) 4 = va_up (σ 4) a (nI q) := by
        rw [z_up_ne _ _ _ (by decide), z_up_ne _ _ _ (by decide), z_up_row]
      show z_up (z_up (z_up σ 4 a (nI q)) 5 (cnt (σ 4) n) (nI a)) 1 5 (nI (cnt (σ 4) n + 1)) 1 5 = nI (cnt (z_up (z_up (z_up σ 4 a (nI q)) 5 (cnt (σ 4) n) (nI a)) 1 5 (nI (cnt (σ 4) n + 1)) 4) n)
      rw [e4, cnt_up (by omega) hm (nI_nm1 (by omega)), z_up_s]
    next => exact ⟨h1, h2, h3⟩
theorem rch_lo {σ : Nat → Nat → Int32} {a b : Nat} {q : Int32} (h : b ≠ 4 ∧ b ≠ 5 ∧ b ≠ 1) : (rch σ a q).2 b = σ b := by
  unfold rch
  split
  · rfl
  · split
    · show z_up _ _ _ _ b = _
      rw [z_up_ne _ _ _ h.2.2, z_up_ne _ _ _ h.2.1, z_up_ne _ _ _ h.1]
    · rfl
theorem rch_01 {σ : Nat → Nat → Int32} {a : Nat} {q : Int32} : (rch σ a q).1 = 0 ∨ (rch σ a q).1 = 1 := by
  unfold rch
  split
  · exact Or.inl rfl
  · split
    · exact Or.inr rfl
    · exact b2i_01 _
set_option maxRecDepth 100000 in
set_option maxHeartbeats 4000000 in
theorem sp_reach {d : Nat} {σ : Nat → Nat → Int32} {τ : Nat → Nat → Int64} {n a : Nat} {q : Int32} (h : cI σ n) (ha : a ≤ 40) : z_MV M_X0_reach d 0 0 [.ref 1, .int (nI a), .int q] (124, z_r0, σ, τ) (some (.int (rch σ a q).1)) (124, z_r0, (rch σ a q).2, τ) := by
  refine z_MV.of pn_X0_reach (Nat.le_of_ble_eq_true rfl) (by simp [Value.category]) rfl ?_
  show z_V _ _ _ _ _ _ _ _ _ [_, _, _] _ _
  have h40 := h.1
  refine z_iload_n dX0_reach_0 rfl rfl ?_
  refine z_aload_n dX0_reach_1 rfl rfl ?_
  refine z_getI dX0_reach_2 fl_X0_24 rfl rfl h.2.1 ?_
  refine z_icmp_lt (tgt := 10) dX0_reach_5 (by decide) (fun c5 => ?_) (fun c5 => ?_)
  · have han : a < n := (nI_ltI (by omega) (by omega)).mp c5
    refine z_aload_n dX0_reach_10 rfl rfl ?_
    refine z_getR dX0_reach_11 fl_X0_18 rfl rfl rfl ?_
    refine z_iload_n dX0_reach_14 rfl rfl ?_
    refine z_iald dX0_reach_15 rfl rfl (by omega) rfl ?_
    refine z_iconst (v := (-1)) dX0_reach_16 (by decide) ?_
    refine z_icmp_ne (tgt := 47) dX0_reach_17 (by decide) (fun c17 => ?_) (fun c17 => ?_)
    · refine z_aload_n dX0_reach_47 rfl rfl ?_
      refine z_getR dX0_reach_48 fl_X0_18 rfl rfl rfl ?_
      refine z_iload_n dX0_reach_51 rfl rfl ?_
      refine z_iald dX0_reach_52 rfl rfl (by omega) rfl ?_
      refine z_iload_n dX0_reach_53 rfl rfl ?_
      refine z_icmp_ne (tgt := 61) dX0_reach_54 (by decide) (fun c54 => ?_) (fun c54 => ?_)
      · refine z_iconst (v := 0) dX0_reach_61 (by decide) ?_
        exact z_zret dX0_reach_62 rfl (by first | exact Or.inl rfl | exact Or.inr rfl) (by simp [rch, h.2.1, tN_nI (show n < 2 ^ 31 by omega), Nat.not_le.mpr han, c17, b2i, c54]) (by simp [rch, h.2.1, tN_nI (show n < 2 ^ 31 by omega), Nat.not_le.mpr han, c17])
      · have hqn : ¬ q = -1 := c54 ▸ c17
        refine z_iconst (v := 1) dX0_reach_57 (by decide) ?_
        refine z_goto (tgt := 62) dX0_reach_58 (by decide) ?_
        exact z_zret dX0_reach_62 rfl (by first | exact Or.inl rfl | exact Or.inr rfl) (by simp [rch, h.2.1, tN_nI (show n < 2 ^ 31 by omega), Nat.not_le.mpr han, c17, b2i, c54, hqn]) (by simp [rch, h.2.1, tN_nI (show n < 2 ^ 31 by omega), Nat.not_le.mpr han, c17])
    · have hlt := cnt_lt han c17
      refine z_aload_n dX0_reach_20 rfl rfl ?_
      refine z_getR dX0_reach_21 fl_X0_18 rfl rfl rfl ?_
      refine z_iload_n dX0_reach_24 rfl rfl ?_
      refine z_iload_n dX0_reach_25 rfl rfl ?_
      refine z_iast dX0_reach_26 rfl rfl (by omega) ?_
      refine z_aload_n dX0_reach_27 rfl rfl ?_
      refine z_getR dX0_reach_28 fl_X0_21 rfl rfl rfl ?_
      refine z_aload_n dX0_reach_31 rfl rfl ?_
      refine z_getI dX0_reach_32 fl_X0_34 rfl rfl (show _ = nI (cnt (σ 4) n) by rw [z_up_o _ _ (Or.inl (by decide))]; exact h.2.2) ?_
      refine z_iload_n dX0_reach_35 rfl rfl ?_
      refine z_iast dX0_reach_36 rfl rfl (by omega) ?_
      refine z_aload_n dX0_reach_37 rfl rfl ?_
      refine z_dup dX0_reach_38 rfl ?_
      refine z_getI dX0_reach_39 fl_X0_34 rfl rfl (show _ = nI (cnt (σ 4) n) by rw [z_up_o _ _ (Or.inl (by decide)), z_up_o _ _ (Or.inl (by decide))]; exact h.2.2) ?_
      refine z_iconst (v := 1) dX0_reach_42 (by decide) ?_
      refine z_iadd dX0_reach_43 (nI_1 _) ?_
      refine z_putI dX0_reach_44 fl_X0_34 rfl rfl (Or.inl rfl) rfl ?_
      refine z_aload_n dX0_reach_47 rfl rfl ?_
      refine z_getR dX0_reach_48 fl_X0_18 rfl rfl rfl ?_
      refine z_iload_n dX0_reach_51 rfl rfl ?_
      refine z_iald dX0_reach_52 rfl rfl (by omega) (show _ = q by simp [z_up]) ?_
      refine z_iload_n dX0_reach_53 rfl rfl ?_
      refine z_icmp_ne (tgt := 61) dX0_reach_54 (by decide) (fun c_ => absurd (rfl) c_) (fun _ => ?_)
      refine z_iconst (v := 1) dX0_reach_57 (by decide) ?_
      refine z_goto (tgt := 62) dX0_reach_58 (by decide) ?_
      exact z_zret dX0_reach_62 rfl (by first | exact Or.inl rfl | exact Or.inr rfl) (by simp [rch, h.2.1, h.2.2, tN_nI (show n < 2 ^ 31 by omega), tN_nI (show cnt (σ 4) n < 2 ^ 31 by omega), Nat.not_le.mpr han, c17]) (by simp [rch, h.2.1, h.2.2, tN_nI (show n < 2 ^ 31 by omega), tN_nI (show cnt (σ 4) n < 2 ^ 31 by omega), Nat.not_le.mpr han, c17])
  · have han : n ≤ a := by
      rcases Nat.lt_or_ge a n with z | z
      · exact absurd (nI_lt z (by omega)) c5
      · exact z
    refine z_iconst (v := 0) dX0_reach_8 (by decide) ?_
    exact z_zret dX0_reach_9 rfl (by first | exact Or.inl rfl | exact Or.inr rfl) (by simp [rch, h.2.1, tN_nI (show n < 2 ^ 31 by omega), han]) (by simp [rch, h.2.1, tN_nI (show n < 2 ^ 31 by omega), han])
theorem tk_ok : ∀ o, o < 16 → z_takes o = nI (tk o) ∧ z_gives o = nI (gv o) := by decide +kernel
theorem tk_2 : ∀ o, o < 16 → tk o ≤ 2 ∧ gv o ≤ 2 := by decide +kernel
def lwB (σ : Nat → Nat → Int32) (a o : Nat) (b : Int32) : Int32 × (Nat → Nat → Int32) :=
  if o = 13 then rch σ (tN (σ 3 a)) b
  else if o = 14 then (if (rch σ (tN (σ 3 a)) b).1 = 0 then rch σ (tN (σ 3 a)) b else rch (rch σ (tN (σ 3 a)) b).2 (a + 1) b)
  else if o = 15 then (1, σ) else rch σ (a + 1) b
def lw (σ : Nat → Nat → Int32) (a : Nat) : Int32 × (Nat → Nat → Int32) :=
  if tN (σ 4 a) < tk (tN (σ 2 a)) ∨ 6 < tN (σ 4 a) - tk (tN (σ 2 a)) + gv (tN (σ 2 a)) then (0, σ)
  else lwB σ a (tN (σ 2 a)) (nI (tN (σ 4 a) - tk (tN (σ 2 a)) + gv (tN (σ 2 a))))
set_option maxRecDepth 100000 in
set_option maxHeartbeats 4000000 in
theorem sp_lwU {d : Nat} {σ : Nat → Nat → Int32} {τ : Nat → Nat → Int64} {n a o q : Nat} (h : cI σ n) (ha : a < n) (ho : σ 2 a = nI o) (ho16 : o < 16) (hq : σ 4 a = nI q) (hq6 : q ≤ 6) (hu : q < tk o) : z_MV M_X0_leadsOnWell (d + 1) 0 0 [.ref 1, .int (nI a)] (124, z_r0, σ, τ) (some (.int (lw σ a).1)) (124, z_r0, (lw σ a).2, τ) := by
  refine z_MV.of pn_X0_leadsOnWell (Nat.le_of_ble_eq_true rfl) (by simp [Value.category]) rfl ?_
  show z_V _ _ _ _ _ _ _ _ _ [_, _, _, _, _, _, _] _ _
  have h40 := h.1
  have ht2 := tk_2 o ho16
  have hb0 : q < tk o ∨ 6 < q - tk o + gv o := Or.inl hu
  refine z_aload_n dX0_leadsOnWell_0 rfl rfl ?_
  refine z_getR dX0_leadsOnWell_1 fl_X0_9 rfl rfl rfl ?_
  refine z_iload_n dX0_leadsOnWell_4 rfl rfl ?_
  refine z_iald dX0_leadsOnWell_5 rfl rfl (by omega) ho ?_
  refine z_istore_n dX0_leadsOnWell_6 rfl (by decide) ?_
  show z_V _ _ _ _ _ _ _ _ _ [_, _, _, _, _, _, _] _ _
  refine z_aload_n dX0_leadsOnWell_7 rfl rfl ?_
  refine z_getR dX0_leadsOnWell_8 fl_X0_18 rfl rfl rfl ?_
  refine z_iload_n dX0_leadsOnWell_11 rfl rfl ?_
  refine z_iald dX0_leadsOnWell_12 rfl rfl (by omega) hq ?_
  refine z_tab (nm := "TAKES") (f := z_takes) (j := o) (y := nI (tk o)) dX0_leadsOnWell_13 dX0_leadsOnWell_16 dX0_leadsOnWell_17 (by simp [z_sts]) sl_45 rfl rfl rfl ho16 (tk_ok o ho16).1 ?_
  refine z_isub dX0_leadsOnWell_18 rfl ?_
  refine z_istore_n dX0_leadsOnWell_19 rfl (by decide) ?_
  show z_V _ _ _ _ _ _ _ _ _ [_, _, _, _, _, _, _] _ _
  refine z_iload_n dX0_leadsOnWell_20 rfl rfl ?_
  refine z_tab (nm := "GIVES") (f := z_gives) (j := o) (y := nI (gv o)) dX0_leadsOnWell_21 dX0_leadsOnWell_24 dX0_leadsOnWell_25 (by simp [z_sts]) sl_48 rfl rfl rfl ho16 (tk_ok o ho16).2 ?_
  refine z_iadd dX0_leadsOnWell_26 rfl ?_
  refine z_istore dX0_leadsOnWell_27 (by decide) ?_
  show z_V _ _ _ _ _ _ _ _ _ [_, _, _, _, _, _, _] _ _
  refine z_iload_n dX0_leadsOnWell_29 rfl rfl ?_
  refine z_if_lt (tgt := 40) dX0_leadsOnWell_30 (by decide) (fun _ => ?_) (fun c_ => absurd (pk_sneg (by omega) hu) c_)
  refine z_iconst (v := 0) dX0_leadsOnWell_40 (by decide) ?_
  exact z_zret dX0_leadsOnWell_41 rfl (by first | exact Or.inl rfl | exact Or.inr rfl) (by simp [lw, ho, hq, tN_nI (show o < 2 ^ 31 by omega), tN_nI (show q < 2 ^ 31 by omega), hb0]) (by simp [lw, ho, hq, tN_nI (show o < 2 ^ 31 by omega), tN_nI (show q < 2 ^ 31 by omega), hb0])
set_option maxRecDepth 100000 in
set_option maxHeartbeats 4000000 in
theorem sp_lwO {d : Nat} {σ : Nat → Nat → Int32} {τ : Nat → Nat → Int64} {n a o q : Nat} (h : cI σ n) (ha : a < n) (ho : σ 2 a = nI o) (ho16 : o < 16) (hq : σ 4 a = nI q) (hq6 : q ≤ 6) (hu : tk o ≤ q) (hv : 6 < q - tk o + gv o) : z_MV M_X0_leadsOnWell (d + 1) 0 0 [.ref 1, .int (nI a)] (124, z_r0, σ, τ) (some (.int (lw σ a).1)) (124, z_r0, (lw σ a).2, τ) := by
  refine z_MV.of pn_X0_leadsOnWell (Nat.le_of_ble_eq_true rfl) (by simp [Value.category]) rfl ?_
  show z_V _ _ _ _ _ _ _ _ _ [_, _, _, _, _, _, _] _ _
  have h40 := h.1
  have ht2 := tk_2 o ho16
  have hb0 : q < tk o ∨ 6 < q - tk o + gv o := Or.inr hv
  refine z_aload_n dX0_leadsOnWell_0 rfl rfl ?_
  refine z_getR dX0_leadsOnWell_1 fl_X0_9 rfl rfl rfl ?_
  refine z_iload_n dX0_leadsOnWell_4 rfl rfl ?_
  refine z_iald dX0_leadsOnWell_5 rfl rfl (by omega) ho ?_
  refine z_istore_n dX0_leadsOnWell_6 rfl (by decide) ?_
  show z_V _ _ _ _ _ _ _ _ _ [_, _, _, _, _, _, _] _ _
  refine z_aload_n dX0_leadsOnWell_7 rfl rfl ?_
  refine z_getR dX0_leadsOnWell_8 fl_X0_18 rfl rfl rfl ?_
  refine z_iload_n dX0_leadsOnWell_11 rfl rfl ?_
  refine z_iald dX0_leadsOnWell_12 rfl rfl (by omega) hq ?_
  refine z_tab (nm := "TAKES") (f := z_takes) (j := o) (y := nI (tk o)) dX0_leadsOnWell_13 dX0_leadsOnWell_16 dX0_leadsOnWell_17 (by simp [z_sts]) sl_45 rfl rfl rfl ho16 (tk_ok o ho16).1 ?_
  refine z_isub dX0_leadsOnWell_18 (pk_sub hu) ?_
  refine z_istore_n dX0_leadsOnWell_19 rfl (by decide) ?_
  show z_V _ _ _ _ _ _ _ _ _ [_, _, _, _, _, _, _] _ _
  refine z_iload_n dX0_leadsOnWell_20 rfl rfl ?_
  refine z_tab (nm := "GIVES") (f := z_gives) (j := o) (y := nI (gv o)) dX0_leadsOnWell_21 dX0_leadsOnWell_24 dX0_leadsOnWell_25 (by simp [z_sts]) sl_48 rfl rfl rfl ho16 (tk_ok o ho16).2 ?_
  refine z_iadd dX0_leadsOnWell_26 (nI_add _ _) ?_
  refine z_istore dX0_leadsOnWell_27 (by decide) ?_
  show z_V _ _ _ _ _ _ _ _ _ [_, _, _, _, _, _, _] _ _
  refine z_iload_n dX0_leadsOnWell_29 rfl rfl ?_
  refine z_if_lt (tgt := 40) dX0_leadsOnWell_30 (by decide) (fun c_ => absurd c_ (nI_pos (by omega))) (fun _ => ?_)
  refine z_iload dX0_leadsOnWell_33 rfl ?_
  refine z_bipush (v := nI 6) dX0_leadsOnWell_35 (by decide) ?_
  refine z_icmp_le (tgt := 42) dX0_leadsOnWell_37 (by decide) (fun c_ => absurd c_ (fun z => absurd ((nI_leI (by omega) (by omega)).mp z) (by omega))) (fun _ => ?_)
  refine z_iconst (v := 0) dX0_leadsOnWell_40 (by decide) ?_
  exact z_zret dX0_leadsOnWell_41 rfl (by first | exact Or.inl rfl | exact Or.inr rfl) (by simp [lw, ho, hq, tN_nI (show o < 2 ^ 31 by omega), tN_nI (show q < 2 ^ 31 by omega), hb0]) (by simp [lw, ho, hq, tN_nI (show o < 2 ^ 31 by omega), tN_nI (show q < 2 ^ 31 by omega), hb0])
set_option maxRecDepth 100000 in
set_option maxHeartbeats 4000000 in
theorem sp_lwG {d : Nat} {σ : Nat → Nat → Int32} {τ : Nat → Nat → Int64} {n a o q : Nat} (h : cI σ n) (ha : a < n) (ho : σ 2 a = nI o) (ho16 : o < 16) (hq : σ 4 a = nI q) (hq6 : q ≤ 6) (h13 : o ≠ 13) (h14 : o ≠ 14) (h15 : o ≠ 15) (hu : tk o ≤ q) (hv : q - tk o + gv o ≤ 6) : z_MV M_X0_leadsOnWell (d + 1) 0 0 [.ref 1, .int (nI a)] (124, z_r0, σ, τ) (some (.int (lw σ a).1)) (124, z_r0, (lw σ a).2, τ) := by
  refine z_MV.of pn_X0_leadsOnWell (Nat.le_of_ble_eq_true rfl) (by simp [Value.category]) rfl ?_
  show z_V _ _ _ _ _ _ _ _ _ [_, _, _, _, _, _, _] _ _
  have h40 := h.1
  have ht2 := tk_2 o ho16
  have hb0 : ¬ (q < tk o ∨ 6 < q - tk o + gv o) := by omega
  have elw : lw σ a = lwB σ a o (nI (q - tk o + gv o)) := by
    unfold lw
    rw [ho, hq, tN_nI (show o < 2 ^ 31 by omega), tN_nI (show q < 2 ^ 31 by omega), if_neg hb0]
  rw [elw]
  refine z_aload_n dX0_leadsOnWell_0 rfl rfl ?_
  refine z_getR dX0_leadsOnWell_1 fl_X0_9 rfl rfl rfl ?_
  refine z_iload_n dX0_leadsOnWell_4 rfl rfl ?_
  refine z_iald dX0_leadsOnWell_5 rfl rfl (by omega) ho ?_
  refine z_istore_n dX0_leadsOnWell_6 rfl (by decide) ?_
  show z_V _ _ _ _ _ _ _ _ _ [_, _, _, _, _, _, _] _ _
  refine z_aload_n dX0_leadsOnWell_7 rfl rfl ?_
  refine z_getR dX0_leadsOnWell_8 fl_X0_18 rfl rfl rfl ?_
  refine z_iload_n dX0_leadsOnWell_11 rfl rfl ?_
  refine z_iald dX0_leadsOnWell_12 rfl rfl (by omega) hq ?_
  refine z_tab (nm := "TAKES") (f := z_takes) (j := o) (y := nI (tk o)) dX0_leadsOnWell_13 dX0_leadsOnWell_16 dX0_leadsOnWell_17 (by simp [z_sts]) sl_45 rfl rfl rfl ho16 (tk_ok o ho16).1 ?_
  refine z_isub dX0_leadsOnWell_18 (pk_sub hu) ?_
  refine z_istore_n dX0_leadsOnWell_19 rfl (by decide) ?_
  show z_V _ _ _ _ _ _ _ _ _ [_, _, _, _, _, _, _] _ _
  refine z_iload_n dX0_leadsOnWell_20 rfl rfl ?_
  refine z_tab (nm := "GIVES") (f := z_gives) (j := o) (y := nI (gv o)) dX0_leadsOnWell_21 dX0_leadsOnWell_24 dX0_leadsOnWell_25 (by simp [z_sts]) sl_48 rfl rfl rfl ho16 (tk_ok o ho16).2 ?_
  refine z_iadd dX0_leadsOnWell_26 (nI_add _ _) ?_
  refine z_istore dX0_leadsOnWell_27 (by decide) ?_
  show z_V _ _ _ _ _ _ _ _ _ [_, _, _, _, _, _, _] _ _
  refine z_iload_n dX0_leadsOnWell_29 rfl rfl ?_
  refine z_if_lt (tgt := 40) dX0_leadsOnWell_30 (by decide) (fun c_ => absurd c_ (nI_pos (by omega))) (fun _ => ?_)
  refine z_iload dX0_leadsOnWell_33 rfl ?_
  refine z_bipush (v := nI 6) dX0_leadsOnWell_35 (by decide) ?_
  refine z_icmp_le (tgt := 42) dX0_leadsOnWell_37 (by decide) (fun _ => ?_) (fun c_ => absurd (nI_le (by omega) (by omega)) c_)
  refine z_iload_n dX0_leadsOnWell_42 rfl rfl ?_
  refine z_bipush (v := nI 13) dX0_leadsOnWell_43 (by decide) ?_
  refine z_icmp_eq (tgt := 54) dX0_leadsOnWell_45 (by decide) (fun c_ => absurd c_ (nI_ne (by omega) (by omega) (by omega))) (fun _ => ?_)
  refine z_iload_n dX0_leadsOnWell_48 rfl rfl ?_
  refine z_bipush (v := nI 14) dX0_leadsOnWell_49 (by decide) ?_
  refine z_icmp_ne (tgt := 58) dX0_leadsOnWell_51 (by decide) (fun _ => ?_) (fun c_ => absurd c_ (nI_ne (by omega) (by omega) (by omega)))
  refine z_iconst (v := 0) dX0_leadsOnWell_58 (by decide) ?_
  refine z_istore dX0_leadsOnWell_59 (by decide) ?_
  show z_V _ _ _ _ _ _ _ _ _ [_, _, _, _, _, _, _] _ _
  refine z_iload_n dX0_leadsOnWell_61 rfl rfl ?_
  refine z_bipush (v := nI 13) dX0_leadsOnWell_62 (by decide) ?_
  refine z_icmp_eq (tgt := 77) dX0_leadsOnWell_64 (by decide) (fun c_ => absurd c_ (nI_ne (by omega) (by omega) (by omega))) (fun _ => ?_)
  refine z_iload_n dX0_leadsOnWell_67 rfl rfl ?_
  refine z_bipush (v := nI 15) dX0_leadsOnWell_68 (by decide) ?_
  refine z_icmp_eq (tgt := 77) dX0_leadsOnWell_70 (by decide) (fun c_ => absurd c_ (nI_ne (by omega) (by omega) (by omega))) (fun _ => ?_)
  refine z_iconst (v := 1) dX0_leadsOnWell_73 (by decide) ?_
  refine z_goto (tgt := 78) dX0_leadsOnWell_74 (by decide) ?_
  refine z_istore dX0_leadsOnWell_78 (by decide) ?_
  show z_V _ _ _ _ _ _ _ _ _ [_, _, _, _, _, _, _] _ _
  refine z_iload dX0_leadsOnWell_80 rfl ?_
  refine z_if_eq (tgt := 100) dX0_leadsOnWell_82 (by decide) (fun _ => ?_) (fun c_ => absurd (rfl) c_)
  refine z_iload dX0_leadsOnWell_100 rfl ?_
  refine z_if_eq (tgt := 117) dX0_leadsOnWell_102 (by decide) (fun c_ => absurd c_ (by decide)) (fun _ => ?_)
  refine z_aload_n dX0_leadsOnWell_105 rfl rfl ?_
  refine z_iload_n dX0_leadsOnWell_106 rfl rfl ?_
  refine z_iconst (v := 1) dX0_leadsOnWell_107 (by decide) ?_
  refine z_iadd dX0_leadsOnWell_108 (nI_1 _) ?_
  refine z_iload dX0_leadsOnWell_109 rfl ?_
  refine z_cV1 dX0_leadsOnWell_111 ml_X0_37 (sp_reach (n := n) h (by omega)) rfl ⟨by decide, rfl⟩ rfl rfl (Nat.le_of_ble_eq_true rfl) ?_
  refine z_if_eq (tgt := 121) dX0_leadsOnWell_114 (by decide) (fun c114 => ?_) (fun c114 => ?_)
  · refine z_iconst (v := 0) dX0_leadsOnWell_121 (by decide) ?_
    exact z_zret dX0_leadsOnWell_122 rfl (by first | exact Or.inl rfl | exact Or.inr rfl) (by unfold lwB; rw [if_neg h13, if_neg h14, if_neg h15, c114]) (by unfold lwB; rw [if_neg h13, if_neg h14, if_neg h15])
  · refine z_iconst (v := 1) dX0_leadsOnWell_117 (by decide) ?_
    refine z_goto (tgt := 122) dX0_leadsOnWell_118 (by decide) ?_
    exact z_zret dX0_leadsOnWell_122 rfl (by first | exact Or.inl rfl | exact Or.inr rfl) (by unfold lwB; rw [if_neg h13, if_neg h14, if_neg h15, rch_01.resolve_left c114]) (by unfold lwB; rw [if_neg h13, if_neg h14, if_neg h15])
set_option maxRecDepth 100000 in
set_option maxHeartbeats 4000000 in
theorem sp_lw15 {d : Nat} {σ : Nat → Nat → Int32} {τ : Nat → Nat → Int64} {n a q : Nat} (h : cI σ n) (ha : a < n) (ho : σ 2 a = nI 15) (hq : σ 4 a = nI q) (hq6 : q ≤ 6) (hu : tk 15 ≤ q) (hv : q - tk 15 + gv 15 ≤ 6) : z_MV M_X0_leadsOnWell (d + 1) 0 0 [.ref 1, .int (nI a)] (124, z_r0, σ, τ) (some (.int (lw σ a).1)) (124, z_r0, (lw σ a).2, τ) := by
  have ho16 : 15 < 16 := by decide
  refine z_MV.of pn_X0_leadsOnWell (Nat.le_of_ble_eq_true rfl) (by simp [Value.category]) rfl ?_
  show z_V _ _ _ _ _ _ _ _ _ [_, _, _, _, _, _, _] _ _
  have h40 := h.1
  have ht2 := tk_2 15 ho16
  have hb0 : ¬ (q < tk 15 ∨ 6 < q - tk 15 + gv 15) := by omega
  have elw : lw σ a = lwB σ a 15 (nI (q - tk 15 + gv 15)) := by
    unfold lw
    rw [ho, hq, tN_nI (show 15 < 2 ^ 31 by omega), tN_nI (show q < 2 ^ 31 by omega), if_neg hb0]
  rw [elw]
  refine z_aload_n dX0_leadsOnWell_0 rfl rfl ?_
  refine z_getR dX0_leadsOnWell_1 fl_X0_9 rfl rfl rfl ?_
  refine z_iload_n dX0_leadsOnWell_4 rfl rfl ?_
  refine z_iald dX0_leadsOnWell_5 rfl rfl (by omega) ho ?_
  refine z_istore_n dX0_leadsOnWell_6 rfl (by decide) ?_
  show z_V _ _ _ _ _ _ _ _ _ [_, _, _, _, _, _, _] _ _
  refine z_aload_n dX0_leadsOnWell_7 rfl rfl ?_
  refine z_getR dX0_leadsOnWell_8 fl_X0_18 rfl rfl rfl ?_
  refine z_iload_n dX0_leadsOnWell_11 rfl rfl ?_
  refine z_iald dX0_leadsOnWell_12 rfl rfl (by omega) hq ?_
  refine z_tab (nm := "TAKES") (f := z_takes) (j := 15) (y := nI (tk 15)) dX0_leadsOnWell_13 dX0_leadsOnWell_16 dX0_leadsOnWell_17 (by simp [z_sts]) sl_45 rfl rfl rfl ho16 (tk_ok 15 ho16).1 ?_
  refine z_isub dX0_leadsOnWell_18 (pk_sub hu) ?_
  refine z_istore_n dX0_leadsOnWell_19 rfl (by decide) ?_
  show z_V _ _ _ _ _ _ _ _ _ [_, _, _, _, _, _, _] _ _
  refine z_iload_n dX0_leadsOnWell_20 rfl rfl ?_
  refine z_tab (nm := "GIVES") (f := z_gives) (j := 15) (y := nI (gv 15)) dX0_leadsOnWell_21 dX0_leadsOnWell_24 dX0_leadsOnWell_25 (by simp [z_sts]) sl_48 rfl rfl rfl ho16 (tk_ok 15 ho16).2 ?_
  refine z_iadd dX0_leadsOnWell_26 (nI_add _ _) ?_
  refine z_istore dX0_leadsOnWell_27 (by decide) ?_
  show z_V _ _ _ _ _ _ _ _ _ [_, _, _, _, _, _, _] _ _
  refine z_iload_n dX0_leadsOnWell_29 rfl rfl ?_
  refine z_if_lt (tgt := 40) dX0_leadsOnWell_30 (by decide) (fun c_ => absurd c_ (nI_pos (by omega))) (fun _ => ?_)
  refine z_iload dX0_leadsOnWell_33 rfl ?_
  refine z_bipush (v := nI 6) dX0_leadsOnWell_35 (by decide) ?_
  refine z_icmp_le (tgt := 42) dX0_leadsOnWell_37 (by decide) (fun _ => ?_) (fun c_ => absurd (nI_le (by omega) (by omega)) c_)
  refine z_iload_n dX0_leadsOnWell_42 rfl rfl ?_
  refine z_bipush (v := nI 13) dX0_leadsOnWell_43 (by decide) ?_
  refine z_icmp_eq (tgt := 54) dX0_leadsOnWell_45 (by decide) (fun c_ => absurd c_ (nI_ne (by decide) (by decide) (by decide))) (fun _ => ?_)
  refine z_iload_n dX0_leadsOnWell_48 rfl rfl ?_
  refine z_bipush (v := nI 14) dX0_leadsOnWell_49 (by decide) ?_
  refine z_icmp_ne (tgt := 58) dX0_leadsOnWell_51 (by decide) (fun _ => ?_) (fun c_ => absurd c_ (nI_ne (by decide) (by decide) (by decide)))
  refine z_iconst (v := 0) dX0_leadsOnWell_58 (by decide) ?_
  refine z_istore dX0_leadsOnWell_59 (by decide) ?_
  show z_V _ _ _ _ _ _ _ _ _ [_, _, _, _, _, _, _] _ _
  refine z_iload_n dX0_leadsOnWell_61 rfl rfl ?_
  refine z_bipush (v := nI 13) dX0_leadsOnWell_62 (by decide) ?_
  refine z_icmp_eq (tgt := 77) dX0_leadsOnWell_64 (by decide) (fun c_ => absurd c_ (nI_ne (by decide) (by decide) (by decide))) (fun _ => ?_)
  refine z_iload_n dX0_leadsOnWell_67 rfl rfl ?_
  refine z_bipush (v := nI 15) dX0_leadsOnWell_68 (by decide) ?_
  refine z_icmp_eq (tgt := 77) dX0_leadsOnWell_70 (by decide) (fun _ => ?_) (fun c_ => absurd (rfl) c_)
  refine z_iconst (v := 0) dX0_leadsOnWell_77 (by decide) ?_
  refine z_istore dX0_leadsOnWell_78 (by decide) ?_
  show z_V _ _ _ _ _ _ _ _ _ [_, _, _, _, _, _, _] _ _
  refine z_iload dX0_leadsOnWell_80 rfl ?_
  refine z_if_eq (tgt := 100) dX0_leadsOnWell_82 (by decide) (fun _ => ?_) (fun c_ => absurd (rfl) c_)
  refine z_iload dX0_leadsOnWell_100 rfl ?_
  refine z_if_eq (tgt := 117) dX0_leadsOnWell_102 (by decide) (fun _ => ?_) (fun c_ => absurd (rfl) c_)
  refine z_iconst (v := 1) dX0_leadsOnWell_117 (by decide) ?_
  refine z_goto (tgt := 122) dX0_leadsOnWell_118 (by decide) ?_
  exact z_zret dX0_leadsOnWell_122 rfl (by first | exact Or.inl rfl | exact Or.inr rfl) rfl rfl
set_option maxRecDepth 100000 in
set_option maxHeartbeats 4000000 in
theorem sp_lw13 {d : Nat} {σ : Nat → Nat → Int32} {τ : Nat → Nat → Int64} {n a q : Nat} (h : cI σ n) (ha : a < n) (ho : σ 2 a = nI 13) (hq : σ 4 a = nI q) (hq6 : q ≤ 6) {l : Nat} (hl : l < 40) (hx : σ 3 a = nI l) (hu : tk 13 ≤ q) (hv : q - tk 13 + gv 13 ≤ 6) : z_MV M_X0_leadsOnWell (d + 1) 0 0 [.ref 1, .int (nI a)] (124, z_r0, σ, τ) (some (.int (lw σ a).1)) (124, z_r0, (lw σ a).2, τ) := by
  have ho16 : 13 < 16 := by decide
  refine z_MV.of pn_X0_leadsOnWell (Nat.le_of_ble_eq_true rfl) (by simp [Value.category]) rfl ?_
  show z_V _ _ _ _ _ _ _ _ _ [_, _, _, _, _, _, _] _ _
  have h40 := h.1
  have ht2 := tk_2 13 ho16
  have hb0 : ¬ (q < tk 13 ∨ 6 < q - tk 13 + gv 13) := by omega
  have elw : lw σ a = lwB σ a 13 (nI (q - tk 13 + gv 13)) := by
    unfold lw
    rw [ho, hq, tN_nI (show 13 < 2 ^ 31 by omega), tN_nI (show q < 2 ^ 31 by omega), if_neg hb0]
  rw [elw]
  refine z_aload_n dX0_leadsOnWell_0 rfl rfl ?_
  refine z_getR dX0_leadsOnWell_1 fl_X0_9 rfl rfl rfl ?_
  refine z_iload_n dX0_leadsOnWell_4 rfl rfl ?_
  refine z_iald dX0_leadsOnWell_5 rfl rfl (by omega) ho ?_
  refine z_istore_n dX0_leadsOnWell_6 rfl (by decide) ?_
  show z_V _ _ _ _ _ _ _ _ _ [_, _, _, _, _, _, _] _ _
  refine z_aload_n dX0_leadsOnWell_7 rfl rfl ?_
  refine z_getR dX0_leadsOnWell_8 fl_X0_18 rfl rfl rfl ?_
  refine z_iload_n dX0_leadsOnWell_11 rfl rfl ?_
  refine z_iald dX0_leadsOnWell_12 rfl rfl (by omega) hq ?_
  refine z_tab (nm := "TAKES") (f := z_takes) (j := 13) (y := nI (tk 13)) dX0_leadsOnWell_13 dX0_leadsOnWell_16 dX0_leadsOnWell_17 (by simp [z_sts]) sl_45 rfl rfl rfl ho16 (tk_ok 13 ho16).1 ?_
  refine z_isub dX0_leadsOnWell_18 (pk_sub hu) ?_
  refine z_istore_n dX0_leadsOnWell_19 rfl (by decide) ?_
  show z_V _ _ _ _ _ _ _ _ _ [_, _, _, _, _, _, _] _ _
  refine z_iload_n dX0_leadsOnWell_20 rfl rfl ?_
  refine z_tab (nm := "GIVES") (f := z_gives) (j := 13) (y := nI (gv 13)) dX0_leadsOnWell_21 dX0_leadsOnWell_24 dX0_leadsOnWell_25 (by simp [z_sts]) sl_48 rfl rfl rfl ho16 (tk_ok 13 ho16).2 ?_
  refine z_iadd dX0_leadsOnWell_26 (nI_add _ _) ?_
  refine z_istore dX0_leadsOnWell_27 (by decide) ?_
  show z_V _ _ _ _ _ _ _ _ _ [_, _, _, _, _, _, _] _ _
  refine z_iload_n dX0_leadsOnWell_29 rfl rfl ?_
  refine z_if_lt (tgt := 40) dX0_leadsOnWell_30 (by decide) (fun c_ => absurd c_ (nI_pos (by omega))) (fun _ => ?_)
  refine z_iload dX0_leadsOnWell_33 rfl ?_
  refine z_bipush (v := nI 6) dX0_leadsOnWell_35 (by decide) ?_
  refine z_icmp_le (tgt := 42) dX0_leadsOnWell_37 (by decide) (fun _ => ?_) (fun c_ => absurd (nI_le (by omega) (by omega)) c_)
  refine z_iload_n dX0_leadsOnWell_42 rfl rfl ?_
  refine z_bipush (v := nI 13) dX0_leadsOnWell_43 (by decide) ?_
  refine z_icmp_eq (tgt := 54) dX0_leadsOnWell_45 (by decide) (fun _ => ?_) (fun c_ => absurd (rfl) c_)
  refine z_iconst (v := 1) dX0_leadsOnWell_54 (by decide) ?_
  refine z_goto (tgt := 59) dX0_leadsOnWell_55 (by decide) ?_
  refine z_istore dX0_leadsOnWell_59 (by decide) ?_
  show z_V _ _ _ _ _ _ _ _ _ [_, _, _, _, _, _, _] _ _
  refine z_iload_n dX0_leadsOnWell_61 rfl rfl ?_
  refine z_bipush (v := nI 13) dX0_leadsOnWell_62 (by decide) ?_
  refine z_icmp_eq (tgt := 77) dX0_leadsOnWell_64 (by decide) (fun _ => ?_) (fun c_ => absurd (rfl) c_)
  refine z_iconst (v := 0) dX0_leadsOnWell_77 (by decide) ?_
  refine z_istore dX0_leadsOnWell_78 (by decide) ?_
  show z_V _ _ _ _ _ _ _ _ _ [_, _, _, _, _, _, _] _ _
  refine z_iload dX0_leadsOnWell_80 rfl ?_
  refine z_if_eq (tgt := 100) dX0_leadsOnWell_82 (by decide) (fun c_ => absurd c_ (by decide)) (fun _ => ?_)
  refine z_aload_n dX0_leadsOnWell_85 rfl rfl ?_
  refine z_aload_n dX0_leadsOnWell_86 rfl rfl ?_
  refine z_getR dX0_leadsOnWell_87 fl_X0_15 rfl rfl rfl ?_
  refine z_iload_n dX0_leadsOnWell_90 rfl rfl ?_
  refine z_iald dX0_leadsOnWell_91 rfl rfl (by omega) hx ?_
  refine z_iload dX0_leadsOnWell_92 rfl ?_
  refine z_cV1 dX0_leadsOnWell_94 ml_X0_37 (sp_reach (n := n) h (by omega)) rfl ⟨by decide, rfl⟩ rfl rfl (Nat.le_of_ble_eq_true rfl) ?_
  refine z_if_eq (tgt := 121) dX0_leadsOnWell_97 (by decide) (fun c97 => ?_) (fun c97 => ?_)
  · refine z_iconst (v := 0) dX0_leadsOnWell_121 (by decide) ?_
    exact z_zret dX0_leadsOnWell_122 rfl (by first | exact Or.inl rfl | exact Or.inr rfl) (by unfold lwB; rw [if_pos rfl, hx, tN_nI (by omega), c97]) (by unfold lwB; rw [if_pos rfl, hx, tN_nI (by omega)])
  · refine z_iload dX0_leadsOnWell_100 rfl ?_
    refine z_if_eq (tgt := 117) dX0_leadsOnWell_102 (by decide) (fun _ => ?_) (fun c_ => absurd (rfl) c_)
    refine z_iconst (v := 1) dX0_leadsOnWell_117 (by decide) ?_
    refine z_goto (tgt := 122) dX0_leadsOnWell_118 (by decide) ?_
    exact z_zret dX0_leadsOnWell_122 rfl (by first | exact Or.inl rfl | exact Or.inr rfl) (by unfold lwB; rw [if_pos rfl, hx, tN_nI (by omega), rch_01.resolve_left c97]) (by unfold lwB; rw [if_pos rfl, hx, tN_nI (by omega)])
set_option maxRecDepth 100000 in
set_option maxHeartbeats 4000000 in
theorem sp_lw14 {d : Nat} {σ : Nat → Nat → Int32} {τ : Nat → Nat → Int64} {n a q : Nat} (h : cI σ n) (ha : a < n) (ho : σ 2 a = nI 14) (hq : σ 4 a = nI q) (hq6 : q ≤ 6) {l : Nat} (hl : l < 40) (hx : σ 3 a = nI l) (hu : tk 14 ≤ q) (hv : q - tk 14 + gv 14 ≤ 6) : z_MV M_X0_leadsOnWell (d + 1) 0 0 [.ref 1, .int (nI a)] (124, z_r0, σ, τ) (some (.int (lw σ a).1)) (124, z_r0, (lw σ a).2, τ) := by
  have ho16 : 14 < 16 := by decide
  refine z_MV.of pn_X0_leadsOnWell (Nat.le_of_ble_eq_true rfl) (by simp [Value.category]) rfl ?_
  show z_V _ _ _ _ _ _ _ _ _ [_, _, _, _, _, _, _] _ _
  have h40 := h.1
  have ht2 := tk_2 14 ho16
  have hb0 : ¬ (q < tk 14 ∨ 6 < q - tk 14 + gv 14) := by omega
  have elw : lw σ a = lwB σ a 14 (nI (q - tk 14 + gv 14)) := by
    unfold lw
    rw [ho, hq, tN_nI (show 14 < 2 ^ 31 by omega), tN_nI (show q < 2 ^ 31 by omega), if_neg hb0]
  rw [elw]
  refine z_aload_n dX0_leadsOnWell_0 rfl rfl ?_
  refine z_getR dX0_leadsOnWell_1 fl_X0_9 rfl rfl rfl ?_
  refine z_iload_n dX0_leadsOnWell_4 rfl rfl ?_
  refine z_iald dX0_leadsOnWell_5 rfl rfl (by omega) ho ?_
  refine z_istore_n dX0_leadsOnWell_6 rfl (by decide) ?_
  show z_V _ _ _ _ _ _ _ _ _ [_, _, _, _, _, _, _] _ _
  refine z_aload_n dX0_leadsOnWell_7 rfl rfl ?_
  refine z_getR dX0_leadsOnWell_8 fl_X0_18 rfl rfl rfl ?_
  refine z_iload_n dX0_leadsOnWell_11 rfl rfl ?_
  refine z_iald dX0_leadsOnWell_12 rfl rfl (by omega) hq ?_
  refine z_tab (nm := "TAKES") (f := z_takes) (j := 14) (y := nI (tk 14)) dX0_leadsOnWell_13 dX0_leadsOnWell_16 dX0_leadsOnWell_17 (by simp [z_sts]) sl_45 rfl rfl rfl ho16 (tk_ok 14 ho16).1 ?_
  refine z_isub dX0_leadsOnWell_18 (pk_sub hu) ?_
  refine z_istore_n dX0_leadsOnWell_19 rfl (by decide) ?_
  show z_V _ _ _ _ _ _ _ _ _ [_, _, _, _, _, _, _] _ _
  refine z_iload_n dX0_leadsOnWell_20 rfl rfl ?_
  refine z_tab (nm := "GIVES") (f := z_gives) (j := 14) (y := nI (gv 14)) dX0_leadsOnWell_21 dX0_leadsOnWell_24 dX0_leadsOnWell_25 (by simp [z_sts]) sl_48 rfl rfl rfl ho16 (tk_ok 14 ho16).2 ?_
  refine z_iadd dX0_leadsOnWell_26 (nI_add _ _) ?_
  refine z_istore dX0_leadsOnWell_27 (by decide) ?_
  show z_V _ _ _ _ _ _ _ _ _ [_, _, _, _, _, _, _] _ _
  refine z_iload_n dX0_leadsOnWell_29 rfl rfl ?_
  refine z_if_lt (tgt := 40) dX0_leadsOnWell_30 (by decide) (fun c_ => absurd c_ (nI_pos (by omega))) (fun _ => ?_)
  refine z_iload dX0_leadsOnWell_33 rfl ?_
  refine z_bipush (v := nI 6) dX0_leadsOnWell_35 (by decide) ?_
  refine z_icmp_le (tgt := 42) dX0_leadsOnWell_37 (by decide) (fun _ => ?_) (fun c_ => absurd (nI_le (by omega) (by omega)) c_)
  refine z_iload_n dX0_leadsOnWell_42 rfl rfl ?_
  refine z_bipush (v := nI 13) dX0_leadsOnWell_43 (by decide) ?_
  refine z_icmp_eq (tgt := 54) dX0_leadsOnWell_45 (by decide) (fun c_ => absurd c_ (nI_ne (by decide) (by decide) (by decide))) (fun _ => ?_)
  refine z_iload_n dX0_leadsOnWell_48 rfl rfl ?_
  refine z_bipush (v := nI 14) dX0_leadsOnWell_49 (by decide) ?_
  refine z_icmp_ne (tgt := 58) dX0_leadsOnWell_51 (by decide) (fun c_ => absurd (rfl) c_) (fun _ => ?_)
  refine z_iconst (v := 1) dX0_leadsOnWell_54 (by decide) ?_
  refine z_goto (tgt := 59) dX0_leadsOnWell_55 (by decide) ?_
  refine z_istore dX0_leadsOnWell_59 (by decide) ?_
  show z_V _ _ _ _ _ _ _ _ _ [_, _, _, _, _, _, _] _ _
  refine z_iload_n dX0_leadsOnWell_61 rfl rfl ?_
  refine z_bipush (v := nI 13) dX0_leadsOnWell_62 (by decide) ?_
  refine z_icmp_eq (tgt := 77) dX0_leadsOnWell_64 (by decide) (fun c_ => absurd c_ (nI_ne (by decide) (by decide) (by decide))) (fun _ => ?_)
  refine z_iload_n dX0_leadsOnWell_67 rfl rfl ?_
  refine z_bipush (v := nI 15) dX0_leadsOnWell_68 (by decide) ?_
  refine z_icmp_eq (tgt := 77) dX0_leadsOnWell_70 (by decide) (fun c_ => absurd c_ (nI_ne (by decide) (by decide) (by decide))) (fun _ => ?_)
  refine z_iconst (v := 1) dX0_leadsOnWell_73 (by decide) ?_
  refine z_goto (tgt := 78) dX0_leadsOnWell_74 (by decide) ?_
  refine z_istore dX0_leadsOnWell_78 (by decide) ?_
  show z_V _ _ _ _ _ _ _ _ _ [_, _, _, _, _, _, _] _ _
  refine z_iload dX0_leadsOnWell_80 rfl ?_
  refine z_if_eq (tgt := 100) dX0_leadsOnWell_82 (by decide) (fun c_ => absurd c_ (by decide)) (fun _ => ?_)
  refine z_aload_n dX0_leadsOnWell_85 rfl rfl ?_
  refine z_aload_n dX0_leadsOnWell_86 rfl rfl ?_
  refine z_getR dX0_leadsOnWell_87 fl_X0_15 rfl rfl rfl ?_
  refine z_iload_n dX0_leadsOnWell_90 rfl rfl ?_
  refine z_iald dX0_leadsOnWell_91 rfl rfl (by omega) hx ?_
  refine z_iload dX0_leadsOnWell_92 rfl ?_
  refine z_cV1 dX0_leadsOnWell_94 ml_X0_37 (sp_reach (n := n) h (by omega)) rfl ⟨by decide, rfl⟩ rfl rfl (Nat.le_of_ble_eq_true rfl) ?_
  refine z_if_eq (tgt := 121) dX0_leadsOnWell_97 (by decide) (fun c97 => ?_) (fun c97 => ?_)
  · refine z_iconst (v := 0) dX0_leadsOnWell_121 (by decide) ?_
    exact z_zret dX0_leadsOnWell_122 rfl (by first | exact Or.inl rfl | exact Or.inr rfl) (by unfold lwB; rw [if_neg (by decide), if_pos rfl, hx, tN_nI (by omega), if_pos c97, c97]) (by unfold lwB; rw [if_neg (by decide), if_pos rfl, hx, tN_nI (by omega), if_pos c97])
  · refine z_iload dX0_leadsOnWell_100 rfl ?_
    refine z_if_eq (tgt := 117) dX0_leadsOnWell_102 (by decide) (fun c_ => absurd c_ (by decide)) (fun _ => ?_)
    refine z_aload_n dX0_leadsOnWell_105 rfl rfl ?_
    refine z_iload_n dX0_leadsOnWell_106 rfl rfl ?_
    refine z_iconst (v := 1) dX0_leadsOnWell_107 (by decide) ?_
    refine z_iadd dX0_leadsOnWell_108 (nI_1 _) ?_
    refine z_iload dX0_leadsOnWell_109 rfl ?_
    refine z_cV1 dX0_leadsOnWell_111 ml_X0_37 (sp_reach (n := n) (cI_rch (by omega) h) (by omega)) rfl ⟨by decide, rfl⟩ rfl rfl (Nat.le_of_ble_eq_true rfl) ?_
    refine z_if_eq (tgt := 121) dX0_leadsOnWell_114 (by decide) (fun c114 => ?_) (fun c114 => ?_)
    · refine z_iconst (v := 0) dX0_leadsOnWell_121 (by decide) ?_
      exact z_zret dX0_leadsOnWell_122 rfl (by first | exact Or.inl rfl | exact Or.inr rfl) (by unfold lwB; rw [if_neg (by decide), if_pos rfl, hx, tN_nI (by omega), if_neg c97, c114]) (by unfold lwB; rw [if_neg (by decide), if_pos rfl, hx, tN_nI (by omega), if_neg c97])
    · refine z_iconst (v := 1) dX0_leadsOnWell_117 (by decide) ?_
      refine z_goto (tgt := 122) dX0_leadsOnWell_118 (by decide) ?_
      exact z_zret dX0_leadsOnWell_122 rfl (by first | exact Or.inl rfl | exact Or.inr rfl) (by unfold lwB; rw [if_neg (by decide), if_pos rfl, hx, tN_nI (by omega), if_neg c97, rch_01.resolve_left c114]) (by unfold lwB; rw [if_neg (by decide), if_pos rfl, hx, tN_nI (by omega), if_neg c97])
theorem sp_lw {d : Nat} {σ : Nat → Nat → Int32} {τ : Nat → Nat → Int64} {n a o q : Nat} (h : cI σ n) (ha : a < n) (ho : σ 2 a = nI o) (ho16 : o < 16) (hq : σ 4 a = nI q) (hq6 : q ≤ 6) (hj : o = 13 ∨ o = 14 → ∃ l, l < 40 ∧ σ 3 a = nI l) : z_MV M_X0_leadsOnWell (d + 1) 0 0 [.ref 1, .int (nI a)] (124, z_r0, σ, τ) (some (.int (lw σ a).1)) (124, z_r0, (lw σ a).2, τ) := by
  rcases Nat.lt_or_ge q (tk o) with hu | hu
  · exact sp_lwU h ha ho ho16 hq hq6 hu
  · rcases Nat.lt_or_ge 6 (q - tk o + gv o) with hv | hv
    · exact sp_lwO h ha ho ho16 hq hq6 hu hv
    · by_cases h13 : o = 13
      · subst h13
        obtain ⟨l, hl, hx⟩ := hj (Or.inl rfl)
        exact sp_lw13 h ha ho hq hq6 hl hx hu hv
      · by_cases h14 : o = 14
        · subst h14
          obtain ⟨l, hl, hx⟩ := hj (Or.inr rfl)
          exact sp_lw14 h ha ho hq hq6 hl hx hu hv
        · by_cases h15 : o = 15
          · subst h15
            exact sp_lw15 h ha ho hq hq6 hu hv
          · exact sp_lwG h ha ho ho16 hq hq6 h13 h14 h15 hu hv
end
section
/-! PART 33: Code.isSound, isInstruction -/
def wfC (σ : Nat → Nat → Int32) (n : Nat) : Prop := ∀ a, a < n → ∃ o, o < 16 ∧ σ 2 a = nI o ∧ (o = 13 ∨ o = 14 → ∃ l, l < 40 ∧ σ 3 a = nI l)
def gI (σ : Nat → Nat → Int32) (n : Nat) : Prop := cI σ n ∧ (∀ r, r < cnt (σ 4) n → ∃ a, a < n ∧ σ 5 r = nI a ∧ ∃ q, q ≤ 6 ∧ σ 4 a = nI q) ∧ wfC σ n
theorem gI_rch {σ : Nat → Nat → Int32} {n a q : Nat} (hq : q ≤ 6) (h : gI σ n) : gI (rch σ a (nI q)).2 n := by
  obtain ⟨h1, h2, h3⟩ := h
  refine ⟨cI_rch (by omega) h1, ?_, ?_⟩
  · obtain ⟨h40, hn, hc⟩ := h1
    have hle := cnt_le (σ 4) n
    unfold rch
    rw [hn, hc, tN_nI (by omega), tN_nI (by omega)]
    split
    · exact h2
    · split
      next hna hm =>
        have e4 : z_up (z_up (z_up σ 4 a (nI q)) 5 (cnt (σ 4) n) (nI a)) 1 5 (nI (cnt (σ 4) n + 1)) 4 = va_up (σ 4) a (nI q) := by
          rw [z_up_ne _ _ _ (by decide), z_up_ne _ _ _ (by decide), z_up_row]
        have e5 : z_up (z_up (z_up σ 4 a (nI q)) 5 (cnt (σ 4) n) (nI a)) 1 5 (nI (cnt (σ 4) n + 1)) 5 = va_up (σ 5) (cnt (σ 4) n) (nI a) := by
          rw [z_up_ne _ _ _ (by decide), z_up_row, z_up_ne _ _ _ (by decide)]
        show ∀ r, r < cnt (z_up (z_up (z_up σ 4 a (nI q)) 5 (cnt (σ 4) n) (nI a)) 1 5 (nI (cnt (σ 4) n + 1)) 4) n → _
        intro r hr
        rw [e4, cnt_up (by omega) hm (nI_nm1 (by omega))] at hr
        show ∃ a', a' < n ∧ z_up (z_up (z_up σ 4 a (nI q)) 5 (cnt (σ 4) n) (nI a)) 1 5 (nI (cnt (σ 4) n + 1)) 5 r = nI a' ∧ ∃ q', q' ≤ 6 ∧ z_up (z_up (z_up σ 4 a (nI q)) 5 (cnt (σ 4) n) (nI a)) 1 5 (nI (cnt (σ 4) n + 1)) 4 a' = nI q'
        rw [e4, e5]
        by_cases hrc : r = cnt (σ 4) n
        · subst hrc
          exact ⟨a, by omega, by simp [va_up], q, hq, by simp [va_up]⟩
        · obtain ⟨a', g1, g2, q', g3, g4⟩ := h2 r (by omega)
          have hne : a' ≠ a := fun z => by subst z; rw [g4] at hm; exact nI_nm1 (by omega) hm
          exact ⟨a', g1, by simp [va_up, hrc, g2], q', g3, by simp [va_up, hne, g4]⟩
      next => exact h2
  · unfold wfC
    rw [rch_lo (by decide), rch_lo (by decide)]
    exact h3
theorem gI_lw {σ : Nat → Nat → Int32} {n a : Nat} (ha : ∃ q, q ≤ 6 ∧ σ 4 a = nI q) (ho : ∃ o, o < 16 ∧ σ 2 a = nI o) (h : gI σ n) : gI (lw σ a).2 n := by
  obtain ⟨q, hq, hq4⟩ := ha
  obtain ⟨o, ho16, ho2⟩ := ho
  unfold lw
  rw [hq4, ho2, tN_nI (by omega), tN_nI (by omega)]
  split
  · exact h
  · next hb =>
    unfold lwB
    split
    · exact gI_rch (by omega) h
    · split
      · split
        · exact gI_rch (by omega) h
        · exact gI_rch (by omega) (gI_rch (by omega) h)
      · split
        · exact h
        · exact gI_rch (by omega) h
theorem lw_01 {σ : Nat → Nat → Int32} {a : Nat} : (lw σ a).1 = 0 ∨ (lw σ a).1 = 1 := by
  unfold lw
  split
  · exact Or.inl rfl
  · unfold lwB
    split
    · exact rch_01
    · split
      · split
        · exact rch_01
        · exact rch_01
      · split
        · exact Or.inr rfl
        · exact rch_01
def sndL : Nat → Nat → Int32 → (Nat → Nat → Int32) → Int32 × (Nat → Nat → Int32)
  | 0, _, s, σ => (s, σ)
  | m + 1, r, s, σ => if s = 0 then (s, σ) else if tN (σ 1 5) ≤ r then (s, σ) else sndL m (r + 1) (lw σ (tN (σ 5 r))).1 (lw σ (tN (σ 5 r))).2
def snd0 (σ : Nat → Nat → Int32) : Nat → Nat → Int32 := z_up (fillR σ 4 (-1) 40) 1 5 0
def snd (σ : Nat → Nat → Int32) : Int32 × (Nat → Nat → Int32) := sndL 40 0 (rch (snd0 σ) 0 0).1 (rch (snd0 σ) 0 0).2
theorem cnt_0 {f : Nat → Int32} {n : Nat} (h : ∀ i, i < n → f i = -1) : cnt f n = 0 := by
  induction n with
  | zero => rfl
  | succ n ih => simp only [cnt]; rw [ih (fun i hi => h i (by omega)), if_pos (h n (by omega))]
theorem gI_0 {σ : Nat → Nat → Int32} {n : Nat} (h40 : n ≤ 40) (hn : σ 1 2 = nI n) (hw : wfC σ n) : gI (snd0 σ) n := by
  have e4 : ∀ i, i < n → snd0 σ 4 i = -1 := fun i hi => by
    have : i < 40 := by omega
    simp [snd0, z_up, fillR, z_row, this]
  have hc := cnt_0 e4
  refine ⟨⟨h40, by simp [snd0, z_up, fillR, z_row, hn], by rw [hc]; simp [snd0, z_up, nI_0]⟩, fun r hr => by omega, ?_⟩
  unfold wfC
  rw [show snd0 σ 2 = σ 2 by unfold snd0; rw [z_up_ne _ _ _ (by decide)]; simp [fillR, z_row], show snd0 σ 3 = σ 3 by unfold snd0; rw [z_up_ne _ _ _ (by decide)]; simp [fillR, z_row]]
  exact hw
set_option maxRecDepth 100000 in
set_option maxHeartbeats 4000000 in
theorem isSound_loop {d : Nat} {τ : Nat → Nat → Int64} {n : Nat} : ∀ (m r : Nat) (s : Int32) (σ : Nat → Nat → Int32), (s = 0 ∨ s = 1) → gI σ n → 40 ≤ m + r → r ≤ 40 → z_V M_X0_isSound (d + 2) 0 0 0 0 (some (.int (sndL m r s σ).1)) (124, z_r0, (sndL m r s σ).2, τ) 22 [some (.ref 1), some (.int s), some (.int (nI r))] [] (124, z_r0, σ, τ) := by
  intro m
  induction m using Nat.strongRecOn with
  | ind m ih =>
    intro r s σ hs hg hm hr40
    have hle := cnt_le (σ 4) n
    have h40 := hg.1.1
    refine z_iload_n dX0_isSound_22 rfl rfl ?_
    refine z_if_eq (tgt := 59) dX0_isSound_23 (by decide) (fun c23 => ?_) (fun c23 => ?_)
    · have e1 : sndL m r s σ = (s, σ) := by
        cases m with
        | zero => rfl
        | succ m => simp only [sndL]; rw [if_pos c23]
      rw [e1]
      refine z_iload_n dX0_isSound_59 rfl rfl ?_
      exact z_zret dX0_isSound_60 rfl hs rfl rfl
    · refine z_iload_n dX0_isSound_26 rfl rfl ?_
      refine z_aload_n dX0_isSound_27 rfl rfl ?_
      refine z_getI dX0_isSound_28 fl_X0_34 rfl rfl hg.1.2.2 ?_
      refine z_icmp_ge (tgt := 59) dX0_isSound_31 (by decide) (fun c31 => ?_) (fun c31 => ?_)
      · have hrc : cnt (σ 4) n ≤ r := by
          rcases Nat.lt_or_ge r (cnt (σ 4) n) with z | z
          · exact absurd c31 (nI_ge z (by omega))
          · exact z
        have e1 : sndL m r s σ = (s, σ) := by
          cases m with
          | zero => rfl
          | succ m => simp only [sndL]; rw [if_neg c23, hg.1.2.2, tN_nI (by omega), if_pos hrc]
        rw [e1]
        refine z_iload_n dX0_isSound_59 rfl rfl ?_
        exact z_zret dX0_isSound_60 rfl hs rfl rfl
      · have hrc : r < cnt (σ 4) n := by
          rcases Nat.lt_or_ge r (cnt (σ 4) n) with z | z
          · exact z
          · exact absurd (nI_le z (by omega)) c31
        obtain ⟨m, rfl⟩ : ∃ k, m = k + 1 := ⟨m - 1, by omega⟩
        obtain ⟨a, ha, h5, q, hq6, hq⟩ := hg.2.1 r hrc
        obtain ⟨o, ho16, ho, hj⟩ := hg.2.2 a ha
        have e1 : sndL (m + 1) r s σ = sndL m (r + 1) (lw σ a).1 (lw σ a).2 := by
          simp only [sndL]; rw [if_neg c23, hg.1.2.2, tN_nI (by omega), if_neg (by omega), h5, tN_nI (by omega)]
        rw [e1]
        refine z_iload_n dX0_isSound_34 rfl rfl ?_
        refine z_aload_n dX0_isSound_35 rfl rfl ?_
        refine z_getI dX0_isSound_36 fl_X0_24 rfl rfl hg.1.2.1 ?_
        refine z_icmp_ge (tgt := 59) dX0_isSound_39 (by decide) (fun c_ => absurd c_ (nI_ge (Nat.lt_of_lt_of_le hrc hle) (by omega))) (fun _ => ?_)
        refine z_aload_n dX0_isSound_42 rfl rfl ?_
        refine z_aload_n dX0_isSound_43 rfl rfl ?_
        refine z_getR dX0_isSound_44 fl_X0_21 rfl rfl rfl ?_
        refine z_iload_n dX0_isSound_47 rfl rfl ?_
        refine z_iald dX0_isSound_48 rfl rfl (by omega) h5 ?_
        refine z_cV1 dX0_isSound_49 ml_X0_41 (sp_lw hg.1 ha ho ho16 hq hq6 hj) rfl ⟨by decide, rfl⟩ rfl rfl (Nat.le_of_ble_eq_true rfl) ?_
        refine z_istore_n dX0_isSound_52 rfl (by decide) ?_
        show z_V _ _ _ _ _ _ _ _ _ [_, _, _] _ _
        refine z_iinc dX0_isSound_53 rfl (nI_i _) (by decide) ?_
        show z_V _ _ _ _ _ _ _ _ _ [_, _, _] _ _
        refine z_goto (tgt := 22) dX0_isSound_56 (by decide) ?_
        exact ih m (by omega) (r + 1) _ _ lw_01 (gI_lw ⟨q, hq6, hq⟩ ⟨o, ho16, ho⟩ hg) (by omega) (by omega)
set_option maxRecDepth 100000 in
set_option maxHeartbeats 4000000 in
theorem sp_isSound {d : Nat} {σ : Nat → Nat → Int32} {τ : Nat → Nat → Int64} {n : Nat} (h40 : n ≤ 40) (hn : σ 1 2 = nI n) (hw : wfC σ n) : z_MV M_X0_isSound (d + 2) 0 0 [.ref 1] (124, z_r0, σ, τ) (some (.int (snd σ).1)) (124, z_r0, (snd σ).2, τ) := by
  refine z_MV.of pn_X0_isSound (Nat.le_of_ble_eq_true rfl) (by simp [Value.category]) rfl ?_
  show z_V _ _ _ _ _ _ _ _ _ [_, _, _] _ _
  refine z_aload_n dX0_isSound_0 rfl rfl ?_
  refine z_getR dX0_isSound_1 fl_X0_18 rfl rfl rfl ?_
  refine z_iconst (v := (-1)) dX0_isSound_4 (by decide) ?_
  refine z_cS0 dX0_isSound_5 ml_X0_28 (sp_fill (by rfl)) rfl rfl (Nat.le_of_ble_eq_true rfl) ?_
  refine z_aload_n dX0_isSound_8 rfl rfl ?_
  refine z_iconst (v := 0) dX0_isSound_9 (by decide) ?_
  refine z_putI dX0_isSound_10 fl_X0_34 rfl rfl (Or.inl rfl) rfl ?_
  refine z_aload_n dX0_isSound_13 rfl rfl ?_
  refine z_iconst (v := 0) dX0_isSound_14 (by decide) ?_
  refine z_iconst (v := 0) dX0_isSound_15 (by decide) ?_
  refine z_cV1 dX0_isSound_16 ml_X0_37 (sp_reach (σ := snd0 σ) (n := n) (a := 0) (q := 0) (gI_0 h40 hn hw).1 (by omega)) rfl ⟨by decide, rfl⟩ rfl rfl (Nat.le_of_ble_eq_true rfl) ?_
  refine z_istore_n dX0_isSound_19 rfl (by decide) ?_
  show z_V _ _ _ _ _ _ _ _ _ [_, _, _] _ _
  refine z_iconst (v := 0) dX0_isSound_20 (by decide) ?_
  refine z_istore_n dX0_isSound_21 rfl (by decide) ?_
  show z_V _ _ _ _ _ _ _ _ _ [_, _, _] _ _
  exact isSound_loop 40 0 _ _ rch_01 (gI_rch (q := 0) (by omega) (gI_0 h40 hn hw)) (by omega) (by omega)
def insP (op x : Int32) : Prop := if op = 0 then (¬ x < -32768 ∧ ¬ nI 32767 < x) else if op = 1 ∨ op = nI 2 then (¬ x < 0 ∧ ¬ nI 6 ≤ x) else if op = nI 13 ∨ op = nI 14 then (¬ x < 0 ∧ ¬ nI 40 ≤ x) else (¬ op < 0 ∧ ¬ nI 15 < op)
def insB (op x : Int32) : Int32 := if op = 0 then b2i (¬ x < -32768 ∧ ¬ nI 32767 < x) else if op = 1 ∨ op = nI 2 then b2i (¬ x < 0 ∧ ¬ nI 6 ≤ x) else if op = nI 13 ∨ op = nI 14 then b2i (¬ x < 0 ∧ ¬ nI 40 ≤ x) else b2i (¬ op < 0 ∧ ¬ nI 15 < op)
theorem insB_eq {op x : Int32} (k : Nat) (hk : k < 15) (h : op = nI k) : insB op x = if k = 0 then b2i (¬ x < -32768 ∧ ¬ nI 32767 < x) else if k = 1 ∨ k = 2 then b2i (¬ x < 0 ∧ ¬ nI 6 ≤ x) else if k = 13 ∨ k = 14 then b2i (¬ x < 0 ∧ ¬ nI 40 ≤ x) else b2i (¬ nI k < 0 ∧ ¬ nI 15 < nI k) := by
  subst h
  unfold insB
  have e : ∀ j, j < 20 → (nI k = nI j ↔ k = j) := fun j hj => nI_eq (by omega) (by omega)
  rw [show (0 : Int32) = nI 0 from rfl, show (1 : Int32) = nI 1 from rfl]
  simp only [e 0 (by omega), e 1 (by omega), e 2 (by omega), e 13 (by omega), e 14 (by omega)]
theorem insB_out {op x : Int32} (h : op.toInt < 0 ∨ 14 < op.toInt) : insB op x = b2i (¬ op < 0 ∧ ¬ nI 15 < op) := by
  have hne : ∀ j, j < 15 → ¬ op = nI j := fun j hj q => by
    rw [q, nI_toInt (by omega)] at h
    omega
  unfold insB
  rw [if_neg (show ¬ op = 0 from hne 0 (by omega)), if_neg (fun z => z.elim (show ¬ op = 1 from hne 1 (by omega)) (hne 2 (by omega))), if_neg (fun z => z.elim (hne 13 (by omega)) (hne 14 (by omega)))]
set_option maxRecDepth 100000 in
set_option maxHeartbeats 4000000 in
theorem sp_isInstruction {d : Nat} {op x : Int32} {X : z_X} : z_MV M_X0_isInstruction d 0 0 [.int op, .int x] X (some (.int (insB op x))) X := by
  refine z_MV.of pn_X0_isInstruction (Nat.le_of_ble_eq_true rfl) (by simp [Value.category]) rfl ?_
  show z_V _ _ _ _ _ _ _ _ _ [_, _] _ _
  rcases Decidable.em (op.toInt < 0 ∨ 14 < op.toInt) with hout | hin
  · rw [insB_out hout]
    refine z_iload_n dX0_isInstruction_0 rfl rfl ?_
    refine z_tableOut (tgt := 128) dX0_isInstruction_1 hout (by decide) ?_
    refine z_iload_n dX0_isInstruction_128 rfl rfl ?_
    refine z_if_lt (tgt := 142) dX0_isInstruction_129 (by decide) (fun c129 => ?_) (fun c129 => ?_)
    · refine z_iconst (v := 0) dX0_isInstruction_142 (by decide) ?_
      exact z_zret dX0_isInstruction_143 rfl (by first | exact Or.inl rfl | exact Or.inr rfl) (by simp_all [b2i]) rfl
    · refine z_iload_n dX0_isInstruction_132 rfl rfl ?_
      refine z_bipush (v := nI 15) dX0_isInstruction_133 (by decide) ?_
      refine z_icmp_gt (tgt := 142) dX0_isInstruction_135 (by decide) (fun c135 => ?_) (fun c135 => ?_)
      · refine z_iconst (v := 0) dX0_isInstruction_142 (by decide) ?_
        exact z_zret dX0_isInstruction_143 rfl (by first | exact Or.inl rfl | exact Or.inr rfl) (by simp_all [b2i]) rfl
      · refine z_iconst (v := 1) dX0_isInstruction_138 (by decide) ?_
        refine z_goto (tgt := 143) dX0_isInstruction_139 (by decide) ?_
        exact z_zret dX0_isInstruction_143 rfl (by first | exact Or.inl rfl | exact Or.inr rfl) (by simp_all [b2i]) rfl
  · obtain ⟨k, hk, rfl⟩ : ∃ k : Nat, k < 15 ∧ op = nI k := ⟨op.toInt.toNat, by omega, Int32.toInt_inj.mp (by rw [nI_toInt (by omega)]; omega)⟩
    rw [insB_eq k hk rfl]
    rcases (show k = 0 ∨ k = 1 ∨ k = 2 ∨ k = 3 ∨ k = 4 ∨ k = 5 ∨ k = 6 ∨ k = 7 ∨ k = 8 ∨ k = 9 ∨ k = 10 ∨ k = 11 ∨ k = 12 ∨ k = 13 ∨ k = 14 by omega) with rfl | rfl | rfl | rfl | rfl | rfl | rfl | rfl | rfl | rfl | rfl | rfl | rfl | rfl | rfl
    · refine z_iload_n dX0_isInstruction_0 rfl rfl ?_
      refine z_tableIn (off := 75) (tgt := 76) dX0_isInstruction_1 (by decide) (by decide) (by decide) (by decide) ?_
      refine z_iload_n dX0_isInstruction_76 rfl rfl ?_
      refine z_sipush (v := (-32768)) dX0_isInstruction_77 (by decide) ?_
      refine z_icmp_lt (tgt := 94) dX0_isInstruction_80 (by decide) (fun c80 => ?_) (fun c80 => ?_)
      · refine z_iconst (v := 0) dX0_isInstruction_94 (by decide) ?_
        exact z_zret dX0_isInstruction_95 rfl (by first | exact Or.inl rfl | exact Or.inr rfl) (by simp_all [b2i]) rfl
      · refine z_iload_n dX0_isInstruction_83 rfl rfl ?_
        refine z_sipush (v := nI 32767) dX0_isInstruction_84 (by decide) ?_
        refine z_icmp_gt (tgt := 94) dX0_isInstruction_87 (by decide) (fun c87 => ?_) (fun c87 => ?_)
        · refine z_iconst (v := 0) dX0_isInstruction_94 (by decide) ?_
          exact z_zret dX0_isInstruction_95 rfl (by first | exact Or.inl rfl | exact Or.inr rfl) (by simp_all [b2i]) rfl
        · refine z_iconst (v := 1) dX0_isInstruction_90 (by decide) ?_
          refine z_goto (tgt := 95) dX0_isInstruction_91 (by decide) ?_
          exact z_zret dX0_isInstruction_95 rfl (by first | exact Or.inl rfl | exact Or.inr rfl) (by simp_all [b2i]) rfl
    · refine z_iload_n dX0_isInstruction_0 rfl rfl ?_
      refine z_tableIn (off := 95) (tgt := 96) dX0_isInstruction_1 (by decide) (by decide) (by decide) (by decide) ?_
      refine z_iload_n dX0_isInstruction_96 rfl rfl ?_
      refine z_if_lt (tgt := 110) dX0_isInstruction_97 (by decide) (fun c97 => ?_) (fun c97 => ?_)
      · refine z_iconst (v := 0) dX0_isInstruction_110 (by decide) ?_
        exact z_zret dX0_isInstruction_111 rfl (by first | exact Or.inl rfl | exact Or.inr rfl) (by simp_all [b2i]) rfl
      · refine z_iload_n dX0_isInstruction_100 rfl rfl ?_
        refine z_bipush (v := nI 6) dX0_isInstruction_101 (by decide) ?_
        refine z_icmp_ge (tgt := 110) dX0_isInstruction_103 (by decide) (fun c103 => ?_) (fun c103 => ?_)
        · refine z_iconst (v := 0) dX0_isInstruction_110 (by decide) ?_
          exact z_zret dX0_isInstruction_111 rfl (by first | exact Or.inl rfl | exact Or.inr rfl) (by simp_all [b2i]) rfl
        · refine z_iconst (v := 1) dX0_isInstruction_106 (by decide) ?_
          refine z_goto (tgt := 111) dX0_isInstruction_107 (by decide) ?_
          exact z_zret dX0_isInstruction_111 rfl (by first | exact Or.inl rfl | exact Or.inr rfl) (by simp_all [b2i]) rfl
    · refine z_iload_n dX0_isInstruction_0 rfl rfl ?_
      refine z_tableIn (off := 95) (tgt := 96) dX0_isInstruction_1 (by decide) (by decide) (by decide) (by decide) ?_
      refine z_iload_n dX0_isInstruction_96 rfl rfl ?_
      refine z_if_lt (tgt := 110) dX0_isInstruction_97 (by decide) (fun c97 => ?_) (fun c97 => ?_)
      · refine z_iconst (v := 0) dX0_isInstruction_110 (by decide) ?_
        exact z_zret dX0_isInstruction_111 rfl (by first | exact Or.inl rfl | exact Or.inr rfl) (by simp_all [b2i]) rfl
      · refine z_iload_n dX0_isInstruction_100 rfl rfl ?_
        refine z_bipush (v := nI 6) dX0_isInstruction_101 (by decide) ?_
        refine z_icmp_ge (tgt := 110) dX0_isInstruction_103 (by decide) (fun c103 => ?_) (fun c103 => ?_)
        · refine z_iconst (v := 0) dX0_isInstruction_110 (by decide) ?_
          exact z_zret dX0_isInstruction_111 rfl (by first | exact Or.inl rfl | exact Or.inr rfl) (by simp_all [b2i]) rfl
        · refine z_iconst (v := 1) dX0_isInstruction_106 (by decide) ?_
          refine z_goto (tgt := 111) dX0_isInstruction_107 (by decide) ?_
          exact z_zret dX0_isInstruction_111 rfl (by first | exact Or.inl rfl | exact Or.inr rfl) (by simp_all [b2i]) rfl
    · refine z_iload_n dX0_isInstruction_0 rfl rfl ?_
      refine z_tableIn (off := 127) (tgt := 128) dX0_isInstruction_1 (by decide) (by decide) (by decide) (by decide) ?_
      refine z_iload_n dX0_isInstruction_128 rfl rfl ?_
      refine z_if_lt (tgt := 142) dX0_isInstruction_129 (by decide) (fun c129 => ?_) (fun c129 => ?_)
      · refine z_iconst (v := 0) dX0_isInstruction_142 (by decide) ?_
        exact z_zret dX0_isInstruction_143 rfl (by first | exact Or.inl rfl | exact Or.inr rfl) (by simp_all [b2i]) rfl
      · refine z_iload_n dX0_isInstruction_132 rfl rfl ?_
        refine z_bipush (v := nI 15) dX0_isInstruction_133 (by decide) ?_
        refine z_icmp_gt (tgt := 142) dX0_isInstruction_135 (by decide) (fun c135 => ?_) (fun c135 => ?_)
        · refine z_iconst (v := 0) dX0_isInstruction_142 (by decide) ?_
          exact z_zret dX0_isInstruction_143 rfl (by first | exact Or.inl rfl | exact Or.inr rfl) (by simp_all [b2i]) rfl
        · refine z_iconst (v := 1) dX0_isInstruction_138 (by decide) ?_
          refine z_goto (tgt := 143) dX0_isInstruction_139 (by decide) ?_
          exact z_zret dX0_isInstruction_143 rfl (by first | exact Or.inl rfl | exact Or.inr rfl) (by simp_all [b2i]) rfl
    · refine z_iload_n dX0_isInstruction_0 rfl rfl ?_
      refine z_tableIn (off := 127) (tgt := 128) dX0_isInstruction_1 (by decide) (by decide) (by decide) (by decide) ?_
      refine z_iload_n dX0_isInstruction_128 rfl rfl ?_
      refine z_if_lt (tgt := 142) dX0_isInstruction_129 (by decide) (fun c129 => ?_) (fun c129 => ?_)
      · refine z_iconst (v := 0) dX0_isInstruction_142 (by decide) ?_
        exact z_zret dX0_isInstruction_143 rfl (by first | exact Or.inl rfl | exact Or.inr rfl) (by simp_all [b2i]) rfl
      · refine z_iload_n dX0_isInstruction_132 rfl rfl ?_
        refine z_bipush (v := nI 15) dX0_isInstruction_133 (by decide) ?_
        refine z_icmp_gt (tgt := 142) dX0_isInstruction_135 (by decide) (fun c135 => ?_) (fun c135 => ?_)
        · refine z_iconst (v := 0) dX0_isInstruction_142 (by decide) ?_
          exact z_zret dX0_isInstruction_143 rfl (by first | exact Or.inl rfl | exact Or.inr rfl) (by simp_all [b2i]) rfl
        · refine z_iconst (v := 1) dX0_isInstruction_138 (by decide) ?_
          refine z_goto (tgt := 143) dX0_isInstruction_139 (by decide) ?_
          exact z_zret dX0_isInstruction_143 rfl (by first | exact Or.inl rfl | exact Or.inr rfl) (by simp_all [b2i]) rfl
    · refine z_iload_n dX0_isInstruction_0 rfl rfl ?_
      refine z_tableIn (off := 127) (tgt := 128) dX0_isInstruction_1 (by decide) (by decide) (by decide) (by decide) ?_
      refine z_iload_n dX0_isInstruction_128 rfl rfl ?_
      refine z_if_lt (tgt := 142) dX0_isInstruction_129 (by decide) (fun c129 => ?_) (fun c129 => ?_)
      · refine z_iconst (v := 0) dX0_isInstruction_142 (by decide) ?_
        exact z_zret dX0_isInstruction_143 rfl (by first | exact Or.inl rfl | exact Or.inr rfl) (by simp_all [b2i]) rfl
      · refine z_iload_n dX0_isInstruction_132 rfl rfl ?_
        refine z_bipush (v := nI 15) dX0_isInstruction_133 (by decide) ?_
        refine z_icmp_gt (tgt := 142) dX0_isInstruction_135 (by decide) (fun c135 => ?_) (fun c135 => ?_)
        · refine z_iconst (v := 0) dX0_isInstruction_142 (by decide) ?_
          exact z_zret dX0_isInstruction_143 rfl (by first | exact Or.inl rfl | exact Or.inr rfl) (by simp_all [b2i]) rfl
        · refine z_iconst (v := 1) dX0_isInstruction_138 (by decide) ?_
          refine z_goto (tgt := 143) dX0_isInstruction_139 (by decide) ?_
          exact z_zret dX0_isInstruction_143 rfl (by first | exact Or.inl rfl | exact Or.inr rfl) (by simp_all [b2i]) rfl
    · refine z_iload_n dX0_isInstruction_0 rfl rfl ?_
      refine z_tableIn (off := 127) (tgt := 128) dX0_isInstruction_1 (by decide) (by decide) (by decide) (by decide) ?_
      refine z_iload_n dX0_isInstruction_128 rfl rfl ?_
      refine z_if_lt (tgt := 142) dX0_isInstruction_129 (by decide) (fun c129 => ?_) (fun c129 => ?_)
      · refine z_iconst (v := 0) dX0_isInstruction_142 (by decide) ?_
        exact z_zret dX0_isInstruction_143 rfl (by first | exact Or.inl rfl | exact Or.inr rfl) (by simp_all [b2i]) rfl
      · refine z_iload_n dX0_isInstruction_132 rfl rfl ?_
        refine z_bipush (v := nI 15) dX0_isInstruction_133 (by decide) ?_
        refine z_icmp_gt (tgt := 142) dX0_isInstruction_135 (by decide) (fun c135 => ?_) (fun c135 => ?_)
        · refine z_iconst (v := 0) dX0_isInstruction_142 (by decide) ?_
          exact z_zret dX0_isInstruction_143 rfl (by first | exact Or.inl rfl | exact Or.inr rfl) (by simp_all [b2i]) rfl
        · refine z_iconst (v := 1) dX0_isInstruction_138 (by decide) ?_
          refine z_goto (tgt := 143) dX0_isInstruction_139 (by decide) ?_
          exact z_zret dX0_isInstruction_143 rfl (by first | exact Or.inl rfl | exact Or.inr rfl) (by simp_all [b2i]) rfl
    · refine z_iload_n dX0_isInstruction_0 rfl rfl ?_
      refine z_tableIn (off := 127) (tgt := 128) dX0_isInstruction_1 (by decide) (by decide) (by decide) (by decide) ?_
      refine z_iload_n dX0_isInstruction_128 rfl rfl ?_
      refine z_if_lt (tgt := 142) dX0_isInstruction_129 (by decide) (fun c129 => ?_) (fun c129 => ?_)
      · refine z_iconst (v := 0) dX0_isInstruction_142 (by decide) ?_
        exact z_zret dX0_isInstruction_143 rfl (by first | exact Or.inl rfl | exact Or.inr rfl) (by simp_all [b2i]) rfl
      · refine z_iload_n dX0_isInstruction_132 rfl rfl ?_
        refine z_bipush (v := nI 15) dX0_isInstruction_133 (by decide) ?_
        refine z_icmp_gt (tgt := 142) dX0_isInstruction_135 (by decide) (fun c135 => ?_) (fun c135 => ?_)
        · refine z_iconst (v := 0) dX0_isInstruction_142 (by decide) ?_
          exact z_zret dX0_isInstruction_143 rfl (by first | exact Or.inl rfl | exact Or.inr rfl) (by simp_all [b2i]) rfl
        · refine z_iconst (v := 1) dX0_isInstruction_138 (by decide) ?_
          refine z_goto (tgt := 143) dX0_isInstruction_139 (by decide) ?_
          exact z_zret dX0_isInstruction_143 rfl (by first | exact Or.inl rfl | exact Or.inr rfl) (by simp_all [b2i]) rfl
    · refine z_iload_n dX0_isInstruction_0 rfl rfl ?_
      refine z_tableIn (off := 127) (tgt := 128) dX0_isInstruction_1 (by decide) (by decide) (by decide) (by decide) ?_
      refine z_iload_n dX0_isInstruction_128 rfl rfl ?_
      refine z_if_lt (tgt := 142) dX0_isInstruction_129 (by decide) (fun c129 => ?_) (fun c129 => ?_)
      · refine z_iconst (v := 0) dX0_isInstruction_142 (by decide) ?_
        exact z_zret dX0_isInstruction_143 rfl (by first | exact Or.inl rfl | exact Or.inr rfl) (by simp_all [b2i]) rfl
      · refine z_iload_n dX0_isInstruction_132 rfl rfl ?_
        refine z_bipush (v := nI 15) dX0_isInstruction_133 (by decide) ?_
        refine z_icmp_gt (tgt := 142) dX0_isInstruction_135 (by decide) (fun c135 => ?_) (fun c135 => ?_)
        · refine z_iconst (v := 0) dX0_isInstruction_142 (by decide) ?_
          exact z_zret dX0_isInstruction_143 rfl (by first | exact Or.inl rfl | exact Or.inr rfl) (by simp_all [b2i]) rfl
        · refine z_iconst (v := 1) dX0_isInstruction_138 (by decide) ?_
          refine z_goto (tgt := 143) dX0_isInstruction_139 (by decide) ?_
          exact z_zret dX0_isInstruction_143 rfl (by first | exact Or.inl rfl | exact Or.inr rfl) (by simp_all [b2i]) rfl
    · refine z_iload_n dX0_isInstruction_0 rfl rfl ?_
      refine z_tableIn (off := 127) (tgt := 128) dX0_isInstruction_1 (by decide) (by decide) (by decide) (by decide) ?_
      refine z_iload_n dX0_isInstruction_128 rfl rfl ?_
      refine z_if_lt (tgt := 142) dX0_isInstruction_129 (by decide) (fun c129 => ?_) (fun c129 => ?_)
      · refine z_iconst (v := 0) dX0_isInstruction_142 (by decide) ?_
        exact z_zret dX0_isInstruction_143 rfl (by first | exact Or.inl rfl | exact Or.inr rfl) (by simp_all [b2i]) rfl
      · refine z_iload_n dX0_isInstruction_132 rfl rfl ?_
        refine z_bipush (v := nI 15) dX0_isInstruction_133 (by decide) ?_
        refine z_icmp_gt (tgt := 142) dX0_isInstruction_135 (by decide) (fun c135 => ?_) (fun c135 => ?_)
        · refine z_iconst (v := 0) dX0_isInstruction_142 (by decide) ?_
          exact z_zret dX0_isInstruction_143 rfl (by first | exact Or.inl rfl | exact Or.inr rfl) (by simp_all [b2i]) rfl
        · refine z_iconst (v := 1) dX0_isInstruction_138 (by decide) ?_
          refine z_goto (tgt := 143) dX0_isInstruction_139 (by decide) ?_
          exact z_zret dX0_isInstruction_143 rfl (by first | exact Or.inl rfl | exact Or.inr rfl) (by simp_all [b2i]) rfl
    · refine z_iload_n dX0_isInstruction_0 rfl rfl ?_
      refine z_tableIn (off := 127) (tgt := 128) dX0_isInstruction_1 (by decide) (by decide) (by decide) (by decide) ?_
      refine z_iload_n dX0_isInstruction_128 rfl rfl ?_
      refine z_if_lt (tgt := 142) dX0_isInstruction_129 (by decide) (fun c129 => ?_) (fun c129 => ?_)
      · refine z_iconst (v := 0) dX0_isInstruction_142 (by decide) ?_
        exact z_zret dX0_isInstruction_143 rfl (by first | exact Or.inl rfl | exact Or.inr rfl) (by simp_all [b2i]) rfl
      · refine z_iload_n dX0_isInstruction_132 rfl rfl ?_
        refine z_bipush (v := nI 15) dX0_isInstruction_133 (by decide) ?_
        refine z_icmp_gt (tgt := 142) dX0_isInstruction_135 (by decide) (fun c135 => ?_) (fun c135 => ?_)
        · refine z_iconst (v := 0) dX0_isInstruction_142 (by decide) ?_
          exact z_zret dX0_isInstruction_143 rfl (by first | exact Or.inl rfl | exact Or.inr rfl) (by simp_all [b2i]) rfl
        · refine z_iconst (v := 1) dX0_isInstruction_138 (by decide) ?_
          refine z_goto (tgt := 143) dX0_isInstruction_139 (by decide) ?_
          exact z_zret dX0_isInstruction_143 rfl (by first | exact Or.inl rfl | exact Or.inr rfl) (by simp_all [b2i]) rfl
    · refine z_iload_n dX0_isInstruction_0 rfl rfl ?_
      refine z_tableIn (off := 127) (tgt := 128) dX0_isInstruction_1 (by decide) (by decide) (by decide) (by decide) ?_
      refine z_iload_n dX0_isInstruction_128 rfl rfl ?_
      refine z_if_lt (tgt := 142) dX0_isInstruction_129 (by decide) (fun c129 => ?_) (fun c129 => ?_)
      · refine z_iconst (v := 0) dX0_isInstruction_142 (by decide) ?_
        exact z_zret dX0_isInstruction_143 rfl (by first | exact Or.inl rfl | exact Or.inr rfl) (by simp_all [b2i]) rfl
      · refine z_iload_n dX0_isInstruction_132 rfl rfl ?_
        refine z_bipush (v := nI 15) dX0_isInstruction_133 (by decide) ?_
        refine z_icmp_gt (tgt := 142) dX0_isInstruction_135 (by decide) (fun c135 => ?_) (fun c135 => ?_)
        · refine z_iconst (v := 0) dX0_isInstruction_142 (by decide) ?_
          exact z_zret dX0_isInstruction_143 rfl (by first | exact Or.inl rfl | exact Or.inr rfl) (by simp_all [b2i]) rfl
        · refine z_iconst (v := 1) dX0_isInstruction_138 (by decide) ?_
          refine z_goto (tgt := 143) dX0_isInstruction_139 (by decide) ?_
          exact z_zret dX0_isInstruction_143 rfl (by first | exact Or.inl rfl | exact Or.inr rfl) (by simp_all [b2i]) rfl
    · refine z_iload_n dX0_isInstruction_0 rfl rfl ?_
      refine z_tableIn (off := 127) (tgt := 128) dX0_isInstruction_1 (by decide) (by decide) (by decide) (by decide) ?_
      refine z_iload_n dX0_isInstruction_128 rfl rfl ?_
      refine z_if_lt (tgt := 142) dX0_isInstruction_129 (by decide) (fun c129 => ?_) (fun c129 => ?_)
      · refine z_iconst (v := 0) dX0_isInstruction_142 (by decide) ?_
        exact z_zret dX0_isInstruction_143 rfl (by first | exact Or.inl rfl | exact Or.inr rfl) (by simp_all [b2i]) rfl
      · refine z_iload_n dX0_isInstruction_132 rfl rfl ?_
        refine z_bipush (v := nI 15) dX0_isInstruction_133 (by decide) ?_
        refine z_icmp_gt (tgt := 142) dX0_isInstruction_135 (by decide) (fun c135 => ?_) (fun c135 => ?_)
        · refine z_iconst (v := 0) dX0_isInstruction_142 (by decide) ?_
          exact z_zret dX0_isInstruction_143 rfl (by first | exact Or.inl rfl | exact Or.inr rfl) (by simp_all [b2i]) rfl
        · refine z_iconst (v := 1) dX0_isInstruction_138 (by decide) ?_
          refine z_goto (tgt := 143) dX0_isInstruction_139 (by decide) ?_
          exact z_zret dX0_isInstruction_143 rfl (by first | exact Or.inl rfl | exact Or.inr rfl) (by simp_all [b2i]) rfl
    · refine z_iload_n dX0_isInstruction_0 rfl rfl ?_
      refine z_tableIn (off := 111) (tgt := 112) dX0_isInstruction_1 (by decide) (by decide) (by decide) (by decide) ?_
      refine z_iload_n dX0_isInstruction_112 rfl rfl ?_
      refine z_if_lt (tgt := 126) dX0_isInstruction_113 (by decide) (fun c113 => ?_) (fun c113 => ?_)
      · refine z_iconst (v := 0) dX0_isInstruction_126 (by decide) ?_
        exact z_zret dX0_isInstruction_127 rfl (by first | exact Or.inl rfl | exact Or.inr rfl) (by simp_all [b2i]) rfl
      · refine z_iload_n dX0_isInstruction_116 rfl rfl ?_
        refine z_bipush (v := nI 40) dX0_isInstruction_117 (by decide) ?_
        refine z_icmp_ge (tgt := 126) dX0_isInstruction_119 (by decide) (fun c119 => ?_) (fun c119 => ?_)
        · refine z_iconst (v := 0) dX0_isInstruction_126 (by decide) ?_
          exact z_zret dX0_isInstruction_127 rfl (by first | exact Or.inl rfl | exact Or.inr rfl) (by simp_all [b2i]) rfl
        · refine z_iconst (v := 1) dX0_isInstruction_122 (by decide) ?_
          refine z_goto (tgt := 127) dX0_isInstruction_123 (by decide) ?_
          exact z_zret dX0_isInstruction_127 rfl (by first | exact Or.inl rfl | exact Or.inr rfl) (by simp_all [b2i]) rfl
    · refine z_iload_n dX0_isInstruction_0 rfl rfl ?_
      refine z_tableIn (off := 111) (tgt := 112) dX0_isInstruction_1 (by decide) (by decide) (by decide) (by decide) ?_
      refine z_iload_n dX0_isInstruction_112 rfl rfl ?_
      refine z_if_lt (tgt := 126) dX0_isInstruction_113 (by decide) (fun c113 => ?_) (fun c113 => ?_)
      · refine z_iconst (v := 0) dX0_isInstruction_126 (by decide) ?_
        exact z_zret dX0_isInstruction_127 rfl (by first | exact Or.inl rfl | exact Or.inr rfl) (by simp_all [b2i]) rfl
      · refine z_iload_n dX0_isInstruction_116 rfl rfl ?_
        refine z_bipush (v := nI 40) dX0_isInstruction_117 (by decide) ?_
        refine z_icmp_ge (tgt := 126) dX0_isInstruction_119 (by decide) (fun c119 => ?_) (fun c119 => ?_)
        · refine z_iconst (v := 0) dX0_isInstruction_126 (by decide) ?_
          exact z_zret dX0_isInstruction_127 rfl (by first | exact Or.inl rfl | exact Or.inr rfl) (by simp_all [b2i]) rfl
        · refine z_iconst (v := 1) dX0_isInstruction_122 (by decide) ?_
          refine z_goto (tgt := 127) dX0_isInstruction_123 (by decide) ?_
          exact z_zret dX0_isInstruction_127 rfl (by first | exact Or.inl rfl | exact Or.inr rfl) (by simp_all [b2i]) rfl
end
