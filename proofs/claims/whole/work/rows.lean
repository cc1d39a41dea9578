section
-- ===== PART A: goes FIRST, ahead of the names: the tables' words, and 'selects' of the private methods out of them =====
/-- a private method of a class that the tables say can be made, by its rows of tables_1 -/
def lw_okq (q : MethodName × Nat) : Prop := (q.1.cls ≠ "java/lang/invoke/MethodHandle" ∧ q.1.cls ≠ "java/lang/invoke/VarHandle") ∧ Cond.instantiable q.1.cls q.2 ∈ tables_1 ∧ Cond.privateMethod q.1 ∈ tables_1 ∧ Cond.instanceMethod q.1 ∈ tables_1
theorem lw_p0 : lw_okq (⟨"LoafMemory", "recordChange", "()V"⟩, 10) := ⟨⟨by decide +kernel, by decide +kernel⟩, List.mem_of_getElem? (i := 12) (by decide +kernel), List.mem_of_getElem? (i := 247) (by decide +kernel), List.mem_of_getElem? (i := 248) (by decide +kernel)⟩
theorem lw_p1 : lw_okq (⟨"LoafMemory", "dropOldestChange", "()V"⟩, 10) := ⟨⟨by decide +kernel, by decide +kernel⟩, List.mem_of_getElem? (i := 12) (by decide +kernel), List.mem_of_getElem? (i := 251) (by decide +kernel), List.mem_of_getElem? (i := 252) (by decide +kernel)⟩
theorem lw_p2 : lw_okq (⟨"LoafMemory$Baker", "begin", "(LLoafMemory$State;Z)V"⟩, 7) := ⟨⟨by decide +kernel, by decide +kernel⟩, List.mem_of_getElem? (i := 132) (by decide +kernel), List.mem_of_getElem? (i := 303) (by decide +kernel), List.mem_of_getElem? (i := 304) (by decide +kernel)⟩
theorem lw_p3 : lw_okq (⟨"LoafMemory$Baker", "loafValue", "(II)I"⟩, 7) := ⟨⟨by decide +kernel, by decide +kernel⟩, List.mem_of_getElem? (i := 132) (by decide +kernel), List.mem_of_getElem? (i := 310) (by decide +kernel), List.mem_of_getElem? (i := 311) (by decide +kernel)⟩
theorem lw_p4 : lw_okq (⟨"LoafMemory$Baker", "freshValue", "(ILLoafMemory$Recipe;)I"⟩, 7) := ⟨⟨by decide +kernel, by decide +kernel⟩, List.mem_of_getElem? (i := 132) (by decide +kernel), List.mem_of_getElem? (i := 314) (by decide +kernel), List.mem_of_getElem? (i := 315) (by decide +kernel)⟩
theorem lw_p5 : lw_okq (⟨"LoafMemory$Baker", "reckon", "(ILLoafMemory$Recipe;)I"⟩, 7) := ⟨⟨by decide +kernel, by decide +kernel⟩, List.mem_of_getElem? (i := 132) (by decide +kernel), List.mem_of_getElem? (i := 318) (by decide +kernel), List.mem_of_getElem? (i := 319) (by decide +kernel)⟩
theorem lw_p6 : lw_okq (⟨"LoafMemory$Baker", "lookedUp", "(ILLoafMemory$Memory;)I"⟩, 7) := ⟨⟨by decide +kernel, by decide +kernel⟩, List.mem_of_getElem? (i := 132) (by decide +kernel), List.mem_of_getElem? (i := 329) (by decide +kernel), List.mem_of_getElem? (i := 330) (by decide +kernel)⟩
theorem lw_p7 : lw_okq (⟨"LoafMemory$Baker", "valueNow", "(II)I"⟩, 7) := ⟨⟨by decide +kernel, by decide +kernel⟩, List.mem_of_getElem? (i := 132) (by decide +kernel), List.mem_of_getElem? (i := 338) (by decide +kernel), List.mem_of_getElem? (i := 339) (by decide +kernel)⟩
theorem lw_p8 : lw_okq (⟨"LoafMemory$Baker", "rememberedValue", "(ILLoafMemory$Recipe;)I"⟩, 7) := ⟨⟨by decide +kernel, by decide +kernel⟩, List.mem_of_getElem? (i := 132) (by decide +kernel), List.mem_of_getElem? (i := 350) (by decide +kernel), List.mem_of_getElem? (i := 351) (by decide +kernel)⟩
theorem lw_p9 : lw_okq (⟨"LoafMemory$Baker", "fittingMemory", "(I)I"⟩, 7) := ⟨⟨by decide +kernel, by decide +kernel⟩, List.mem_of_getElem? (i := 132) (by decide +kernel), List.mem_of_getElem? (i := 354) (by decide +kernel), List.mem_of_getElem? (i := 355) (by decide +kernel)⟩
theorem lw_p10 : lw_okq (⟨"LoafMemory$Baker", "isAsItWas", "(LLoafMemory$Memory;I)Z"⟩, 7) := ⟨⟨by decide +kernel, by decide +kernel⟩, List.mem_of_getElem? (i := 132) (by decide +kernel), List.mem_of_getElem? (i := 366) (by decide +kernel), List.mem_of_getElem? (i := 367) (by decide +kernel)⟩
theorem lw_p11 : lw_okq (⟨"LoafMemory", "isMemory", "(I)Z"⟩, 10) := ⟨⟨by decide +kernel, by decide +kernel⟩, List.mem_of_getElem? (i := 12) (by decide +kernel), List.mem_of_getElem? (i := 384) (by decide +kernel), List.mem_of_getElem? (i := 385) (by decide +kernel)⟩
theorem lw_p12 : lw_okq (⟨"LoafMemory$Reader", "begin", "()V"⟩, 10) := ⟨⟨by decide +kernel, by decide +kernel⟩, List.mem_of_getElem? (i := 165) (by decide +kernel), List.mem_of_getElem? (i := 409) (by decide +kernel), List.mem_of_getElem? (i := 410) (by decide +kernel)⟩
theorem lw_p13 : lw_okq (⟨"LoafMemory$Reader", "takes", "(I)Z"⟩, 10) := ⟨⟨by decide +kernel, by decide +kernel⟩, List.mem_of_getElem? (i := 165) (by decide +kernel), List.mem_of_getElem? (i := 413) (by decide +kernel), List.mem_of_getElem? (i := 414) (by decide +kernel)⟩
theorem lw_p14 : lw_okq (⟨"LoafMemory$Reader", "takesStart", "(I)Z"⟩, 10) := ⟨⟨by decide +kernel, by decide +kernel⟩, List.mem_of_getElem? (i := 165) (by decide +kernel), List.mem_of_getElem? (i := 417) (by decide +kernel), List.mem_of_getElem? (i := 418) (by decide +kernel)⟩
theorem lw_p15 : lw_okq (⟨"LoafMemory$Reader", "opens", "(I)Z"⟩, 10) := ⟨⟨by decide +kernel, by decide +kernel⟩, List.mem_of_getElem? (i := 165) (by decide +kernel), List.mem_of_getElem? (i := 421) (by decide +kernel), List.mem_of_getElem? (i := 422) (by decide +kernel)⟩
def lw_privs_1 : List (MethodName × Nat) := [(⟨"LoafMemory", "recordChange", "()V"⟩, 10), (⟨"LoafMemory", "dropOldestChange", "()V"⟩, 10), (⟨"LoafMemory$Baker", "begin", "(LLoafMemory$State;Z)V"⟩, 7), (⟨"LoafMemory$Baker", "loafValue", "(II)I"⟩, 7), (⟨"LoafMemory$Baker", "freshValue", "(ILLoafMemory$Recipe;)I"⟩, 7), (⟨"LoafMemory$Baker", "reckon", "(ILLoafMemory$Recipe;)I"⟩, 7), (⟨"LoafMemory$Baker", "lookedUp", "(ILLoafMemory$Memory;)I"⟩, 7), (⟨"LoafMemory$Baker", "valueNow", "(II)I"⟩, 7), (⟨"LoafMemory$Baker", "rememberedValue", "(ILLoafMemory$Recipe;)I"⟩, 7), (⟨"LoafMemory$Baker", "fittingMemory", "(I)I"⟩, 7), (⟨"LoafMemory$Baker", "isAsItWas", "(LLoafMemory$Memory;I)Z"⟩, 7), (⟨"LoafMemory", "isMemory", "(I)Z"⟩, 10), (⟨"LoafMemory$Reader", "begin", "()V"⟩, 10), (⟨"LoafMemory$Reader", "takes", "(I)Z"⟩, 10), (⟨"LoafMemory$Reader", "takesStart", "(I)Z"⟩, 10), (⟨"LoafMemory$Reader", "opens", "(I)Z"⟩, 10)]
theorem lw_r1 : ∀ q ∈ lw_privs_1, lw_okq q := List.forall_mem_cons.mpr ⟨lw_p0, List.forall_mem_cons.mpr ⟨lw_p1, List.forall_mem_cons.mpr ⟨lw_p2, List.forall_mem_cons.mpr ⟨lw_p3, List.forall_mem_cons.mpr ⟨lw_p4, List.forall_mem_cons.mpr ⟨lw_p5, List.forall_mem_cons.mpr ⟨lw_p6, List.forall_mem_cons.mpr ⟨lw_p7, List.forall_mem_cons.mpr ⟨lw_p8, List.forall_mem_cons.mpr ⟨lw_p9, List.forall_mem_cons.mpr ⟨lw_p10, List.forall_mem_cons.mpr ⟨lw_p11, List.forall_mem_cons.mpr ⟨lw_p12, List.forall_mem_cons.mpr ⟨lw_p13, List.forall_mem_cons.mpr ⟨lw_p14, List.forall_mem_cons.mpr ⟨lw_p15, fun _ h => absurd h List.not_mem_nil⟩⟩⟩⟩⟩⟩⟩⟩⟩⟩⟩⟩⟩⟩⟩⟩
theorem lw_p16 : lw_okq (⟨"LoafMemory$Reader", "addsPart", "(II)Z"⟩, 10) := ⟨⟨by decide +kernel, by decide +kernel⟩, List.mem_of_getElem? (i := 165) (by decide +kernel), List.mem_of_getElem? (i := 428) (by decide +kernel), List.mem_of_getElem? (i := 429) (by decide +kernel)⟩
theorem lw_p17 : lw_okq (⟨"LoafMemory$Reader", "adds", "(II)Z"⟩, 10) := ⟨⟨by decide +kernel, by decide +kernel⟩, List.mem_of_getElem? (i := 165) (by decide +kernel), List.mem_of_getElem? (i := 432) (by decide +kernel), List.mem_of_getElem? (i := 433) (by decide +kernel)⟩
theorem lw_p18 : lw_okq (⟨"LoafMemory$Reader", "takesLoafDigit", "(I)Z"⟩, 10) := ⟨⟨by decide +kernel, by decide +kernel⟩, List.mem_of_getElem? (i := 165) (by decide +kernel), List.mem_of_getElem? (i := 437) (by decide +kernel), List.mem_of_getElem? (i := 438) (by decide +kernel)⟩
theorem lw_p19 : lw_okq (⟨"LoafMemory$Reader", "takesNextDigit", "(I)Z"⟩, 10) := ⟨⟨by decide +kernel, by decide +kernel⟩, List.mem_of_getElem? (i := 165) (by decide +kernel), List.mem_of_getElem? (i := 441) (by decide +kernel), List.mem_of_getElem? (i := 442) (by decide +kernel)⟩
theorem lw_p20 : lw_okq (⟨"LoafMemory$Reader", "takesAfterRecipe", "(I)Z"⟩, 10) := ⟨⟨by decide +kernel, by decide +kernel⟩, List.mem_of_getElem? (i := 165) (by decide +kernel), List.mem_of_getElem? (i := 446) (by decide +kernel), List.mem_of_getElem? (i := 447) (by decide +kernel)⟩
theorem lw_p21 : lw_okq (⟨"LoafMemory$Reader", "takesOperation", "(I)Z"⟩, 10) := ⟨⟨by decide +kernel, by decide +kernel⟩, List.mem_of_getElem? (i := 165) (by decide +kernel), List.mem_of_getElem? (i := 450) (by decide +kernel), List.mem_of_getElem? (i := 451) (by decide +kernel)⟩
theorem lw_p22 : lw_okq (⟨"LoafMemory$Reader", "waitsNext", "(I)Z"⟩, 10) := ⟨⟨by decide +kernel, by decide +kernel⟩, List.mem_of_getElem? (i := 165) (by decide +kernel), List.mem_of_getElem? (i := 454) (by decide +kernel), List.mem_of_getElem? (i := 455) (by decide +kernel)⟩
theorem lw_p23 : lw_okq (⟨"LoafMemory$Reader", "takesQuestion", "()Z"⟩, 10) := ⟨⟨by decide +kernel, by decide +kernel⟩, List.mem_of_getElem? (i := 165) (by decide +kernel), List.mem_of_getElem? (i := 458) (by decide +kernel), List.mem_of_getElem? (i := 459) (by decide +kernel)⟩
theorem lw_p24 : lw_okq (⟨"LoafMemory$Reader", "takesColon", "()Z"⟩, 10) := ⟨⟨by decide +kernel, by decide +kernel⟩, List.mem_of_getElem? (i := 165) (by decide +kernel), List.mem_of_getElem? (i := 462) (by decide +kernel), List.mem_of_getElem? (i := 463) (by decide +kernel)⟩
theorem lw_p25 : lw_okq (⟨"LoafMemory$Reader", "closesEnd", "(I)V"⟩, 10) := ⟨⟨by decide +kernel, by decide +kernel⟩, List.mem_of_getElem? (i := 165) (by decide +kernel), List.mem_of_getElem? (i := 466) (by decide +kernel), List.mem_of_getElem? (i := 467) (by decide +kernel)⟩
theorem lw_p26 : lw_okq (⟨"LoafMemory$Reader", "takesBrace", "()Z"⟩, 10) := ⟨⟨by decide +kernel, by decide +kernel⟩, List.mem_of_getElem? (i := 165) (by decide +kernel), List.mem_of_getElem? (i := 470) (by decide +kernel), List.mem_of_getElem? (i := 471) (by decide +kernel)⟩
theorem lw_p27 : lw_okq (⟨"LoafMemory$Reader", "takesBracket", "()Z"⟩, 10) := ⟨⟨by decide +kernel, by decide +kernel⟩, List.mem_of_getElem? (i := 165) (by decide +kernel), List.mem_of_getElem? (i := 474) (by decide +kernel), List.mem_of_getElem? (i := 475) (by decide +kernel)⟩
theorem lw_p28 : lw_okq (⟨"LoafMemoryModel", "compile", "()I"⟩, 33) := ⟨⟨by decide +kernel, by decide +kernel⟩, List.mem_of_getElem? (i := 620) (by decide +kernel), List.mem_of_getElem? (i := 744) (by decide +kernel), List.mem_of_getElem? (i := 745) (by decide +kernel)⟩
theorem lw_p29 : lw_okq (⟨"LoafMemoryModel", "readSimple", "()Z"⟩, 33) := ⟨⟨by decide +kernel, by decide +kernel⟩, List.mem_of_getElem? (i := 620) (by decide +kernel), List.mem_of_getElem? (i := 748) (by decide +kernel), List.mem_of_getElem? (i := 749) (by decide +kernel)⟩
theorem lw_p30 : lw_okq (⟨"LoafMemoryModel", "sign", "()I"⟩, 33) := ⟨⟨by decide +kernel, by decide +kernel⟩, List.mem_of_getElem? (i := 620) (by decide +kernel), List.mem_of_getElem? (i := 752) (by decide +kernel), List.mem_of_getElem? (i := 753) (by decide +kernel)⟩
theorem lw_p31 : lw_okq (⟨"LoafMemoryModel", "expect", "(II)V"⟩, 33) := ⟨⟨by decide +kernel, by decide +kernel⟩, List.mem_of_getElem? (i := 620) (by decide +kernel), List.mem_of_getElem? (i := 756) (by decide +kernel), List.mem_of_getElem? (i := 757) (by decide +kernel)⟩
def lw_privs_2 : List (MethodName × Nat) := [(⟨"LoafMemory$Reader", "addsPart", "(II)Z"⟩, 10), (⟨"LoafMemory$Reader", "adds", "(II)Z"⟩, 10), (⟨"LoafMemory$Reader", "takesLoafDigit", "(I)Z"⟩, 10), (⟨"LoafMemory$Reader", "takesNextDigit", "(I)Z"⟩, 10), (⟨"LoafMemory$Reader", "takesAfterRecipe", "(I)Z"⟩, 10), (⟨"LoafMemory$Reader", "takesOperation", "(I)Z"⟩, 10), (⟨"LoafMemory$Reader", "waitsNext", "(I)Z"⟩, 10), (⟨"LoafMemory$Reader", "takesQuestion", "()Z"⟩, 10), (⟨"LoafMemory$Reader", "takesColon", "()Z"⟩, 10), (⟨"LoafMemory$Reader", "closesEnd", "(I)V"⟩, 10), (⟨"LoafMemory$Reader", "takesBrace", "()Z"⟩, 10), (⟨"LoafMemory$Reader", "takesBracket", "()Z"⟩, 10), (⟨"LoafMemoryModel", "compile", "()I"⟩, 33), (⟨"LoafMemoryModel", "readSimple", "()Z"⟩, 33), (⟨"LoafMemoryModel", "sign", "()I"⟩, 33), (⟨"LoafMemoryModel", "expect", "(II)V"⟩, 33)]
theorem lw_r2 : ∀ q ∈ lw_privs_2, lw_okq q := List.forall_mem_cons.mpr ⟨lw_p16, List.forall_mem_cons.mpr ⟨lw_p17, List.forall_mem_cons.mpr ⟨lw_p18, List.forall_mem_cons.mpr ⟨lw_p19, List.forall_mem_cons.mpr ⟨lw_p20, List.forall_mem_cons.mpr ⟨lw_p21, List.forall_mem_cons.mpr ⟨lw_p22, List.forall_mem_cons.mpr ⟨lw_p23, List.forall_mem_cons.mpr ⟨lw_p24, List.forall_mem_cons.mpr ⟨lw_p25, List.forall_mem_cons.mpr ⟨lw_p26, List.forall_mem_cons.mpr ⟨lw_p27, List.forall_mem_cons.mpr ⟨lw_p28, List.forall_mem_cons.mpr ⟨lw_p29, List.forall_mem_cons.mpr ⟨lw_p30, List.forall_mem_cons.mpr ⟨lw_p31, fun _ h => absurd h List.not_mem_nil⟩⟩⟩⟩⟩⟩⟩⟩⟩⟩⟩⟩⟩⟩⟩⟩
theorem lw_p32 : lw_okq (⟨"LoafMemoryModel", "lay", "(II)V"⟩, 33) := ⟨⟨by decide +kernel, by decide +kernel⟩, List.mem_of_getElem? (i := 620) (by decide +kernel), List.mem_of_getElem? (i := 762) (by decide +kernel), List.mem_of_getElem? (i := 763) (by decide +kernel)⟩
theorem lw_p33 : lw_okq (⟨"LoafMemoryModel", "goOut", "()I"⟩, 33) := ⟨⟨by decide +kernel, by decide +kernel⟩, List.mem_of_getElem? (i := 620) (by decide +kernel), List.mem_of_getElem? (i := 769) (by decide +kernel), List.mem_of_getElem? (i := 770) (by decide +kernel)⟩
theorem lw_p34 : lw_okq (⟨"LoafMemoryModel", "record", "()V"⟩, 33) := ⟨⟨by decide +kernel, by decide +kernel⟩, List.mem_of_getElem? (i := 620) (by decide +kernel), List.mem_of_getElem? (i := 778) (by decide +kernel), List.mem_of_getElem? (i := 779) (by decide +kernel)⟩
theorem lw_p35 : lw_okq (⟨"LoafMemoryModel", "askOn", "([II)I"⟩, 33) := ⟨⟨by decide +kernel, by decide +kernel⟩, List.mem_of_getElem? (i := 620) (by decide +kernel), List.mem_of_getElem? (i := 809) (by decide +kernel), List.mem_of_getElem? (i := 810) (by decide +kernel)⟩
theorem lw_p36 : lw_okq (⟨"LoafMemoryModel", "begin", "([III)V"⟩, 33) := ⟨⟨by decide +kernel, by decide +kernel⟩, List.mem_of_getElem? (i := 620) (by decide +kernel), List.mem_of_getElem? (i := 813) (by decide +kernel), List.mem_of_getElem? (i := 814) (by decide +kernel)⟩
theorem lw_p37 : lw_okq (⟨"LoafMemoryModel", "checkMemories", "([II)V"⟩, 33) := ⟨⟨by decide +kernel, by decide +kernel⟩, List.mem_of_getElem? (i := 620) (by decide +kernel), List.mem_of_getElem? (i := 820) (by decide +kernel), List.mem_of_getElem? (i := 821) (by decide +kernel)⟩
theorem lw_p38 : lw_okq (⟨"LoafMemoryModel", "nextName", "(I)V"⟩, 33) := ⟨⟨by decide +kernel, by decide +kernel⟩, List.mem_of_getElem? (i := 620) (by decide +kernel), List.mem_of_getElem? (i := 827) (by decide +kernel), List.mem_of_getElem? (i := 828) (by decide +kernel)⟩
theorem lw_p39 : lw_okq (⟨"LoafMemoryModel", "useMemory", "([II)V"⟩, 33) := ⟨⟨by decide +kernel, by decide +kernel⟩, List.mem_of_getElem? (i := 620) (by decide +kernel), List.mem_of_getElem? (i := 831) (by decide +kernel), List.mem_of_getElem? (i := 832) (by decide +kernel)⟩
theorem lw_p40 : lw_okq (⟨"LoafMemoryModel", "compare", "([III)V"⟩, 33) := ⟨⟨by decide +kernel, by decide +kernel⟩, List.mem_of_getElem? (i := 620) (by decide +kernel), List.mem_of_getElem? (i := 841) (by decide +kernel), List.mem_of_getElem? (i := 842) (by decide +kernel)⟩
theorem lw_p41 : lw_okq (⟨"LoafMemoryModel", "bake", "([II)V"⟩, 33) := ⟨⟨by decide +kernel, by decide +kernel⟩, List.mem_of_getElem? (i := 620) (by decide +kernel), List.mem_of_getElem? (i := 845) (by decide +kernel), List.mem_of_getElem? (i := 846) (by decide +kernel)⟩
theorem lw_p42 : lw_okq (⟨"LoafMemoryModel", "pop", "(I)I"⟩, 33) := ⟨⟨by decide +kernel, by decide +kernel⟩, List.mem_of_getElem? (i := 620) (by decide +kernel), List.mem_of_getElem? (i := 849) (by decide +kernel), List.mem_of_getElem? (i := 850) (by decide +kernel)⟩
theorem lw_p43 : lw_okq (⟨"LoafMemoryModel", "endBaking", "([III)V"⟩, 33) := ⟨⟨by decide +kernel, by decide +kernel⟩, List.mem_of_getElem? (i := 620) (by decide +kernel), List.mem_of_getElem? (i := 853) (by decide +kernel), List.mem_of_getElem? (i := 854) (by decide +kernel)⟩
theorem lw_p44 : lw_okq (⟨"LoafMemoryModel", "push", "(II)V"⟩, 33) := ⟨⟨by decide +kernel, by decide +kernel⟩, List.mem_of_getElem? (i := 620) (by decide +kernel), List.mem_of_getElem? (i := 857) (by decide +kernel), List.mem_of_getElem? (i := 858) (by decide +kernel)⟩
theorem lw_p45 : lw_okq (⟨"LoafMemoryModel", "lookOf", "(II)I"⟩, 33) := ⟨⟨by decide +kernel, by decide +kernel⟩, List.mem_of_getElem? (i := 620) (by decide +kernel), List.mem_of_getElem? (i := 861) (by decide +kernel), List.mem_of_getElem? (i := 862) (by decide +kernel)⟩
theorem lw_p46 : lw_okq (⟨"LoafMemoryModel", "take", "([IIII)V"⟩, 33) := ⟨⟨by decide +kernel, by decide +kernel⟩, List.mem_of_getElem? (i := 620) (by decide +kernel), List.mem_of_getElem? (i := 865) (by decide +kernel), List.mem_of_getElem? (i := 866) (by decide +kernel)⟩
theorem lw_p47 : lw_okq (⟨"LoafMemoryModel", "comeBack", "([IIII)V"⟩, 33) := ⟨⟨by decide +kernel, by decide +kernel⟩, List.mem_of_getElem? (i := 620) (by decide +kernel), List.mem_of_getElem? (i := 872) (by decide +kernel), List.mem_of_getElem? (i := 873) (by decide +kernel)⟩
def lw_privs_3 : List (MethodName × Nat) := [(⟨"LoafMemoryModel", "lay", "(II)V"⟩, 33), (⟨"LoafMemoryModel", "goOut", "()I"⟩, 33), (⟨"LoafMemoryModel", "record", "()V"⟩, 33), (⟨"LoafMemoryModel", "askOn", "([II)I"⟩, 33), (⟨"LoafMemoryModel", "begin", "([III)V"⟩, 33), (⟨"LoafMemoryModel", "checkMemories", "([II)V"⟩, 33), (⟨"LoafMemoryModel", "nextName", "(I)V"⟩, 33), (⟨"LoafMemoryModel", "useMemory", "([II)V"⟩, 33), (⟨"LoafMemoryModel", "compare", "([III)V"⟩, 33), (⟨"LoafMemoryModel", "bake", "([II)V"⟩, 33), (⟨"LoafMemoryModel", "pop", "(I)I"⟩, 33), (⟨"LoafMemoryModel", "endBaking", "([III)V"⟩, 33), (⟨"LoafMemoryModel", "push", "(II)V"⟩, 33), (⟨"LoafMemoryModel", "lookOf", "(II)I"⟩, 33), (⟨"LoafMemoryModel", "take", "([IIII)V"⟩, 33), (⟨"LoafMemoryModel", "comeBack", "([IIII)V"⟩, 33)]
theorem lw_r3 : ∀ q ∈ lw_privs_3, lw_okq q := List.forall_mem_cons.mpr ⟨lw_p32, List.forall_mem_cons.mpr ⟨lw_p33, List.forall_mem_cons.mpr ⟨lw_p34, List.forall_mem_cons.mpr ⟨lw_p35, List.forall_mem_cons.mpr ⟨lw_p36, List.forall_mem_cons.mpr ⟨lw_p37, List.forall_mem_cons.mpr ⟨lw_p38, List.forall_mem_cons.mpr ⟨lw_p39, List.forall_mem_cons.mpr ⟨lw_p40, List.forall_mem_cons.mpr ⟨lw_p41, List.forall_mem_cons.mpr ⟨lw_p42, List.forall_mem_cons.mpr ⟨lw_p43, List.forall_mem_cons.mpr ⟨lw_p44, List.forall_mem_cons.mpr ⟨lw_p45, List.forall_mem_cons.mpr ⟨lw_p46, List.forall_mem_cons.mpr ⟨lw_p47, fun _ h => absurd h List.not_mem_nil⟩⟩⟩⟩⟩⟩⟩⟩⟩⟩⟩⟩⟩⟩⟩⟩
theorem lw_p48 : lw_okq (⟨"LoafMemoryModel", "reckonAll", "([I)V"⟩, 33) := ⟨⟨by decide +kernel, by decide +kernel⟩, List.mem_of_getElem? (i := 620) (by decide +kernel), List.mem_of_getElem? (i := 916) (by decide +kernel), List.mem_of_getElem? (i := 917) (by decide +kernel)⟩
theorem lw_p49 : lw_okq (⟨"LoafMemoryModel", "reckonLoaf", "([II)V"⟩, 33) := ⟨⟨by decide +kernel, by decide +kernel⟩, List.mem_of_getElem? (i := 620) (by decide +kernel), List.mem_of_getElem? (i := 920) (by decide +kernel), List.mem_of_getElem? (i := 921) (by decide +kernel)⟩
theorem lw_p50 : lw_okq (⟨"LoafMemoryModel", "allAlike", "(I)Z"⟩, 33) := ⟨⟨by decide +kernel, by decide +kernel⟩, List.mem_of_getElem? (i := 620) (by decide +kernel), List.mem_of_getElem? (i := 928) (by decide +kernel), List.mem_of_getElem? (i := 929) (by decide +kernel)⟩
def lw_privs_4 : List (MethodName × Nat) := [(⟨"LoafMemoryModel", "reckonAll", "([I)V"⟩, 33), (⟨"LoafMemoryModel", "reckonLoaf", "([II)V"⟩, 33), (⟨"LoafMemoryModel", "allAlike", "(I)Z"⟩, 33)]
theorem lw_r4 : ∀ q ∈ lw_privs_4, lw_okq q := List.forall_mem_cons.mpr ⟨lw_p48, List.forall_mem_cons.mpr ⟨lw_p49, List.forall_mem_cons.mpr ⟨lw_p50, fun _ h => absurd h List.not_mem_nil⟩⟩⟩
def lw_privs : List (MethodName × Nat) := lw_privs_1 ++ (lw_privs_2 ++ (lw_privs_3 ++ (lw_privs_4)))
def lw_tbl : List Cond := k2_sels lw_privs ++ tables_1
theorem lw_privs_ok : ∀ q ∈ lw_privs, lw_okq q := by
  show ∀ q ∈ lw_privs_1 ++ (lw_privs_2 ++ (lw_privs_3 ++ (lw_privs_4))), lw_okq q
  exact List.forall_mem_append.mpr ⟨lw_r1, List.forall_mem_append.mpr ⟨lw_r2, List.forall_mem_append.mpr ⟨lw_r3, lw_r4⟩⟩⟩
-- ===== end of PART A; then your names; then what follows =====
def RX0 : String := "LoafMemory$Baker"
def TX0 : u_T := fun k => match k with
  | 0 => ("LoafMemory$Baker", "state", "LLoafMemory$State;", false)
  | 1 => ("LoafMemory$Baker", "freshly", "Z", false)
  | 2 => ("LoafMemory$Baker", "shelvesSeen", "I", false)
  | 3 => ("LoafMemory$Baker", "freshValues", "[I", true)
  | 4 => ("LoafMemory$Baker", "drafts", "[LLoafMemory$Memory;", true)
  | 5 => ("LoafMemory$Baker", "piles", "[[I", true)
  | _ => ("LoafMemory$Baker", "serials", "[[I", true)
def tyX0 : Nat → FieldType := fun k => match k with
  | 0 => .object "LoafMemory$State"
  | 1 => .boolean
  | 2 => .int
  | 3 => .array .int
  | 4 => .array (.object "LoafMemory$Memory")
  | 5 => .array (.array .int)
  | _ => .array (.array .int)
theorem nmX0 : ∀ a, a < 7 → ∀ b, b < 7 → a ≠ b → (TX0 a).2.1 ≠ (TX0 b).2.1 := by decide +kernel
theorem tyX0_ok : ∀ k, k < 7 → parseFieldDescriptor (TX0 k).2.2.1 = some (tyX0 k) := by decide +kernel
abbrev cX0_init : ByteArray := prog_2_method_1_code
def yX0_init : MethodName := ⟨RX0, "<init>", "()V"⟩
abbrev cX0_askedResult : ByteArray := prog_2_method_2_code
def yX0_askedResult : MethodName := ⟨RX0, "askedResult", "(LLoafMemory$State;I)I"⟩
abbrev cX0_freshResult : ByteArray := prog_2_method_3_code
def yX0_freshResult : MethodName := ⟨RX0, "freshResult", "(LLoafMemory$State;I)I"⟩
abbrev cX0_shelvesOfFresh : ByteArray := prog_2_method_4_code
def yX0_shelvesOfFresh : MethodName := ⟨RX0, "shelvesOfFresh", "(LLoafMemory$State;I)I"⟩
abbrev cX0_fittingPlace : ByteArray := prog_2_method_5_code
def yX0_fittingPlace : MethodName := ⟨RX0, "fittingPlace", "(LLoafMemory$State;I)I"⟩
abbrev cX0_begin : ByteArray := prog_2_method_6_code
def yX0_begin : MethodName := ⟨RX0, "begin", "(LLoafMemory$State;Z)V"⟩
abbrev cX0_loafValue : ByteArray := prog_2_method_7_code
def yX0_loafValue : MethodName := ⟨RX0, "loafValue", "(II)I"⟩
abbrev cX0_freshValue : ByteArray := prog_2_method_8_code
def yX0_freshValue : MethodName := ⟨RX0, "freshValue", "(ILLoafMemory$Recipe;)I"⟩
abbrev cX0_rememberedValue : ByteArray := prog_2_method_9_code
def yX0_rememberedValue : MethodName := ⟨RX0, "rememberedValue", "(ILLoafMemory$Recipe;)I"⟩
abbrev cX0_fittingMemory : ByteArray := prog_2_method_10_code
def yX0_fittingMemory : MethodName := ⟨RX0, "fittingMemory", "(I)I"⟩
abbrev cX0_isAsItWas : ByteArray := prog_2_method_11_code
def yX0_isAsItWas : MethodName := ⟨RX0, "isAsItWas", "(LLoafMemory$Memory;I)Z"⟩
abbrev cX0_valueNow : ByteArray := prog_2_method_12_code
def yX0_valueNow : MethodName := ⟨RX0, "valueNow", "(II)I"⟩
abbrev cX0_lookedUp : ByteArray := prog_2_method_13_code
def yX0_lookedUp : MethodName := ⟨RX0, "lookedUp", "(ILLoafMemory$Memory;)I"⟩
abbrev cX0_reckon : ByteArray := prog_2_method_14_code
def yX0_reckon : MethodName := ⟨RX0, "reckon", "(ILLoafMemory$Recipe;)I"⟩
abbrev cX0_joined : ByteArray := prog_2_method_15_code
def yX0_joined : MethodName := ⟨RX0, "joined", "(III)I"⟩
def RX1 : String := "LoafMemory$Memory"
def TX1 : u_T := fun k => match k with
  | 0 => ("LoafMemory$Memory", "loaf", "I", false)
  | 1 => ("LoafMemory$Memory", "result", "I", false)
  | 2 => ("LoafMemory$Memory", "steps", "I", false)
  | 3 => ("LoafMemory$Memory", "uses", "I", false)
  | 4 => ("LoafMemory$Memory", "serial", "I", false)
  | 5 => ("LoafMemory$Memory", "lookCount", "I", false)
  | 6 => ("LoafMemory$Memory", "looks", "[I", true)
  | _ => ("LoafMemory$Memory", "values", "[I", true)
def tyX1 : Nat → FieldType := fun k => match k with
  | 0 => .int
  | 1 => .int
  | 2 => .int
  | 3 => .int
  | 4 => .int
  | 5 => .int
  | 6 => .array .int
  | _ => .array .int
theorem nmX1 : ∀ a, a < 8 → ∀ b, b < 8 → a ≠ b → (TX1 a).2.1 ≠ (TX1 b).2.1 := by decide +kernel
theorem tyX1_ok : ∀ k, k < 8 → parseFieldDescriptor (TX1 k).2.2.1 = some (tyX1 k) := by decide +kernel
abbrev cX1_init : ByteArray := prog_3_method_1_code
def yX1_init : MethodName := ⟨RX1, "<init>", "()V"⟩
abbrev cX1_begin : ByteArray := prog_3_method_2_code
def yX1_begin : MethodName := ⟨RX1, "begin", "(I)V"⟩
abbrev cX1_addLook : ByteArray := prog_3_method_3_code
def yX1_addLook : MethodName := ⟨RX1, "addLook", "(II)V"⟩
abbrev cX1_placeOfLook : ByteArray := prog_3_method_4_code
def yX1_placeOfLook : MethodName := ⟨RX1, "placeOfLook", "(I)I"⟩
abbrev cX1_copyFrom : ByteArray := prog_3_method_5_code
def yX1_copyFrom : MethodName := ⟨RX1, "copyFrom", "(LLoafMemory$Memory;)V"⟩
def RX2 : String := "LoafMemory$Reader"
def TX2 : u_T := fun k => match k with
  | 0 => ("LoafMemory$Reader", "orders", "[I", true)
  | 1 => ("LoafMemory$Reader", "operands", "[I", true)
  | 2 => ("LoafMemory$Reader", "length", "I", false)
  | 3 => ("LoafMemory$Reader", "parts", "I", false)
  | 4 => ("LoafMemory$Reader", "shelves", "I", false)
  | 5 => ("LoafMemory$Reader", "loaves", "I", false)
  | 6 => ("LoafMemory$Reader", "stage", "I", false)
  | 7 => ("LoafMemory$Reader", "waits", "[I", true)
  | 8 => ("LoafMemory$Reader", "openEnds", "[I", true)
  | _ => ("LoafMemory$Reader", "depth", "I", false)
def tyX2 : Nat → FieldType := fun k => match k with
  | 0 => .array .int
  | 1 => .array .int
  | 2 => .int
  | 3 => .int
  | 4 => .int
  | 5 => .int
  | 6 => .int
  | 7 => .array .int
  | 8 => .array .int
  | _ => .int
theorem nmX2 : ∀ a, a < 10 → ∀ b, b < 10 → a ≠ b → (TX2 a).2.1 ≠ (TX2 b).2.1 := by decide +kernel
theorem tyX2_ok : ∀ k, k < 10 → parseFieldDescriptor (TX2 k).2.2.1 = some (tyX2 k) := by decide +kernel
abbrev cX2_init : ByteArray := prog_4_method_1_code
def yX2_init : MethodName := ⟨RX2, "<init>", "()V"⟩
abbrev cX2_firstFault : ByteArray := prog_4_method_2_code
def yX2_firstFault : MethodName := ⟨RX2, "firstFault", "([II)I"⟩
abbrev cX2_recipeRead : ByteArray := prog_4_method_3_code
def yX2_recipeRead : MethodName := ⟨RX2, "recipeRead", "()LLoafMemory$Recipe;"⟩
abbrev cX2_begin : ByteArray := prog_4_method_4_code
def yX2_begin : MethodName := ⟨RX2, "begin", "()V"⟩
abbrev cX2_takes : ByteArray := prog_4_method_5_code
def yX2_takes : MethodName := ⟨RX2, "takes", "(I)Z"⟩
abbrev cX2_takesStart : ByteArray := prog_4_method_6_code
def yX2_takesStart : MethodName := ⟨RX2, "takesStart", "(I)Z"⟩
abbrev cX2_takesLoafDigit : ByteArray := prog_4_method_7_code
def yX2_takesLoafDigit : MethodName := ⟨RX2, "takesLoafDigit", "(I)Z"⟩
abbrev cX2_takesNextDigit : ByteArray := prog_4_method_8_code
def yX2_takesNextDigit : MethodName := ⟨RX2, "takesNextDigit", "(I)Z"⟩
abbrev cX2_takesAfterRecipe : ByteArray := prog_4_method_9_code
def yX2_takesAfterRecipe : MethodName := ⟨RX2, "takesAfterRecipe", "(I)Z"⟩
abbrev cX2_takesOperation : ByteArray := prog_4_method_10_code
def yX2_takesOperation : MethodName := ⟨RX2, "takesOperation", "(I)Z"⟩
abbrev cX2_takesBracket : ByteArray := prog_4_method_11_code
def yX2_takesBracket : MethodName := ⟨RX2, "takesBracket", "()Z"⟩
abbrev cX2_takesQuestion : ByteArray := prog_4_method_12_code
def yX2_takesQuestion : MethodName := ⟨RX2, "takesQuestion", "()Z"⟩
abbrev cX2_takesColon : ByteArray := prog_4_method_13_code
def yX2_takesColon : MethodName := ⟨RX2, "takesColon", "()Z"⟩
abbrev cX2_takesBrace : ByteArray := prog_4_method_14_code
def yX2_takesBrace : MethodName := ⟨RX2, "takesBrace", "()Z"⟩
abbrev cX2_opens : ByteArray := prog_4_method_15_code
def yX2_opens : MethodName := ⟨RX2, "opens", "(I)Z"⟩
abbrev cX2_waitsNext : ByteArray := prog_4_method_16_code
def yX2_waitsNext : MethodName := ⟨RX2, "waitsNext", "(I)Z"⟩
abbrev cX2_addsPart : ByteArray := prog_4_method_17_code
def yX2_addsPart : MethodName := ⟨RX2, "addsPart", "(II)Z"⟩
abbrev cX2_adds : ByteArray := prog_4_method_18_code
def yX2_adds : MethodName := ⟨RX2, "adds", "(II)Z"⟩
abbrev cX2_closesEnd : ByteArray := prog_4_method_19_code
def yX2_closesEnd : MethodName := ⟨RX2, "closesEnd", "(I)V"⟩
abbrev cX2_isDigit : ByteArray := prog_4_method_20_code
def yX2_isDigit : MethodName := ⟨RX2, "isDigit", "(I)Z"⟩
def RX3 : String := "LoafMemory$Recipe"
def TX3 : u_T := fun k => match k with
  | 0 => ("LoafMemory$Recipe", "orders", "[I", true)
  | 1 => ("LoafMemory$Recipe", "operands", "[I", true)
  | 2 => ("LoafMemory$Recipe", "length", "I", true)
  | 3 => ("LoafMemory$Recipe", "parts", "I", true)
  | 4 => ("LoafMemory$Recipe", "shelves", "I", true)
  | _ => ("LoafMemory$Recipe", "loaves", "I", true)
def tyX3 : Nat → FieldType := fun k => match k with
  | 0 => .array .int
  | 1 => .array .int
  | 2 => .int
  | 3 => .int
  | 4 => .int
  | _ => .int
theorem nmX3 : ∀ a, a < 6 → ∀ b, b < 6 → a ≠ b → (TX3 a).2.1 ≠ (TX3 b).2.1 := by decide +kernel
theorem tyX3_ok : ∀ k, k < 6 → parseFieldDescriptor (TX3 k).2.2.1 = some (tyX3 k) := by decide +kernel
abbrev cX3_init : ByteArray := prog_5_method_1_code
def yX3_init : MethodName := ⟨RX3, "<init>", "(LLoafMemory$Reader;)V"⟩
def RX4 : String := "LoafMemory$State"
def TX4 : u_T := fun k => match k with
  | 0 => ("LoafMemory$State", "numbers", "[I", true)
  | 1 => ("LoafMemory$State", "poisoned", "I", false)
  | 2 => ("LoafMemory$State", "settings", "[I", true)
  | 3 => ("LoafMemory$State", "recipes", "[LLoafMemory$Recipe;", true)
  | 4 => ("LoafMemory$State", "memories", "[LLoafMemory$Memory;", true)
  | 5 => ("LoafMemory$State", "memoryCount", "I", false)
  | 6 => ("LoafMemory$State", "lastSerial", "I", false)
  | 7 => ("LoafMemory$State", "baked", "[I", true)
  | 8 => ("LoafMemory$State", "givenAgain", "[I", true)
  | 9 => ("LoafMemory$State", "stepsMade", "I", false)
  | _ => ("LoafMemory$State", "stepsSaved", "I", false)
def tyX4 : Nat → FieldType := fun k => match k with
  | 0 => .array .int
  | 1 => .int
  | 2 => .array .int
  | 3 => .array (.object "LoafMemory$Recipe")
  | 4 => .array (.object "LoafMemory$Memory")
  | 5 => .int
  | 6 => .int
  | 7 => .array .int
  | 8 => .array .int
  | 9 => .int
  | _ => .int
theorem nmX4 : ∀ a, a < 11 → ∀ b, b < 11 → a ≠ b → (TX4 a).2.1 ≠ (TX4 b).2.1 := by decide +kernel
theorem tyX4_ok : ∀ k, k < 11 → parseFieldDescriptor (TX4 k).2.2.1 = some (tyX4 k) := by decide +kernel
abbrev cX4_init : ByteArray := prog_6_method_1_code
def yX4_init : MethodName := ⟨RX4, "<init>", "()V"⟩
abbrev cX4_copyFrom : ByteArray := prog_6_method_2_code
def yX4_copyFrom : MethodName := ⟨RX4, "copyFrom", "(LLoafMemory$State;)V"⟩
abbrev cX4_loavesNaming : ByteArray := prog_6_method_3_code
def yX4_loavesNaming : MethodName := ⟨RX4, "loavesNaming", "(I)I"⟩
abbrev cX4_loavesWithRecipe : ByteArray := prog_6_method_4_code
def yX4_loavesWithRecipe : MethodName := ⟨RX4, "loavesWithRecipe", "()I"⟩
abbrev cX4_memoriesOf : ByteArray := prog_6_method_5_code
def yX4_memoriesOf : MethodName := ⟨RX4, "memoriesOf", "(I)I"⟩
abbrev cX4_serialsOf : ByteArray := prog_6_method_6_code
def yX4_serialsOf : MethodName := ⟨RX4, "serialsOf", "(I[I)I"⟩
abbrev cX4_placeOfSerial : ByteArray := prog_6_method_7_code
def yX4_placeOfSerial : MethodName := ⟨RX4, "placeOfSerial", "(I)I"⟩
abbrev cX4_use : ByteArray := prog_6_method_8_code
def yX4_use : MethodName := ⟨RX4, "use", "(I)V"⟩
abbrev cX4_keepMemory : ByteArray := prog_6_method_9_code
def yX4_keepMemory : MethodName := ⟨RX4, "keepMemory", "(LLoafMemory$Memory;)V"⟩
abbrev cX4_dropBeyondRoom : ByteArray := prog_6_method_10_code
def yX4_dropBeyondRoom : MethodName := ⟨RX4, "dropBeyondRoom", "()V"⟩
abbrev cX4_dropAllOf : ByteArray := prog_6_method_11_code
def yX4_dropAllOf : MethodName := ⟨RX4, "dropAllOf", "(I)V"⟩
abbrev cX4_drop : ByteArray := prog_6_method_12_code
def yX4_drop : MethodName := ⟨RX4, "drop", "(I)V"⟩
def RX5 : String := "LoafMemory"
def TX5 : u_T := fun k => match k with
  | 0 => ("LoafMemory", "pad", "[I", true)
  | 1 => ("LoafMemory", "padLength", "I", false)
  | 2 => ("LoafMemory", "state", "LLoafMemory$State;", false)
  | 3 => ("LoafMemory", "history", "[LLoafMemory$State;", true)
  | 4 => ("LoafMemory", "changesKept", "I", false)
  | 5 => ("LoafMemory", "slots", "[LLoafMemory$State;", true)
  | 6 => ("LoafMemory", "filled", "[Z", true)
  | 7 => ("LoafMemory", "trial", "LLoafMemory$State;", true)
  | 8 => ("LoafMemory", "baker", "LLoafMemory$Baker;", true)
  | _ => ("LoafMemory", "reader", "LLoafMemory$Reader;", true)
def tyX5 : Nat → FieldType := fun k => match k with
  | 0 => .array .int
  | 1 => .int
  | 2 => .object "LoafMemory$State"
  | 3 => .array (.object "LoafMemory$State")
  | 4 => .int
  | 5 => .array (.object "LoafMemory$State")
  | 6 => .array .boolean
  | 7 => .object "LoafMemory$State"
  | 8 => .object "LoafMemory$Baker"
  | _ => .object "LoafMemory$Reader"
theorem nmX5 : ∀ a, a < 10 → ∀ b, b < 10 → a ≠ b → (TX5 a).2.1 ≠ (TX5 b).2.1 := by decide +kernel
theorem tyX5_ok : ∀ k, k < 10 → parseFieldDescriptor (TX5 k).2.2.1 = some (tyX5 k) := by decide +kernel
abbrev cX5_init : ByteArray := prog_1_method_1_code
def yX5_init : MethodName := ⟨RX5, "<init>", "()V"⟩
abbrev cX5_set : ByteArray := prog_1_method_2_code
def yX5_set : MethodName := ⟨RX5, "set", "(II)I"⟩
abbrev cX5_put : ByteArray := prog_1_method_3_code
def yX5_put : MethodName := ⟨RX5, "put", "(II)I"⟩
abbrev cX5_poison : ByteArray := prog_1_method_4_code
def yX5_poison : MethodName := ⟨RX5, "poison", "(II)I"⟩
abbrev cX5_ask : ByteArray := prog_1_method_5_code
def yX5_ask : MethodName := ⟨RX5, "ask", "(I)I"⟩
abbrev cX5_forget : ByteArray := prog_1_method_6_code
def yX5_forget : MethodName := ⟨RX5, "forget", "(I)I"⟩
abbrev cX5_type : ByteArray := prog_1_method_7_code
def yX5_type : MethodName := ⟨RX5, "type", "(J)I"⟩
abbrev cX5_wipe : ByteArray := prog_1_method_8_code
def yX5_wipe : MethodName := ⟨RX5, "wipe", "()I"⟩
abbrev cX5_fault : ByteArray := prog_1_method_9_code
def yX5_fault : MethodName := ⟨RX5, "fault", "()I"⟩
abbrev cX5_recipe : ByteArray := prog_1_method_10_code
def yX5_recipe : MethodName := ⟨RX5, "recipe", "(I)I"⟩
abbrev cX5_ofShelf : ByteArray := prog_1_method_11_code
def yX5_ofShelf : MethodName := ⟨RX5, "ofShelf", "(II)I"⟩
abbrev cX5_ofLoaf : ByteArray := prog_1_method_12_code
def yX5_ofLoaf : MethodName := ⟨RX5, "ofLoaf", "(II)I"⟩
abbrev cX5_ofMemory : ByteArray := prog_1_method_13_code
def yX5_ofMemory : MethodName := ⟨RX5, "ofMemory", "(II)I"⟩
abbrev cX5_look : ByteArray := prog_1_method_14_code
def yX5_look : MethodName := ⟨RX5, "look", "(III)I"⟩
abbrev cX5_count : ByteArray := prog_1_method_15_code
def yX5_count : MethodName := ⟨RX5, "count", "(I)I"⟩
abbrev cX5_fresh : ByteArray := prog_1_method_16_code
def yX5_fresh : MethodName := ⟨RX5, "fresh", "(I)I"⟩
abbrev cX5_fits : ByteArray := prog_1_method_17_code
def yX5_fits : MethodName := ⟨RX5, "fits", "(I)I"⟩
abbrev cX5_looksAt : ByteArray := prog_1_method_18_code
def yX5_looksAt : MethodName := ⟨RX5, "looksAt", "(I)I"⟩
abbrev cX5_changes : ByteArray := prog_1_method_19_code
def yX5_changes : MethodName := ⟨RX5, "changes", "(II)I"⟩
abbrev cX5_numberFor : ByteArray := prog_1_method_20_code
def yX5_numberFor : MethodName := ⟨RX5, "numberFor", "(III)I"⟩
abbrev cX5_stepsFor : ByteArray := prog_1_method_21_code
def yX5_stepsFor : MethodName := ⟨RX5, "stepsFor", "(I)I"⟩
abbrev cX5_undo : ByteArray := prog_1_method_22_code
def yX5_undo : MethodName := ⟨RX5, "undo", "()I"⟩
abbrev cX5_save : ByteArray := prog_1_method_23_code
def yX5_save : MethodName := ⟨RX5, "save", "(I)I"⟩
abbrev cX5_restore : ByteArray := prog_1_method_24_code
def yX5_restore : MethodName := ⟨RX5, "restore", "(I)I"⟩
abbrev cX5_recordChange : ByteArray := prog_1_method_25_code
def yX5_recordChange : MethodName := ⟨RX5, "recordChange", "()V"⟩
abbrev cX5_dropOldestChange : ByteArray := prog_1_method_26_code
def yX5_dropOldestChange : MethodName := ⟨RX5, "dropOldestChange", "()V"⟩
abbrev cX5_isMemory : ByteArray := prog_1_method_27_code
def yX5_isMemory : MethodName := ⟨RX5, "isMemory", "(I)Z"⟩
abbrev cX5_isShelf : ByteArray := prog_1_method_28_code
def yX5_isShelf : MethodName := ⟨RX5, "isShelf", "(I)Z"⟩
abbrev cX5_isLoaf : ByteArray := prog_1_method_29_code
def yX5_isLoaf : MethodName := ⟨RX5, "isLoaf", "(I)Z"⟩
abbrev cX5_isNumber : ByteArray := prog_1_method_30_code
def yX5_isNumber : MethodName := ⟨RX5, "isNumber", "(I)Z"⟩
abbrev cX5_isSlot : ByteArray := prog_1_method_31_code
def yX5_isSlot : MethodName := ⟨RX5, "isSlot", "(I)Z"⟩
abbrev cX5_isSettingValue : ByteArray := prog_1_method_32_code
def yX5_isSettingValue : MethodName := ⟨RX5, "isSettingValue", "(II)Z"⟩
abbrev cX5_bitOf : ByteArray := prog_1_method_33_code
def yX5_bitOf : MethodName := ⟨RX5, "bitOf", "(II)I"⟩
abbrev cX5_lengthOfText : ByteArray := prog_1_method_34_code
def yX5_lengthOfText : MethodName := ⟨RX5, "lengthOfText", "(J)I"⟩
def RX6 : String := "LoafMemoryModel"
def TX6 : u_T := fun k => match k with
  | 0 => ("LoafMemoryModel", "now", "[I", true)
  | 1 => ("LoafMemoryModel", "trial", "[I", true)
  | 2 => ("LoafMemoryModel", "history", "[I", true)
  | 3 => ("LoafMemoryModel", "changes", "I", false)
  | 4 => ("LoafMemoryModel", "kept", "[I", true)
  | 5 => ("LoafMemoryModel", "isKept", "[Z", true)
  | 6 => ("LoafMemoryModel", "pad", "[I", true)
  | 7 => ("LoafMemoryModel", "length", "I", false)
  | 8 => ("LoafMemoryModel", "orders", "[I", true)
  | 9 => ("LoafMemoryModel", "arguments", "[I", true)
  | 10 => ("LoafMemoryModel", "ordersMany", "I", false)
  | 11 => ("LoafMemoryModel", "due", "[I", true)
  | 12 => ("LoafMemoryModel", "dueWith", "[I", true)
  | 13 => ("LoafMemoryModel", "dues", "I", false)
  | 14 => ("LoafMemoryModel", "spot", "I", false)
  | 15 => ("LoafMemoryModel", "held", "[I", true)
  | 16 => ("LoafMemoryModel", "asker", "[I", true)
  | 17 => ("LoafMemoryModel", "mode", "[I", true)
  | 18 => ("LoafMemoryModel", "names", "[I", true)
  | 19 => ("LoafMemoryModel", "namesMany", "[I", true)
  | 20 => ("LoafMemoryModel", "nameAt", "[I", true)
  | 21 => ("LoafMemoryModel", "lookAt", "[I", true)
  | 22 => ("LoafMemoryModel", "orderAt", "[I", true)
  | 23 => ("LoafMemoryModel", "values", "[I", true)
  | 24 => ("LoafMemoryModel", "valuesMany", "[I", true)
  | 25 => ("LoafMemoryModel", "keys", "[I", true)
  | 26 => ("LoafMemoryModel", "found", "[I", true)
  | 27 => ("LoafMemoryModel", "looked", "[I", true)
  | 28 => ("LoafMemoryModel", "steps", "[I", true)
  | 29 => ("LoafMemoryModel", "given", "I", false)
  | 30 => ("LoafMemoryModel", "wanted", "I", false)
  | 31 => ("LoafMemoryModel", "results", "[I", true)
  | _ => ("LoafMemoryModel", "sets", "[I", true)
def tyX6 : Nat → FieldType := fun k => match k with
  | 0 => .array .int
  | 1 => .array .int
  | 2 => .array .int
  | 3 => .int
  | 4 => .array .int
  | 5 => .array .boolean
  | 6 => .array .int
  | 7 => .int
  | 8 => .array .int
  | 9 => .array .int
  | 10 => .int
  | 11 => .array .int
  | 12 => .array .int
  | 13 => .int
  | 14 => .int
  | 15 => .array .int
  | 16 => .array .int
  | 17 => .array .int
  | 18 => .array .int
  | 19 => .array .int
  | 20 => .array .int
  | 21 => .array .int
  | 22 => .array .int
  | 23 => .array .int
  | 24 => .array .int
  | 25 => .array .int
  | 26 => .array .int
  | 27 => .array .int
  | 28 => .array .int
  | 29 => .int
  | 30 => .int
  | 31 => .array .int
  | _ => .array .int
theorem nmX6 : ∀ a, a < 33 → ∀ b, b < 33 → a ≠ b → (TX6 a).2.1 ≠ (TX6 b).2.1 := by decide +kernel
theorem tyX6_ok : ∀ k, k < 33 → parseFieldDescriptor (TX6 k).2.2.1 = some (tyX6 k) := by decide +kernel
abbrev cX6_init : ByteArray := prog_8_method_1_code
def yX6_init : MethodName := ⟨RX6, "<init>", "()V"⟩
abbrev cX6_in : ByteArray := prog_8_method_2_code
def yX6_in : MethodName := ⟨RX6, "in", "(JJJ)Z"⟩
abbrev cX6_copyState : ByteArray := prog_8_method_3_code
def yX6_copyState : MethodName := ⟨RX6, "copyState", "([II[II)V"⟩
abbrev cX6_isShelf : ByteArray := prog_8_method_4_code
def yX6_isShelf : MethodName := ⟨RX6, "isShelf", "(I)Z"⟩
abbrev cX6_isLoaf : ByteArray := prog_8_method_5_code
def yX6_isLoaf : MethodName := ⟨RX6, "isLoaf", "(I)Z"⟩
abbrev cX6_memoryAt : ByteArray := prog_8_method_6_code
def yX6_memoryAt : MethodName := ⟨RX6, "memoryAt", "(I)I"⟩
abbrev cX6_valueOfShelf : ByteArray := prog_8_method_7_code
def yX6_valueOfShelf : MethodName := ⟨RX6, "valueOfShelf", "([II)I"⟩
abbrev cX6_sign : ByteArray := prog_8_method_8_code
def yX6_sign : MethodName := ⟨RX6, "sign", "()I"⟩
abbrev cX6_lay : ByteArray := prog_8_method_9_code
def yX6_lay : MethodName := ⟨RX6, "lay", "(II)V"⟩
abbrev cX6_expect : ByteArray := prog_8_method_10_code
def yX6_expect : MethodName := ⟨RX6, "expect", "(II)V"⟩
abbrev cX6_readSimple : ByteArray := prog_8_method_11_code
def yX6_readSimple : MethodName := ⟨RX6, "readSimple", "()Z"⟩
abbrev cX6_goOut : ByteArray := prog_8_method_12_code
def yX6_goOut : MethodName := ⟨RX6, "goOut", "()I"⟩
abbrev cX6_compile : ByteArray := prog_8_method_13_code
def yX6_compile : MethodName := ⟨RX6, "compile", "()I"⟩
abbrev cX6_type : ByteArray := prog_8_method_14_code
def yX6_type : MethodName := ⟨RX6, "type", "(J)I"⟩
abbrev cX6_wipe : ByteArray := prog_8_method_15_code
def yX6_wipe : MethodName := ⟨RX6, "wipe", "()I"⟩
abbrev cX6_fault : ByteArray := prog_8_method_16_code
def yX6_fault : MethodName := ⟨RX6, "fault", "()I"⟩
abbrev cX6_memoryNamed : ByteArray := prog_8_method_17_code
def yX6_memoryNamed : MethodName := ⟨RX6, "memoryNamed", "([II)I"⟩
abbrev cX6_cutMemory : ByteArray := prog_8_method_18_code
def yX6_cutMemory : MethodName := ⟨RX6, "cutMemory", "([II)V"⟩
abbrev cX6_shiftMemories : ByteArray := prog_8_method_19_code
def yX6_shiftMemories : MethodName := ⟨RX6, "shiftMemories", "([II)V"⟩
abbrev cX6_useMemory : ByteArray := prog_8_method_20_code
def yX6_useMemory : MethodName := ⟨RX6, "useMemory", "([II)V"⟩
abbrev cX6_trim : ByteArray := prog_8_method_21_code
def yX6_trim : MethodName := ⟨RX6, "trim", "([I)V"⟩
abbrev cX6_begin : ByteArray := prog_8_method_22_code
def yX6_begin : MethodName := ⟨RX6, "begin", "([III)V"⟩
abbrev cX6_nextName : ByteArray := prog_8_method_23_code
def yX6_nextName : MethodName := ⟨RX6, "nextName", "(I)V"⟩
abbrev cX6_compare : ByteArray := prog_8_method_24_code
def yX6_compare : MethodName := ⟨RX6, "compare", "([III)V"⟩
abbrev cX6_checkMemories : ByteArray := prog_8_method_25_code
def yX6_checkMemories : MethodName := ⟨RX6, "checkMemories", "([II)V"⟩
abbrev cX6_push : ByteArray := prog_8_method_26_code
def yX6_push : MethodName := ⟨RX6, "push", "(II)V"⟩
abbrev cX6_pop : ByteArray := prog_8_method_27_code
def yX6_pop : MethodName := ⟨RX6, "pop", "(I)I"⟩
abbrev cX6_lookOf : ByteArray := prog_8_method_28_code
def yX6_lookOf : MethodName := ⟨RX6, "lookOf", "(II)I"⟩
abbrev cX6_endBaking : ByteArray := prog_8_method_29_code
def yX6_endBaking : MethodName := ⟨RX6, "endBaking", "([III)V"⟩
abbrev cX6_take : ByteArray := prog_8_method_30_code
def yX6_take : MethodName := ⟨RX6, "take", "([IIII)V"⟩
abbrev cX6_reckon : ByteArray := prog_8_method_31_code
def yX6_reckon : MethodName := ⟨RX6, "reckon", "(III)I"⟩
abbrev cX6_bake : ByteArray := prog_8_method_32_code
def yX6_bake : MethodName := ⟨RX6, "bake", "([II)V"⟩
abbrev cX6_askOn : ByteArray := prog_8_method_33_code
def yX6_askOn : MethodName := ⟨RX6, "askOn", "([II)I"⟩
abbrev cX6_comeBack : ByteArray := prog_8_method_34_code
def yX6_comeBack : MethodName := ⟨RX6, "comeBack", "([IIII)V"⟩
abbrev cX6_record : ByteArray := prog_8_method_35_code
def yX6_record : MethodName := ⟨RX6, "record", "()V"⟩
abbrev cX6_set : ByteArray := prog_8_method_36_code
def yX6_set : MethodName := ⟨RX6, "set", "(II)I"⟩
abbrev cX6_put : ByteArray := prog_8_method_37_code
def yX6_put : MethodName := ⟨RX6, "put", "(II)I"⟩
abbrev cX6_poison : ByteArray := prog_8_method_38_code
def yX6_poison : MethodName := ⟨RX6, "poison", "(II)I"⟩
abbrev cX6_ask : ByteArray := prog_8_method_39_code
def yX6_ask : MethodName := ⟨RX6, "ask", "(I)I"⟩
abbrev cX6_forget : ByteArray := prog_8_method_40_code
def yX6_forget : MethodName := ⟨RX6, "forget", "(I)I"⟩
abbrev cX6_recipe : ByteArray := prog_8_method_41_code
def yX6_recipe : MethodName := ⟨RX6, "recipe", "(I)I"⟩
abbrev cX6_namedBy : ByteArray := prog_8_method_42_code
def yX6_namedBy : MethodName := ⟨RX6, "namedBy", "([III)I"⟩
abbrev cX6_ofShelf : ByteArray := prog_8_method_43_code
def yX6_ofShelf : MethodName := ⟨RX6, "ofShelf", "(II)I"⟩
abbrev cX6_ofLoaf : ByteArray := prog_8_method_44_code
def yX6_ofLoaf : MethodName := ⟨RX6, "ofLoaf", "(II)I"⟩
abbrev cX6_ofMemory : ByteArray := prog_8_method_45_code
def yX6_ofMemory : MethodName := ⟨RX6, "ofMemory", "(II)I"⟩
abbrev cX6_look : ByteArray := prog_8_method_46_code
def yX6_look : MethodName := ⟨RX6, "look", "(III)I"⟩
abbrev cX6_count : ByteArray := prog_8_method_47_code
def yX6_count : MethodName := ⟨RX6, "count", "(I)I"⟩
abbrev cX6_reckonLoaf : ByteArray := prog_8_method_48_code
def yX6_reckonLoaf : MethodName := ⟨RX6, "reckonLoaf", "([II)V"⟩
abbrev cX6_reckonAll : ByteArray := prog_8_method_49_code
def yX6_reckonAll : MethodName := ⟨RX6, "reckonAll", "([I)V"⟩
abbrev cX6_fresh : ByteArray := prog_8_method_50_code
def yX6_fresh : MethodName := ⟨RX6, "fresh", "(I)I"⟩
abbrev cX6_allAlike : ByteArray := prog_8_method_51_code
def yX6_allAlike : MethodName := ⟨RX6, "allAlike", "(I)Z"⟩
abbrev cX6_fits : ByteArray := prog_8_method_52_code
def yX6_fits : MethodName := ⟨RX6, "fits", "(I)I"⟩
abbrev cX6_looksAt : ByteArray := prog_8_method_53_code
def yX6_looksAt : MethodName := ⟨RX6, "looksAt", "(I)I"⟩
abbrev cX6_changes : ByteArray := prog_8_method_54_code
def yX6_changes : MethodName := ⟨RX6, "changes", "(II)I"⟩
abbrev cX6_numberFor : ByteArray := prog_8_method_55_code
def yX6_numberFor : MethodName := ⟨RX6, "numberFor", "(III)I"⟩
abbrev cX6_stepsFor : ByteArray := prog_8_method_56_code
def yX6_stepsFor : MethodName := ⟨RX6, "stepsFor", "(I)I"⟩
abbrev cX6_undo : ByteArray := prog_8_method_57_code
def yX6_undo : MethodName := ⟨RX6, "undo", "()I"⟩
abbrev cX6_save : ByteArray := prog_8_method_58_code
def yX6_save : MethodName := ⟨RX6, "save", "(I)I"⟩
abbrev cX6_restore : ByteArray := prog_8_method_59_code
def yX6_restore : MethodName := ⟨RX6, "restore", "(I)I"⟩
def RJ9 : String := "java/lang/Math"
def RJ10 : String := "java/lang/System"
def RJ7 : String := "java/util/Arrays"
abbrev cJ7_fill_53178 : ByteArray := prog_12_method_103_code
def yJ7_fill_53178 : MethodName := ⟨RJ7, "fill", "([II)V"⟩
abbrev cJ7_copyOf_59c91 : ByteArray := prog_12_method_123_code
def yJ7_copyOf_59c91 : MethodName := ⟨RJ7, "copyOf", "([II)[I"⟩
def RL : String := "LoafMemoryLaw"
abbrev cL_law : ByteArray := code
def yL_law : MethodName := ⟨RL, "law", "([I)Z"⟩
abbrev MM : Type := MethodName × ByteArray × Nat × Option FieldType
def bc (M : MM) : ByteArray := M.2.1
def mX0_init : MM := (yX0_init, cX0_init, 2, none)
def mX0_askedResult : MM := (yX0_askedResult, cX0_askedResult, 3, (some .int))
def mX0_freshResult : MM := (yX0_freshResult, cX0_freshResult, 3, (some .int))
def mX0_shelvesOfFresh : MM := (yX0_shelvesOfFresh, cX0_shelvesOfFresh, 3, (some .int))
def mX0_fittingPlace : MM := (yX0_fittingPlace, cX0_fittingPlace, 4, (some .int))
def mX0_begin : MM := (yX0_begin, cX0_begin, 3, none)
def mX0_loafValue : MM := (yX0_loafValue, cX0_loafValue, 4, (some .int))
def mX0_freshValue : MM := (yX0_freshValue, cX0_freshValue, 3, (some .int))
def mX0_rememberedValue : MM := (yX0_rememberedValue, cX0_rememberedValue, 6, (some .int))
def mX0_fittingMemory : MM := (yX0_fittingMemory, cX0_fittingMemory, 6, (some .int))
def mX0_isAsItWas : MM := (yX0_isAsItWas, cX0_isAsItWas, 5, (some .boolean))
def mX0_valueNow : MM := (yX0_valueNow, cX0_valueNow, 4, (some .int))
def mX0_lookedUp : MM := (yX0_lookedUp, cX0_lookedUp, 5, (some .int))
def mX0_reckon : MM := (yX0_reckon, cX0_reckon, 11, (some .int))
def mX0_joined : MM := (yX0_joined, cX0_joined, 3, (some .int))
def mX1_init : MM := (yX1_init, cX1_init, 1, none)
def mX1_begin : MM := (yX1_begin, cX1_begin, 2, none)
def mX1_addLook : MM := (yX1_addLook, cX1_addLook, 3, none)
def mX1_placeOfLook : MM := (yX1_placeOfLook, cX1_placeOfLook, 3, (some .int))
def mX1_copyFrom : MM := (yX1_copyFrom, cX1_copyFrom, 2, none)
def mX2_init : MM := (yX2_init, cX2_init, 1, none)
def mX2_firstFault : MM := (yX2_firstFault, cX2_firstFault, 4, (some .int))
def mX2_recipeRead : MM := (yX2_recipeRead, cX2_recipeRead, 1, (some (.object "LoafMemory$Recipe")))
def mX2_begin : MM := (yX2_begin, cX2_begin, 1, none)
def mX2_takes : MM := (yX2_takes, cX2_takes, 2, (some .boolean))
def mX2_takesStart : MM := (yX2_takesStart, cX2_takesStart, 3, (some .boolean))
def mX2_takesLoafDigit : MM := (yX2_takesLoafDigit, cX2_takesLoafDigit, 3, (some .boolean))
def mX2_takesNextDigit : MM := (yX2_takesNextDigit, cX2_takesNextDigit, 4, (some .boolean))
def mX2_takesAfterRecipe : MM := (yX2_takesAfterRecipe, cX2_takesAfterRecipe, 2, (some .boolean))
def mX2_takesOperation : MM := (yX2_takesOperation, cX2_takesOperation, 2, (some .boolean))
def mX2_takesBracket : MM := (yX2_takesBracket, cX2_takesBracket, 1, (some .boolean))
def mX2_takesQuestion : MM := (yX2_takesQuestion, cX2_takesQuestion, 1, (some .boolean))
def mX2_takesColon : MM := (yX2_takesColon, cX2_takesColon, 2, (some .boolean))
def mX2_takesBrace : MM := (yX2_takesBrace, cX2_takesBrace, 1, (some .boolean))
def mX2_opens : MM := (yX2_opens, cX2_opens, 2, (some .boolean))
def mX2_waitsNext : MM := (yX2_waitsNext, cX2_waitsNext, 2, (some .boolean))
def mX2_addsPart : MM := (yX2_addsPart, cX2_addsPart, 3, (some .boolean))
def mX2_adds : MM := (yX2_adds, cX2_adds, 3, (some .boolean))
def mX2_closesEnd : MM := (yX2_closesEnd, cX2_closesEnd, 2, none)
def mX2_isDigit : MM := (yX2_isDigit, cX2_isDigit, 1, (some .boolean))
def mX3_init : MM := (yX3_init, cX3_init, 2, none)
def mX4_init : MM := (yX4_init, cX4_init, 2, none)
def mX4_copyFrom : MM := (yX4_copyFrom, cX4_copyFrom, 3, none)
def mX4_loavesNaming : MM := (yX4_loavesNaming, cX4_loavesNaming, 4, (some .int))
def mX4_loavesWithRecipe : MM := (yX4_loavesWithRecipe, cX4_loavesWithRecipe, 3, (some .int))
def mX4_memoriesOf : MM := (yX4_memoriesOf, cX4_memoriesOf, 4, (some .int))
def mX4_serialsOf : MM := (yX4_serialsOf, cX4_serialsOf, 5, (some .int))
def mX4_placeOfSerial : MM := (yX4_placeOfSerial, cX4_placeOfSerial, 3, (some .int))
def mX4_use : MM := (yX4_use, cX4_use, 4, none)
def mX4_keepMemory : MM := (yX4_keepMemory, cX4_keepMemory, 2, none)
def mX4_dropBeyondRoom : MM := (yX4_dropBeyondRoom, cX4_dropBeyondRoom, 2, none)
def mX4_dropAllOf : MM := (yX4_dropAllOf, cX4_dropAllOf, 3, none)
def mX4_drop : MM := (yX4_drop, cX4_drop, 4, none)
def mX5_init : MM := (yX5_init, cX5_init, 2, none)
def mX5_set : MM := (yX5_set, cX5_set, 4, (some .int))
def mX5_put : MM := (yX5_put, cX5_put, 4, (some .int))
def mX5_poison : MM := (yX5_poison, cX5_poison, 4, (some .int))
def mX5_ask : MM := (yX5_ask, cX5_ask, 2, (some .int))
def mX5_forget : MM := (yX5_forget, cX5_forget, 2, (some .int))
def mX5_type : MM := (yX5_type, cX5_type, 5, (some .int))
def mX5_wipe : MM := (yX5_wipe, cX5_wipe, 2, (some .int))
def mX5_fault : MM := (yX5_fault, cX5_fault, 1, (some .int))
def mX5_recipe : MM := (yX5_recipe, cX5_recipe, 3, (some .int))
def mX5_ofShelf : MM := (yX5_ofShelf, cX5_ofShelf, 3, (some .int))
def mX5_ofLoaf : MM := (yX5_ofLoaf, cX5_ofLoaf, 4, (some .int))
def mX5_ofMemory : MM := (yX5_ofMemory, cX5_ofMemory, 4, (some .int))
def mX5_look : MM := (yX5_look, cX5_look, 5, (some .int))
def mX5_count : MM := (yX5_count, cX5_count, 2, (some .int))
def mX5_fresh : MM := (yX5_fresh, cX5_fresh, 2, (some .int))
def mX5_fits : MM := (yX5_fits, cX5_fits, 2, (some .int))
def mX5_looksAt : MM := (yX5_looksAt, cX5_looksAt, 2, (some .int))
def mX5_changes : MM := (yX5_changes, cX5_changes, 5, (some .int))
def mX5_numberFor : MM := (yX5_numberFor, cX5_numberFor, 5, (some .int))
def mX5_stepsFor : MM := (yX5_stepsFor, cX5_stepsFor, 2, (some .int))
def mX5_undo : MM := (yX5_undo, cX5_undo, 2, (some .int))
def mX5_save : MM := (yX5_save, cX5_save, 2, (some .int))
def mX5_restore : MM := (yX5_restore, cX5_restore, 2, (some .int))
def mX5_recordChange : MM := (yX5_recordChange, cX5_recordChange, 1, none)
def mX5_dropOldestChange : MM := (yX5_dropOldestChange, cX5_dropOldestChange, 3, none)
def mX5_isMemory : MM := (yX5_isMemory, cX5_isMemory, 2, (some .boolean))
def mX5_isShelf : MM := (yX5_isShelf, cX5_isShelf, 1, (some .boolean))
def mX5_isLoaf : MM := (yX5_isLoaf, cX5_isLoaf, 1, (some .boolean))
def mX5_isNumber : MM := (yX5_isNumber, cX5_isNumber, 1, (some .boolean))
def mX5_isSlot : MM := (yX5_isSlot, cX5_isSlot, 1, (some .boolean))
def mX5_isSettingValue : MM := (yX5_isSettingValue, cX5_isSettingValue, 2, (some .boolean))
def mX5_bitOf : MM := (yX5_bitOf, cX5_bitOf, 2, (some .int))
def mX5_lengthOfText : MM := (yX5_lengthOfText, cX5_lengthOfText, 6, (some .int))
def mX6_init : MM := (yX6_init, cX6_init, 1, none)
def mX6_in : MM := (yX6_in, cX6_in, 6, (some .boolean))
def mX6_copyState : MM := (yX6_copyState, cX6_copyState, 5, none)
def mX6_isShelf : MM := (yX6_isShelf, cX6_isShelf, 1, (some .boolean))
def mX6_isLoaf : MM := (yX6_isLoaf, cX6_isLoaf, 1, (some .boolean))
def mX6_memoryAt : MM := (yX6_memoryAt, cX6_memoryAt, 1, (some .int))
def mX6_valueOfShelf : MM := (yX6_valueOfShelf, cX6_valueOfShelf, 2, (some .int))
def mX6_sign : MM := (yX6_sign, cX6_sign, 1, (some .int))
def mX6_lay : MM := (yX6_lay, cX6_lay, 3, none)
def mX6_expect : MM := (yX6_expect, cX6_expect, 3, none)
def mX6_readSimple : MM := (yX6_readSimple, cX6_readSimple, 3, (some .boolean))
def mX6_goOut : MM := (yX6_goOut, cX6_goOut, 4, (some .int))
def mX6_compile : MM := (yX6_compile, cX6_compile, 2, (some .int))
def mX6_type : MM := (yX6_type, cX6_type, 7, (some .int))
def mX6_wipe : MM := (yX6_wipe, cX6_wipe, 2, (some .int))
def mX6_fault : MM := (yX6_fault, cX6_fault, 1, (some .int))
def mX6_memoryNamed : MM := (yX6_memoryNamed, cX6_memoryNamed, 3, (some .int))
def mX6_cutMemory : MM := (yX6_cutMemory, cX6_cutMemory, 3, none)
def mX6_shiftMemories : MM := (yX6_shiftMemories, cX6_shiftMemories, 3, none)
def mX6_useMemory : MM := (yX6_useMemory, cX6_useMemory, 4, none)
def mX6_trim : MM := (yX6_trim, cX6_trim, 1, none)
def mX6_begin : MM := (yX6_begin, cX6_begin, 5, none)
def mX6_nextName : MM := (yX6_nextName, cX6_nextName, 2, none)
def mX6_compare : MM := (yX6_compare, cX6_compare, 5, none)
def mX6_checkMemories : MM := (yX6_checkMemories, cX6_checkMemories, 5, none)
def mX6_push : MM := (yX6_push, cX6_push, 3, none)
def mX6_pop : MM := (yX6_pop, cX6_pop, 2, (some .int))
def mX6_lookOf : MM := (yX6_lookOf, cX6_lookOf, 4, (some .int))
def mX6_endBaking : MM := (yX6_endBaking, cX6_endBaking, 5, none)
def mX6_take : MM := (yX6_take, cX6_take, 5, none)
def mX6_reckon : MM := (yX6_reckon, cX6_reckon, 4, (some .int))
def mX6_bake : MM := (yX6_bake, cX6_bake, 7, none)
def mX6_askOn : MM := (yX6_askOn, cX6_askOn, 6, (some .int))
def mX6_comeBack : MM := (yX6_comeBack, cX6_comeBack, 5, none)
def mX6_record : MM := (yX6_record, cX6_record, 2, none)
def mX6_set : MM := (yX6_set, cX6_set, 4, (some .int))
def mX6_put : MM := (yX6_put, cX6_put, 4, (some .int))
def mX6_poison : MM := (yX6_poison, cX6_poison, 4, (some .int))
def mX6_ask : MM := (yX6_ask, cX6_ask, 2, (some .int))
def mX6_forget : MM := (yX6_forget, cX6_forget, 2, (some .int))
def mX6_recipe : MM := (yX6_recipe, cX6_recipe, 4, (some .int))
def mX6_namedBy : MM := (yX6_namedBy, cX6_namedBy, 5, (some .int))
def mX6_ofShelf : MM := (yX6_ofShelf, cX6_ofShelf, 5, (some .int))
def mX6_ofLoaf : MM := (yX6_ofLoaf, cX6_ofLoaf, 5, (some .int))
def mX6_ofMemory : MM := (yX6_ofMemory, cX6_ofMemory, 3, (some .int))
def mX6_look : MM := (yX6_look, cX6_look, 4, (some .int))
def mX6_count : MM := (yX6_count, cX6_count, 4, (some .int))
def mX6_reckonLoaf : MM := (yX6_reckonLoaf, cX6_reckonLoaf, 7, none)
def mX6_reckonAll : MM := (yX6_reckonAll, cX6_reckonAll, 3, none)
def mX6_fresh : MM := (yX6_fresh, cX6_fresh, 2, (some .int))
def mX6_allAlike : MM := (yX6_allAlike, cX6_allAlike, 6, (some .boolean))
def mX6_fits : MM := (yX6_fits, cX6_fits, 3, (some .int))
def mX6_looksAt : MM := (yX6_looksAt, cX6_looksAt, 2, (some .int))
def mX6_changes : MM := (yX6_changes, cX6_changes, 6, (some .int))
def mX6_numberFor : MM := (yX6_numberFor, cX6_numberFor, 5, (some .int))
def mX6_stepsFor : MM := (yX6_stepsFor, cX6_stepsFor, 2, (some .int))
def mX6_undo : MM := (yX6_undo, cX6_undo, 1, (some .int))
def mX6_save : MM := (yX6_save, cX6_save, 2, (some .int))
def mX6_restore : MM := (yX6_restore, cX6_restore, 2, (some .int))
def mJ7_fill_53178 : MM := (yJ7_fill_53178, cJ7_fill_53178, 4, none)
def mJ7_copyOf_59c91 : MM := (yJ7_copyOf_59c91, cJ7_copyOf_59c91, 3, (some (.array .int)))
def mL_law : MM := (yL_law, cL_law, 4, ret)
end
section
theorem d_X0_init_0 : decode (bc mX0_init) 0 = .ok (.aload_n 0, 1) := by decide +kernel
theorem d_X0_init_1 : decode (bc mX0_init) 1 = .ok (.invokespecial 3, 3) := by decide +kernel
theorem d_X0_init_4 : decode (bc mX0_init) 4 = .ok (.aload_n 0, 1) := by decide +kernel
theorem d_X0_init_5 : decode (bc mX0_init) 5 = .ok (.bipush 6, 2) := by decide +kernel
theorem d_X0_init_7 : decode (bc mX0_init) 7 = .ok (.newarray .int, 2) := by decide +kernel
theorem d_X0_init_9 : decode (bc mX0_init) 9 = .ok (.putfield 9, 3) := by decide +kernel
theorem d_X0_init_12 : decode (bc mX0_init) 12 = .ok (.aload_n 0, 1) := by decide +kernel
theorem d_X0_init_13 : decode (bc mX0_init) 13 = .ok (.bipush 6, 2) := by decide +kernel
theorem d_X0_init_15 : decode (bc mX0_init) 15 = .ok (.anewarray 15, 3) := by decide +kernel
theorem d_X0_init_18 : decode (bc mX0_init) 18 = .ok (.putfield 17, 3) := by decide +kernel
theorem d_X0_init_21 : decode (bc mX0_init) 21 = .ok (.aload_n 0, 1) := by decide +kernel
theorem d_X0_init_22 : decode (bc mX0_init) 22 = .ok (.bipush 6, 2) := by decide +kernel
theorem d_X0_init_24 : decode (bc mX0_init) 24 = .ok (.bipush 60, 2) := by decide +kernel
theorem d_X0_init_26 : decode (bc mX0_init) 26 = .ok (.multianewarray 21 2, 4) := by decide +kernel
theorem d_X0_init_30 : decode (bc mX0_init) 30 = .ok (.putfield 23, 3) := by decide +kernel
theorem d_X0_init_33 : decode (bc mX0_init) 33 = .ok (.aload_n 0, 1) := by decide +kernel
theorem d_X0_init_34 : decode (bc mX0_init) 34 = .ok (.bipush 6, 2) := by decide +kernel
theorem d_X0_init_36 : decode (bc mX0_init) 36 = .ok (.bipush 17, 2) := by decide +kernel
theorem d_X0_init_38 : decode (bc mX0_init) 38 = .ok (.multianewarray 21 2, 4) := by decide +kernel
theorem d_X0_init_42 : decode (bc mX0_init) 42 = .ok (.putfield 26, 3) := by decide +kernel
theorem d_X0_init_45 : decode (bc mX0_init) 45 = .ok (.iconst 0, 1) := by decide +kernel
theorem d_X0_init_46 : decode (bc mX0_init) 46 = .ok (.istore_n 1, 1) := by decide +kernel
theorem d_X0_init_47 : decode (bc mX0_init) 47 = .ok (.iload_n 1, 1) := by decide +kernel
theorem d_X0_init_48 : decode (bc mX0_init) 48 = .ok (.bipush 6, 2) := by decide +kernel
theorem d_X0_init_50 : decode (bc mX0_init) 50 = .ok (.if_icmp .ge 22, 3) := by decide +kernel
theorem d_X0_init_53 : decode (bc mX0_init) 53 = .ok (.aload_n 0, 1) := by decide +kernel
theorem d_X0_init_54 : decode (bc mX0_init) 54 = .ok (.getfield 17, 3) := by decide +kernel
theorem d_X0_init_57 : decode (bc mX0_init) 57 = .ok (.iload_n 1, 1) := by decide +kernel
theorem d_X0_init_58 : decode (bc mX0_init) 58 = .ok (.new 15, 3) := by decide +kernel
theorem d_X0_init_61 : decode (bc mX0_init) 61 = .ok (.dup, 1) := by decide +kernel
theorem d_X0_init_62 : decode (bc mX0_init) 62 = .ok (.invokespecial 29, 3) := by decide +kernel
theorem d_X0_init_65 : decode (bc mX0_init) 65 = .ok (.aastore, 1) := by decide +kernel
theorem d_X0_init_66 : decode (bc mX0_init) 66 = .ok (.iinc 1 1, 3) := by decide +kernel
theorem d_X0_init_69 : decode (bc mX0_init) 69 = .ok (.goto (-22), 3) := by decide +kernel
theorem d_X0_init_72 : decode (bc mX0_init) 72 = .ok (.return_, 1) := by decide +kernel
theorem d_X0_askedResult_0 : decode (bc mX0_askedResult) 0 = .ok (.aload_n 0, 1) := by decide +kernel
theorem d_X0_askedResult_1 : decode (bc mX0_askedResult) 1 = .ok (.aload_n 1, 1) := by decide +kernel
theorem d_X0_askedResult_2 : decode (bc mX0_askedResult) 2 = .ok (.iconst 0, 1) := by decide +kernel
theorem d_X0_askedResult_3 : decode (bc mX0_askedResult) 3 = .ok (.invokevirtual 30, 3) := by decide +kernel
theorem d_X0_askedResult_6 : decode (bc mX0_askedResult) 6 = .ok (.aload_n 0, 1) := by decide +kernel
theorem d_X0_askedResult_7 : decode (bc mX0_askedResult) 7 = .ok (.iload_n 2, 1) := by decide +kernel
theorem d_X0_askedResult_8 : decode (bc mX0_askedResult) 8 = .ok (.bipush 6, 2) := by decide +kernel
theorem d_X0_askedResult_10 : decode (bc mX0_askedResult) 10 = .ok (.invokevirtual 34, 3) := by decide +kernel
theorem d_X0_askedResult_13 : decode (bc mX0_askedResult) 13 = .ok (.ireturn, 1) := by decide +kernel
theorem d_X0_freshResult_0 : decode (bc mX0_freshResult) 0 = .ok (.aload_n 0, 1) := by decide +kernel
theorem d_X0_freshResult_1 : decode (bc mX0_freshResult) 1 = .ok (.aload_n 1, 1) := by decide +kernel
theorem d_X0_freshResult_2 : decode (bc mX0_freshResult) 2 = .ok (.iconst 1, 1) := by decide +kernel
theorem d_X0_freshResult_3 : decode (bc mX0_freshResult) 3 = .ok (.invokevirtual 30, 3) := by decide +kernel
theorem d_X0_freshResult_6 : decode (bc mX0_freshResult) 6 = .ok (.aload_n 0, 1) := by decide +kernel
theorem d_X0_freshResult_7 : decode (bc mX0_freshResult) 7 = .ok (.iload_n 2, 1) := by decide +kernel
theorem d_X0_freshResult_8 : decode (bc mX0_freshResult) 8 = .ok (.bipush 6, 2) := by decide +kernel
theorem d_X0_freshResult_10 : decode (bc mX0_freshResult) 10 = .ok (.invokevirtual 34, 3) := by decide +kernel
theorem d_X0_freshResult_13 : decode (bc mX0_freshResult) 13 = .ok (.ireturn, 1) := by decide +kernel
theorem d_X0_shelvesOfFresh_0 : decode (bc mX0_shelvesOfFresh) 0 = .ok (.aload_n 0, 1) := by decide +kernel
theorem d_X0_shelvesOfFresh_1 : decode (bc mX0_shelvesOfFresh) 1 = .ok (.aload_n 1, 1) := by decide +kernel
theorem d_X0_shelvesOfFresh_2 : decode (bc mX0_shelvesOfFresh) 2 = .ok (.iconst 1, 1) := by decide +kernel
theorem d_X0_shelvesOfFresh_3 : decode (bc mX0_shelvesOfFresh) 3 = .ok (.invokevirtual 30, 3) := by decide +kernel
theorem d_X0_shelvesOfFresh_6 : decode (bc mX0_shelvesOfFresh) 6 = .ok (.aload_n 0, 1) := by decide +kernel
theorem d_X0_shelvesOfFresh_7 : decode (bc mX0_shelvesOfFresh) 7 = .ok (.iload_n 2, 1) := by decide +kernel
theorem d_X0_shelvesOfFresh_8 : decode (bc mX0_shelvesOfFresh) 8 = .ok (.bipush 6, 2) := by decide +kernel
theorem d_X0_shelvesOfFresh_10 : decode (bc mX0_shelvesOfFresh) 10 = .ok (.invokevirtual 34, 3) := by decide +kernel
theorem d_X0_shelvesOfFresh_13 : decode (bc mX0_shelvesOfFresh) 13 = .ok (.pop, 1) := by decide +kernel
theorem d_X0_shelvesOfFresh_14 : decode (bc mX0_shelvesOfFresh) 14 = .ok (.aload_n 0, 1) := by decide +kernel
theorem d_X0_shelvesOfFresh_15 : decode (bc mX0_shelvesOfFresh) 15 = .ok (.getfield 38, 3) := by decide +kernel
theorem d_X0_shelvesOfFresh_18 : decode (bc mX0_shelvesOfFresh) 18 = .ok (.ireturn, 1) := by decide +kernel
theorem d_X0_fittingPlace_0 : decode (bc mX0_fittingPlace) 0 = .ok (.aload_n 0, 1) := by decide +kernel
theorem d_X0_fittingPlace_1 : decode (bc mX0_fittingPlace) 1 = .ok (.aload_n 1, 1) := by decide +kernel
theorem d_X0_fittingPlace_2 : decode (bc mX0_fittingPlace) 2 = .ok (.iconst 1, 1) := by decide +kernel
theorem d_X0_fittingPlace_3 : decode (bc mX0_fittingPlace) 3 = .ok (.invokevirtual 30, 3) := by decide +kernel
theorem d_X0_fittingPlace_6 : decode (bc mX0_fittingPlace) 6 = .ok (.aload_n 0, 1) := by decide +kernel
theorem d_X0_fittingPlace_7 : decode (bc mX0_fittingPlace) 7 = .ok (.iload_n 2, 1) := by decide +kernel
theorem d_X0_fittingPlace_8 : decode (bc mX0_fittingPlace) 8 = .ok (.invokevirtual 42, 3) := by decide +kernel
theorem d_X0_fittingPlace_11 : decode (bc mX0_fittingPlace) 11 = .ok (.istore_n 3, 1) := by decide +kernel
theorem d_X0_fittingPlace_12 : decode (bc mX0_fittingPlace) 12 = .ok (.iload_n 3, 1) := by decide +kernel
theorem d_X0_fittingPlace_13 : decode (bc mX0_fittingPlace) 13 = .ok (.ifCond .ge 8, 3) := by decide +kernel
theorem d_X0_fittingPlace_16 : decode (bc mX0_fittingPlace) 16 = .ok (.bipush (-6), 2) := by decide +kernel
theorem d_X0_fittingPlace_18 : decode (bc mX0_fittingPlace) 18 = .ok (.goto 4, 3) := by decide +kernel
theorem d_X0_fittingPlace_21 : decode (bc mX0_fittingPlace) 21 = .ok (.iload_n 3, 1) := by decide +kernel
theorem d_X0_fittingPlace_22 : decode (bc mX0_fittingPlace) 22 = .ok (.ireturn, 1) := by decide +kernel
theorem d_X0_begin_0 : decode (bc mX0_begin) 0 = .ok (.aload_n 0, 1) := by decide +kernel
theorem d_X0_begin_1 : decode (bc mX0_begin) 1 = .ok (.aload_n 1, 1) := by decide +kernel
theorem d_X0_begin_2 : decode (bc mX0_begin) 2 = .ok (.putfield 46, 3) := by decide +kernel
theorem d_X0_begin_5 : decode (bc mX0_begin) 5 = .ok (.aload_n 0, 1) := by decide +kernel
theorem d_X0_begin_6 : decode (bc mX0_begin) 6 = .ok (.iload_n 2, 1) := by decide +kernel
theorem d_X0_begin_7 : decode (bc mX0_begin) 7 = .ok (.putfield 50, 3) := by decide +kernel
theorem d_X0_begin_10 : decode (bc mX0_begin) 10 = .ok (.aload_n 0, 1) := by decide +kernel
theorem d_X0_begin_11 : decode (bc mX0_begin) 11 = .ok (.iconst 0, 1) := by decide +kernel
theorem d_X0_begin_12 : decode (bc mX0_begin) 12 = .ok (.putfield 38, 3) := by decide +kernel
theorem d_X0_begin_15 : decode (bc mX0_begin) 15 = .ok (.aload_n 0, 1) := by decide +kernel
theorem d_X0_begin_16 : decode (bc mX0_begin) 16 = .ok (.getfield 9, 3) := by decide +kernel
theorem d_X0_begin_19 : decode (bc mX0_begin) 19 = .ok (.iconst (-1), 1) := by decide +kernel
theorem d_X0_begin_20 : decode (bc mX0_begin) 20 = .ok (.invokestatic 54, 3) := by decide +kernel
theorem d_X0_begin_23 : decode (bc mX0_begin) 23 = .ok (.return_, 1) := by decide +kernel
theorem d_X0_loafValue_0 : decode (bc mX0_loafValue) 0 = .ok (.iload_n 1, 1) := by decide +kernel
theorem d_X0_loafValue_1 : decode (bc mX0_loafValue) 1 = .ok (.ifCond .lt 14, 3) := by decide +kernel
theorem d_X0_loafValue_4 : decode (bc mX0_loafValue) 4 = .ok (.iload_n 1, 1) := by decide +kernel
theorem d_X0_loafValue_5 : decode (bc mX0_loafValue) 5 = .ok (.iload_n 2, 1) := by decide +kernel
theorem d_X0_loafValue_6 : decode (bc mX0_loafValue) 6 = .ok (.if_icmp .ge 9, 3) := by decide +kernel
theorem d_X0_loafValue_9 : decode (bc mX0_loafValue) 9 = .ok (.iload_n 1, 1) := by decide +kernel
theorem d_X0_loafValue_10 : decode (bc mX0_loafValue) 10 = .ok (.bipush 6, 2) := by decide +kernel
theorem d_X0_loafValue_12 : decode (bc mX0_loafValue) 12 = .ok (.if_icmp .lt 6, 3) := by decide +kernel
theorem d_X0_loafValue_15 : decode (bc mX0_loafValue) 15 = .ok (.bipush 100, 2) := by decide +kernel
theorem d_X0_loafValue_17 : decode (bc mX0_loafValue) 17 = .ok (.ireturn, 1) := by decide +kernel
theorem d_X0_loafValue_18 : decode (bc mX0_loafValue) 18 = .ok (.aload_n 0, 1) := by decide +kernel
theorem d_X0_loafValue_19 : decode (bc mX0_loafValue) 19 = .ok (.getfield 46, 3) := by decide +kernel
theorem d_X0_loafValue_22 : decode (bc mX0_loafValue) 22 = .ok (.getfield 60, 3) := by decide +kernel
theorem d_X0_loafValue_25 : decode (bc mX0_loafValue) 25 = .ok (.iload_n 1, 1) := by decide +kernel
theorem d_X0_loafValue_26 : decode (bc mX0_loafValue) 26 = .ok (.aaload, 1) := by decide +kernel
theorem d_X0_loafValue_27 : decode (bc mX0_loafValue) 27 = .ok (.astore_n 3, 1) := by decide +kernel
theorem d_X0_loafValue_28 : decode (bc mX0_loafValue) 28 = .ok (.aload_n 3, 1) := by decide +kernel
theorem d_X0_loafValue_29 : decode (bc mX0_loafValue) 29 = .ok (.ifnonnull 6, 3) := by decide +kernel
theorem d_X0_loafValue_32 : decode (bc mX0_loafValue) 32 = .ok (.bipush 100, 2) := by decide +kernel
theorem d_X0_loafValue_34 : decode (bc mX0_loafValue) 34 = .ok (.ireturn, 1) := by decide +kernel
theorem d_X0_loafValue_35 : decode (bc mX0_loafValue) 35 = .ok (.aload_n 0, 1) := by decide +kernel
theorem d_X0_loafValue_36 : decode (bc mX0_loafValue) 36 = .ok (.getfield 50, 3) := by decide +kernel
theorem d_X0_loafValue_39 : decode (bc mX0_loafValue) 39 = .ok (.ifCond .eq 12, 3) := by decide +kernel
theorem d_X0_loafValue_42 : decode (bc mX0_loafValue) 42 = .ok (.aload_n 0, 1) := by decide +kernel
theorem d_X0_loafValue_43 : decode (bc mX0_loafValue) 43 = .ok (.iload_n 1, 1) := by decide +kernel
theorem d_X0_loafValue_44 : decode (bc mX0_loafValue) 44 = .ok (.aload_n 3, 1) := by decide +kernel
theorem d_X0_loafValue_45 : decode (bc mX0_loafValue) 45 = .ok (.invokevirtual 66, 3) := by decide +kernel
theorem d_X0_loafValue_48 : decode (bc mX0_loafValue) 48 = .ok (.goto 9, 3) := by decide +kernel
theorem d_X0_loafValue_51 : decode (bc mX0_loafValue) 51 = .ok (.aload_n 0, 1) := by decide +kernel
theorem d_X0_loafValue_52 : decode (bc mX0_loafValue) 52 = .ok (.iload_n 1, 1) := by decide +kernel
theorem d_X0_loafValue_53 : decode (bc mX0_loafValue) 53 = .ok (.aload_n 3, 1) := by decide +kernel
theorem d_X0_loafValue_54 : decode (bc mX0_loafValue) 54 = .ok (.invokevirtual 70, 3) := by decide +kernel
theorem d_X0_loafValue_57 : decode (bc mX0_loafValue) 57 = .ok (.ireturn, 1) := by decide +kernel
theorem d_X0_freshValue_0 : decode (bc mX0_freshValue) 0 = .ok (.aload_n 0, 1) := by decide +kernel
theorem d_X0_freshValue_1 : decode (bc mX0_freshValue) 1 = .ok (.getfield 9, 3) := by decide +kernel
theorem d_X0_freshValue_4 : decode (bc mX0_freshValue) 4 = .ok (.iload_n 1, 1) := by decide +kernel
theorem d_X0_freshValue_5 : decode (bc mX0_freshValue) 5 = .ok (.iaload, 1) := by decide +kernel
theorem d_X0_freshValue_6 : decode (bc mX0_freshValue) 6 = .ok (.iconst (-1), 1) := by decide +kernel
theorem d_X0_freshValue_7 : decode (bc mX0_freshValue) 7 = .ok (.if_icmp .ne 15, 3) := by decide +kernel
theorem d_X0_freshValue_10 : decode (bc mX0_freshValue) 10 = .ok (.aload_n 0, 1) := by decide +kernel
theorem d_X0_freshValue_11 : decode (bc mX0_freshValue) 11 = .ok (.getfield 9, 3) := by decide +kernel
theorem d_X0_freshValue_14 : decode (bc mX0_freshValue) 14 = .ok (.iload_n 1, 1) := by decide +kernel
theorem d_X0_freshValue_15 : decode (bc mX0_freshValue) 15 = .ok (.aload_n 0, 1) := by decide +kernel
theorem d_X0_freshValue_16 : decode (bc mX0_freshValue) 16 = .ok (.iload_n 1, 1) := by decide +kernel
theorem d_X0_freshValue_17 : decode (bc mX0_freshValue) 17 = .ok (.aload_n 2, 1) := by decide +kernel
theorem d_X0_freshValue_18 : decode (bc mX0_freshValue) 18 = .ok (.invokevirtual 73, 3) := by decide +kernel
theorem d_X0_freshValue_21 : decode (bc mX0_freshValue) 21 = .ok (.iastore, 1) := by decide +kernel
theorem d_X0_freshValue_22 : decode (bc mX0_freshValue) 22 = .ok (.aload_n 0, 1) := by decide +kernel
theorem d_X0_freshValue_23 : decode (bc mX0_freshValue) 23 = .ok (.getfield 9, 3) := by decide +kernel
theorem d_X0_freshValue_26 : decode (bc mX0_freshValue) 26 = .ok (.iload_n 1, 1) := by decide +kernel
theorem d_X0_freshValue_27 : decode (bc mX0_freshValue) 27 = .ok (.iaload, 1) := by decide +kernel
theorem d_X0_freshValue_28 : decode (bc mX0_freshValue) 28 = .ok (.ireturn, 1) := by decide +kernel
theorem d_X0_rememberedValue_0 : decode (bc mX0_rememberedValue) 0 = .ok (.aload_n 0, 1) := by decide +kernel
theorem d_X0_rememberedValue_1 : decode (bc mX0_rememberedValue) 1 = .ok (.iload_n 1, 1) := by decide +kernel
theorem d_X0_rememberedValue_2 : decode (bc mX0_rememberedValue) 2 = .ok (.invokevirtual 42, 3) := by decide +kernel
theorem d_X0_rememberedValue_5 : decode (bc mX0_rememberedValue) 5 = .ok (.istore_n 3, 1) := by decide +kernel
theorem d_X0_rememberedValue_6 : decode (bc mX0_rememberedValue) 6 = .ok (.iload_n 3, 1) := by decide +kernel
theorem d_X0_rememberedValue_7 : decode (bc mX0_rememberedValue) 7 = .ok (.ifCond .lt 58, 3) := by decide +kernel
theorem d_X0_rememberedValue_10 : decode (bc mX0_rememberedValue) 10 = .ok (.aload_n 0, 1) := by decide +kernel
theorem d_X0_rememberedValue_11 : decode (bc mX0_rememberedValue) 11 = .ok (.getfield 46, 3) := by decide +kernel
theorem d_X0_rememberedValue_14 : decode (bc mX0_rememberedValue) 14 = .ok (.getfield 76, 3) := by decide +kernel
theorem d_X0_rememberedValue_17 : decode (bc mX0_rememberedValue) 17 = .ok (.iload_n 3, 1) := by decide +kernel
theorem d_X0_rememberedValue_18 : decode (bc mX0_rememberedValue) 18 = .ok (.aaload, 1) := by decide +kernel
theorem d_X0_rememberedValue_19 : decode (bc mX0_rememberedValue) 19 = .ok (.astore 4, 2) := by decide +kernel
theorem d_X0_rememberedValue_21 : decode (bc mX0_rememberedValue) 21 = .ok (.aload_n 0, 1) := by decide +kernel
theorem d_X0_rememberedValue_22 : decode (bc mX0_rememberedValue) 22 = .ok (.getfield 46, 3) := by decide +kernel
theorem d_X0_rememberedValue_25 : decode (bc mX0_rememberedValue) 25 = .ok (.iload_n 3, 1) := by decide +kernel
theorem d_X0_rememberedValue_26 : decode (bc mX0_rememberedValue) 26 = .ok (.invokevirtual 79, 3) := by decide +kernel
theorem d_X0_rememberedValue_29 : decode (bc mX0_rememberedValue) 29 = .ok (.aload_n 0, 1) := by decide +kernel
theorem d_X0_rememberedValue_30 : decode (bc mX0_rememberedValue) 30 = .ok (.getfield 46, 3) := by decide +kernel
theorem d_X0_rememberedValue_33 : decode (bc mX0_rememberedValue) 33 = .ok (.getfield 83, 3) := by decide +kernel
theorem d_X0_rememberedValue_36 : decode (bc mX0_rememberedValue) 36 = .ok (.iload_n 1, 1) := by decide +kernel
theorem d_X0_rememberedValue_37 : decode (bc mX0_rememberedValue) 37 = .ok (.dup2, 1) := by decide +kernel
theorem d_X0_rememberedValue_38 : decode (bc mX0_rememberedValue) 38 = .ok (.iaload, 1) := by decide +kernel
theorem d_X0_rememberedValue_39 : decode (bc mX0_rememberedValue) 39 = .ok (.iconst 1, 1) := by decide +kernel
theorem d_X0_rememberedValue_40 : decode (bc mX0_rememberedValue) 40 = .ok (.iadd, 1) := by decide +kernel
theorem d_X0_rememberedValue_41 : decode (bc mX0_rememberedValue) 41 = .ok (.iastore, 1) := by decide +kernel
theorem d_X0_rememberedValue_42 : decode (bc mX0_rememberedValue) 42 = .ok (.aload_n 0, 1) := by decide +kernel
theorem d_X0_rememberedValue_43 : decode (bc mX0_rememberedValue) 43 = .ok (.getfield 46, 3) := by decide +kernel
theorem d_X0_rememberedValue_46 : decode (bc mX0_rememberedValue) 46 = .ok (.dup, 1) := by decide +kernel
theorem d_X0_rememberedValue_47 : decode (bc mX0_rememberedValue) 47 = .ok (.getfield 86, 3) := by decide +kernel
theorem d_X0_rememberedValue_50 : decode (bc mX0_rememberedValue) 50 = .ok (.aload 4, 2) := by decide +kernel
theorem d_X0_rememberedValue_52 : decode (bc mX0_rememberedValue) 52 = .ok (.getfield 89, 3) := by decide +kernel
theorem d_X0_rememberedValue_55 : decode (bc mX0_rememberedValue) 55 = .ok (.iadd, 1) := by decide +kernel
theorem d_X0_rememberedValue_56 : decode (bc mX0_rememberedValue) 56 = .ok (.putfield 86, 3) := by decide +kernel
theorem d_X0_rememberedValue_59 : decode (bc mX0_rememberedValue) 59 = .ok (.aload 4, 2) := by decide +kernel
theorem d_X0_rememberedValue_61 : decode (bc mX0_rememberedValue) 61 = .ok (.getfield 92, 3) := by decide +kernel
theorem d_X0_rememberedValue_64 : decode (bc mX0_rememberedValue) 64 = .ok (.ireturn, 1) := by decide +kernel
theorem d_X0_rememberedValue_65 : decode (bc mX0_rememberedValue) 65 = .ok (.aload_n 0, 1) := by decide +kernel
theorem d_X0_rememberedValue_66 : decode (bc mX0_rememberedValue) 66 = .ok (.iload_n 1, 1) := by decide +kernel
theorem d_X0_rememberedValue_67 : decode (bc mX0_rememberedValue) 67 = .ok (.aload_n 2, 1) := by decide +kernel
theorem d_X0_rememberedValue_68 : decode (bc mX0_rememberedValue) 68 = .ok (.invokevirtual 73, 3) := by decide +kernel
theorem d_X0_rememberedValue_71 : decode (bc mX0_rememberedValue) 71 = .ok (.istore 4, 2) := by decide +kernel
theorem d_X0_rememberedValue_73 : decode (bc mX0_rememberedValue) 73 = .ok (.aload_n 0, 1) := by decide +kernel
theorem d_X0_rememberedValue_74 : decode (bc mX0_rememberedValue) 74 = .ok (.getfield 17, 3) := by decide +kernel
theorem d_X0_rememberedValue_77 : decode (bc mX0_rememberedValue) 77 = .ok (.iload_n 1, 1) := by decide +kernel
theorem d_X0_rememberedValue_78 : decode (bc mX0_rememberedValue) 78 = .ok (.aaload, 1) := by decide +kernel
theorem d_X0_rememberedValue_79 : decode (bc mX0_rememberedValue) 79 = .ok (.astore 5, 2) := by decide +kernel
theorem d_X0_rememberedValue_81 : decode (bc mX0_rememberedValue) 81 = .ok (.aload 5, 2) := by decide +kernel
theorem d_X0_rememberedValue_83 : decode (bc mX0_rememberedValue) 83 = .ok (.iload 4, 2) := by decide +kernel
theorem d_X0_rememberedValue_85 : decode (bc mX0_rememberedValue) 85 = .ok (.putfield 92, 3) := by decide +kernel
theorem d_X0_rememberedValue_88 : decode (bc mX0_rememberedValue) 88 = .ok (.aload_n 0, 1) := by decide +kernel
theorem d_X0_rememberedValue_89 : decode (bc mX0_rememberedValue) 89 = .ok (.getfield 46, 3) := by decide +kernel
theorem d_X0_rememberedValue_92 : decode (bc mX0_rememberedValue) 92 = .ok (.getfield 95, 3) := by decide +kernel
theorem d_X0_rememberedValue_95 : decode (bc mX0_rememberedValue) 95 = .ok (.iload_n 1, 1) := by decide +kernel
theorem d_X0_rememberedValue_96 : decode (bc mX0_rememberedValue) 96 = .ok (.dup2, 1) := by decide +kernel
theorem d_X0_rememberedValue_97 : decode (bc mX0_rememberedValue) 97 = .ok (.iaload, 1) := by decide +kernel
theorem d_X0_rememberedValue_98 : decode (bc mX0_rememberedValue) 98 = .ok (.iconst 1, 1) := by decide +kernel
theorem d_X0_rememberedValue_99 : decode (bc mX0_rememberedValue) 99 = .ok (.iadd, 1) := by decide +kernel
theorem d_X0_rememberedValue_100 : decode (bc mX0_rememberedValue) 100 = .ok (.iastore, 1) := by decide +kernel
theorem d_X0_rememberedValue_101 : decode (bc mX0_rememberedValue) 101 = .ok (.aload_n 0, 1) := by decide +kernel
theorem d_X0_rememberedValue_102 : decode (bc mX0_rememberedValue) 102 = .ok (.getfield 46, 3) := by decide +kernel
theorem d_X0_rememberedValue_105 : decode (bc mX0_rememberedValue) 105 = .ok (.dup, 1) := by decide +kernel
theorem d_X0_rememberedValue_106 : decode (bc mX0_rememberedValue) 106 = .ok (.getfield 98, 3) := by decide +kernel
theorem d_X0_rememberedValue_109 : decode (bc mX0_rememberedValue) 109 = .ok (.aload 5, 2) := by decide +kernel
theorem d_X0_rememberedValue_111 : decode (bc mX0_rememberedValue) 111 = .ok (.getfield 89, 3) := by decide +kernel
theorem d_X0_rememberedValue_114 : decode (bc mX0_rememberedValue) 114 = .ok (.iadd, 1) := by decide +kernel
theorem d_X0_rememberedValue_115 : decode (bc mX0_rememberedValue) 115 = .ok (.putfield 98, 3) := by decide +kernel
theorem d_X0_rememberedValue_118 : decode (bc mX0_rememberedValue) 118 = .ok (.iload 4, 2) := by decide +kernel
theorem d_X0_rememberedValue_120 : decode (bc mX0_rememberedValue) 120 = .ok (.bipush 100, 2) := by decide +kernel
theorem d_X0_rememberedValue_122 : decode (bc mX0_rememberedValue) 122 = .ok (.if_icmp .ne 16, 3) := by decide +kernel
theorem d_X0_rememberedValue_125 : decode (bc mX0_rememberedValue) 125 = .ok (.aload_n 0, 1) := by decide +kernel
theorem d_X0_rememberedValue_126 : decode (bc mX0_rememberedValue) 126 = .ok (.getfield 46, 3) := by decide +kernel
theorem d_X0_rememberedValue_129 : decode (bc mX0_rememberedValue) 129 = .ok (.getfield 101, 3) := by decide +kernel
theorem d_X0_rememberedValue_132 : decode (bc mX0_rememberedValue) 132 = .ok (.iconst 1, 1) := by decide +kernel
theorem d_X0_rememberedValue_133 : decode (bc mX0_rememberedValue) 133 = .ok (.iaload, 1) := by decide +kernel
theorem d_X0_rememberedValue_134 : decode (bc mX0_rememberedValue) 134 = .ok (.iconst 1, 1) := by decide +kernel
theorem d_X0_rememberedValue_135 : decode (bc mX0_rememberedValue) 135 = .ok (.if_icmp .ne 12, 3) := by decide +kernel
theorem d_X0_rememberedValue_138 : decode (bc mX0_rememberedValue) 138 = .ok (.aload_n 0, 1) := by decide +kernel
theorem d_X0_rememberedValue_139 : decode (bc mX0_rememberedValue) 139 = .ok (.getfield 46, 3) := by decide +kernel
theorem d_X0_rememberedValue_142 : decode (bc mX0_rememberedValue) 142 = .ok (.aload 5, 2) := by decide +kernel
theorem d_X0_rememberedValue_144 : decode (bc mX0_rememberedValue) 144 = .ok (.invokevirtual 104, 3) := by decide +kernel
theorem d_X0_rememberedValue_147 : decode (bc mX0_rememberedValue) 147 = .ok (.iload 4, 2) := by decide +kernel
theorem d_X0_rememberedValue_149 : decode (bc mX0_rememberedValue) 149 = .ok (.ireturn, 1) := by decide +kernel
theorem d_X0_fittingMemory_0 : decode (bc mX0_fittingMemory) 0 = .ok (.aload_n 0, 1) := by decide +kernel
theorem d_X0_fittingMemory_1 : decode (bc mX0_fittingMemory) 1 = .ok (.getfield 26, 3) := by decide +kernel
theorem d_X0_fittingMemory_4 : decode (bc mX0_fittingMemory) 4 = .ok (.iload_n 1, 1) := by decide +kernel
theorem d_X0_fittingMemory_5 : decode (bc mX0_fittingMemory) 5 = .ok (.aaload, 1) := by decide +kernel
theorem d_X0_fittingMemory_6 : decode (bc mX0_fittingMemory) 6 = .ok (.astore_n 2, 1) := by decide +kernel
theorem d_X0_fittingMemory_7 : decode (bc mX0_fittingMemory) 7 = .ok (.aload_n 0, 1) := by decide +kernel
theorem d_X0_fittingMemory_8 : decode (bc mX0_fittingMemory) 8 = .ok (.getfield 46, 3) := by decide +kernel
theorem d_X0_fittingMemory_11 : decode (bc mX0_fittingMemory) 11 = .ok (.iload_n 1, 1) := by decide +kernel
theorem d_X0_fittingMemory_12 : decode (bc mX0_fittingMemory) 12 = .ok (.aload_n 2, 1) := by decide +kernel
theorem d_X0_fittingMemory_13 : decode (bc mX0_fittingMemory) 13 = .ok (.invokevirtual 108, 3) := by decide +kernel
theorem d_X0_fittingMemory_16 : decode (bc mX0_fittingMemory) 16 = .ok (.istore_n 3, 1) := by decide +kernel
theorem d_X0_fittingMemory_17 : decode (bc mX0_fittingMemory) 17 = .ok (.iconst 0, 1) := by decide +kernel
theorem d_X0_fittingMemory_18 : decode (bc mX0_fittingMemory) 18 = .ok (.istore 4, 2) := by decide +kernel
theorem d_X0_fittingMemory_20 : decode (bc mX0_fittingMemory) 20 = .ok (.iload 4, 2) := by decide +kernel
theorem d_X0_fittingMemory_22 : decode (bc mX0_fittingMemory) 22 = .ok (.iload_n 3, 1) := by decide +kernel
theorem d_X0_fittingMemory_23 : decode (bc mX0_fittingMemory) 23 = .ok (.if_icmp .ge 60, 3) := by decide +kernel
theorem d_X0_fittingMemory_26 : decode (bc mX0_fittingMemory) 26 = .ok (.aload_n 0, 1) := by decide +kernel
theorem d_X0_fittingMemory_27 : decode (bc mX0_fittingMemory) 27 = .ok (.getfield 46, 3) := by decide +kernel
theorem d_X0_fittingMemory_30 : decode (bc mX0_fittingMemory) 30 = .ok (.aload_n 2, 1) := by decide +kernel
theorem d_X0_fittingMemory_31 : decode (bc mX0_fittingMemory) 31 = .ok (.iload 4, 2) := by decide +kernel
theorem d_X0_fittingMemory_33 : decode (bc mX0_fittingMemory) 33 = .ok (.iaload, 1) := by decide +kernel
theorem d_X0_fittingMemory_34 : decode (bc mX0_fittingMemory) 34 = .ok (.invokevirtual 112, 3) := by decide +kernel
theorem d_X0_fittingMemory_37 : decode (bc mX0_fittingMemory) 37 = .ok (.istore 5, 2) := by decide +kernel
theorem d_X0_fittingMemory_39 : decode (bc mX0_fittingMemory) 39 = .ok (.iload 5, 2) := by decide +kernel
theorem d_X0_fittingMemory_41 : decode (bc mX0_fittingMemory) 41 = .ok (.ifCond .lt 36, 3) := by decide +kernel
theorem d_X0_fittingMemory_44 : decode (bc mX0_fittingMemory) 44 = .ok (.aload_n 0, 1) := by decide +kernel
theorem d_X0_fittingMemory_45 : decode (bc mX0_fittingMemory) 45 = .ok (.aload_n 0, 1) := by decide +kernel
theorem d_X0_fittingMemory_46 : decode (bc mX0_fittingMemory) 46 = .ok (.getfield 46, 3) := by decide +kernel
theorem d_X0_fittingMemory_49 : decode (bc mX0_fittingMemory) 49 = .ok (.getfield 76, 3) := by decide +kernel
theorem d_X0_fittingMemory_52 : decode (bc mX0_fittingMemory) 52 = .ok (.iload 5, 2) := by decide +kernel
theorem d_X0_fittingMemory_54 : decode (bc mX0_fittingMemory) 54 = .ok (.aaload, 1) := by decide +kernel
theorem d_X0_fittingMemory_55 : decode (bc mX0_fittingMemory) 55 = .ok (.aload_n 2, 1) := by decide +kernel
theorem d_X0_fittingMemory_56 : decode (bc mX0_fittingMemory) 56 = .ok (.iload 4, 2) := by decide +kernel
theorem d_X0_fittingMemory_58 : decode (bc mX0_fittingMemory) 58 = .ok (.iaload, 1) := by decide +kernel
theorem d_X0_fittingMemory_59 : decode (bc mX0_fittingMemory) 59 = .ok (.invokevirtual 115, 3) := by decide +kernel
theorem d_X0_fittingMemory_62 : decode (bc mX0_fittingMemory) 62 = .ok (.ifCond .eq 15, 3) := by decide +kernel
theorem d_X0_fittingMemory_65 : decode (bc mX0_fittingMemory) 65 = .ok (.aload_n 0, 1) := by decide +kernel
theorem d_X0_fittingMemory_66 : decode (bc mX0_fittingMemory) 66 = .ok (.getfield 46, 3) := by decide +kernel
theorem d_X0_fittingMemory_69 : decode (bc mX0_fittingMemory) 69 = .ok (.aload_n 2, 1) := by decide +kernel
theorem d_X0_fittingMemory_70 : decode (bc mX0_fittingMemory) 70 = .ok (.iload 4, 2) := by decide +kernel
theorem d_X0_fittingMemory_72 : decode (bc mX0_fittingMemory) 72 = .ok (.iaload, 1) := by decide +kernel
theorem d_X0_fittingMemory_73 : decode (bc mX0_fittingMemory) 73 = .ok (.invokevirtual 112, 3) := by decide +kernel
theorem d_X0_fittingMemory_76 : decode (bc mX0_fittingMemory) 76 = .ok (.ireturn, 1) := by decide +kernel
theorem d_X0_fittingMemory_77 : decode (bc mX0_fittingMemory) 77 = .ok (.iinc 4 1, 3) := by decide +kernel
theorem d_X0_fittingMemory_80 : decode (bc mX0_fittingMemory) 80 = .ok (.goto (-60), 3) := by decide +kernel
theorem d_X0_fittingMemory_83 : decode (bc mX0_fittingMemory) 83 = .ok (.iconst (-1), 1) := by decide +kernel
theorem d_X0_fittingMemory_84 : decode (bc mX0_fittingMemory) 84 = .ok (.ireturn, 1) := by decide +kernel
theorem d_X0_isAsItWas_0 : decode (bc mX0_isAsItWas) 0 = .ok (.iconst 0, 1) := by decide +kernel
theorem d_X0_isAsItWas_1 : decode (bc mX0_isAsItWas) 1 = .ok (.istore_n 3, 1) := by decide +kernel
theorem d_X0_isAsItWas_2 : decode (bc mX0_isAsItWas) 2 = .ok (.iload_n 3, 1) := by decide +kernel
theorem d_X0_isAsItWas_3 : decode (bc mX0_isAsItWas) 3 = .ok (.aload_n 1, 1) := by decide +kernel
theorem d_X0_isAsItWas_4 : decode (bc mX0_isAsItWas) 4 = .ok (.getfield 119, 3) := by decide +kernel
theorem d_X0_isAsItWas_7 : decode (bc mX0_isAsItWas) 7 = .ok (.if_icmp .ge 46, 3) := by decide +kernel
theorem d_X0_isAsItWas_10 : decode (bc mX0_isAsItWas) 10 = .ok (.aload_n 0, 1) := by decide +kernel
theorem d_X0_isAsItWas_11 : decode (bc mX0_isAsItWas) 11 = .ok (.aload_n 1, 1) := by decide +kernel
theorem d_X0_isAsItWas_12 : decode (bc mX0_isAsItWas) 12 = .ok (.getfield 122, 3) := by decide +kernel
theorem d_X0_isAsItWas_15 : decode (bc mX0_isAsItWas) 15 = .ok (.iload_n 3, 1) := by decide +kernel
theorem d_X0_isAsItWas_16 : decode (bc mX0_isAsItWas) 16 = .ok (.iaload, 1) := by decide +kernel
theorem d_X0_isAsItWas_17 : decode (bc mX0_isAsItWas) 17 = .ok (.aload_n 1, 1) := by decide +kernel
theorem d_X0_isAsItWas_18 : decode (bc mX0_isAsItWas) 18 = .ok (.getfield 125, 3) := by decide +kernel
theorem d_X0_isAsItWas_21 : decode (bc mX0_isAsItWas) 21 = .ok (.invokevirtual 128, 3) := by decide +kernel
theorem d_X0_isAsItWas_24 : decode (bc mX0_isAsItWas) 24 = .ok (.istore 4, 2) := by decide +kernel
theorem d_X0_isAsItWas_26 : decode (bc mX0_isAsItWas) 26 = .ok (.aload_n 1, 1) := by decide +kernel
theorem d_X0_isAsItWas_27 : decode (bc mX0_isAsItWas) 27 = .ok (.getfield 131, 3) := by decide +kernel
theorem d_X0_isAsItWas_30 : decode (bc mX0_isAsItWas) 30 = .ok (.iload_n 2, 1) := by decide +kernel
theorem d_X0_isAsItWas_31 : decode (bc mX0_isAsItWas) 31 = .ok (.if_icmp .ne 14, 3) := by decide +kernel
theorem d_X0_isAsItWas_34 : decode (bc mX0_isAsItWas) 34 = .ok (.aload_n 1, 1) := by decide +kernel
theorem d_X0_isAsItWas_35 : decode (bc mX0_isAsItWas) 35 = .ok (.getfield 134, 3) := by decide +kernel
theorem d_X0_isAsItWas_38 : decode (bc mX0_isAsItWas) 38 = .ok (.iload_n 3, 1) := by decide +kernel
theorem d_X0_isAsItWas_39 : decode (bc mX0_isAsItWas) 39 = .ok (.iaload, 1) := by decide +kernel
theorem d_X0_isAsItWas_40 : decode (bc mX0_isAsItWas) 40 = .ok (.iload 4, 2) := by decide +kernel
theorem d_X0_isAsItWas_42 : decode (bc mX0_isAsItWas) 42 = .ok (.if_icmp .eq 5, 3) := by decide +kernel
theorem d_X0_isAsItWas_45 : decode (bc mX0_isAsItWas) 45 = .ok (.iconst 0, 1) := by decide +kernel
theorem d_X0_isAsItWas_46 : decode (bc mX0_isAsItWas) 46 = .ok (.ireturn, 1) := by decide +kernel
theorem d_X0_isAsItWas_47 : decode (bc mX0_isAsItWas) 47 = .ok (.iinc 3 1, 3) := by decide +kernel
theorem d_X0_isAsItWas_50 : decode (bc mX0_isAsItWas) 50 = .ok (.goto (-48), 3) := by decide +kernel
theorem d_X0_isAsItWas_53 : decode (bc mX0_isAsItWas) 53 = .ok (.iconst 1, 1) := by decide +kernel
theorem d_X0_isAsItWas_54 : decode (bc mX0_isAsItWas) 54 = .ok (.ireturn, 1) := by decide +kernel
theorem d_X0_valueNow_0 : decode (bc mX0_valueNow) 0 = .ok (.iload_n 1, 1) := by decide +kernel
theorem d_X0_valueNow_1 : decode (bc mX0_valueNow) 1 = .ok (.bipush 20, 2) := by decide +kernel
theorem d_X0_valueNow_3 : decode (bc mX0_valueNow) 3 = .ok (.if_icmp .lt 13, 3) := by decide +kernel
theorem d_X0_valueNow_6 : decode (bc mX0_valueNow) 6 = .ok (.aload_n 0, 1) := by decide +kernel
theorem d_X0_valueNow_7 : decode (bc mX0_valueNow) 7 = .ok (.iload_n 1, 1) := by decide +kernel
theorem d_X0_valueNow_8 : decode (bc mX0_valueNow) 8 = .ok (.bipush 20, 2) := by decide +kernel
theorem d_X0_valueNow_10 : decode (bc mX0_valueNow) 10 = .ok (.isub, 1) := by decide +kernel
theorem d_X0_valueNow_11 : decode (bc mX0_valueNow) 11 = .ok (.iload_n 2, 1) := by decide +kernel
theorem d_X0_valueNow_12 : decode (bc mX0_valueNow) 12 = .ok (.invokevirtual 34, 3) := by decide +kernel
theorem d_X0_valueNow_15 : decode (bc mX0_valueNow) 15 = .ok (.ireturn, 1) := by decide +kernel
theorem d_X0_valueNow_16 : decode (bc mX0_valueNow) 16 = .ok (.iload_n 1, 1) := by decide +kernel
theorem d_X0_valueNow_17 : decode (bc mX0_valueNow) 17 = .ok (.invokestatic 137, 3) := by decide +kernel
theorem d_X0_valueNow_20 : decode (bc mX0_valueNow) 20 = .ok (.ifCond .eq 21, 3) := by decide +kernel
theorem d_X0_valueNow_23 : decode (bc mX0_valueNow) 23 = .ok (.aload_n 0, 1) := by decide +kernel
theorem d_X0_valueNow_24 : decode (bc mX0_valueNow) 24 = .ok (.getfield 46, 3) := by decide +kernel
theorem d_X0_valueNow_27 : decode (bc mX0_valueNow) 27 = .ok (.getfield 141, 3) := by decide +kernel
theorem d_X0_valueNow_30 : decode (bc mX0_valueNow) 30 = .ok (.iload_n 1, 1) := by decide +kernel
theorem d_X0_valueNow_31 : decode (bc mX0_valueNow) 31 = .ok (.invokestatic 144, 3) := by decide +kernel
theorem d_X0_valueNow_34 : decode (bc mX0_valueNow) 34 = .ok (.ifCond .ne 7, 3) := by decide +kernel
theorem d_X0_valueNow_37 : decode (bc mX0_valueNow) 37 = .ok (.iconst 1, 1) := by decide +kernel
theorem d_X0_valueNow_38 : decode (bc mX0_valueNow) 38 = .ok (.goto 4, 3) := by decide +kernel
theorem d_X0_valueNow_41 : decode (bc mX0_valueNow) 41 = .ok (.iconst 0, 1) := by decide +kernel
theorem d_X0_valueNow_42 : decode (bc mX0_valueNow) 42 = .ok (.istore_n 3, 1) := by decide +kernel
theorem d_X0_valueNow_43 : decode (bc mX0_valueNow) 43 = .ok (.iload_n 3, 1) := by decide +kernel
theorem d_X0_valueNow_44 : decode (bc mX0_valueNow) 44 = .ok (.ifCond .eq 15, 3) := by decide +kernel
theorem d_X0_valueNow_47 : decode (bc mX0_valueNow) 47 = .ok (.aload_n 0, 1) := by decide +kernel
theorem d_X0_valueNow_48 : decode (bc mX0_valueNow) 48 = .ok (.getfield 46, 3) := by decide +kernel
theorem d_X0_valueNow_51 : decode (bc mX0_valueNow) 51 = .ok (.getfield 147, 3) := by decide +kernel
theorem d_X0_valueNow_54 : decode (bc mX0_valueNow) 54 = .ok (.iload_n 1, 1) := by decide +kernel
theorem d_X0_valueNow_55 : decode (bc mX0_valueNow) 55 = .ok (.iaload, 1) := by decide +kernel
theorem d_X0_valueNow_56 : decode (bc mX0_valueNow) 56 = .ok (.goto 5, 3) := by decide +kernel
theorem d_X0_valueNow_59 : decode (bc mX0_valueNow) 59 = .ok (.bipush 100, 2) := by decide +kernel
theorem d_X0_valueNow_61 : decode (bc mX0_valueNow) 61 = .ok (.ireturn, 1) := by decide +kernel
theorem d_X0_lookedUp_0 : decode (bc mX0_lookedUp) 0 = .ok (.aload_n 2, 1) := by decide +kernel
theorem d_X0_lookedUp_1 : decode (bc mX0_lookedUp) 1 = .ok (.iload_n 1, 1) := by decide +kernel
theorem d_X0_lookedUp_2 : decode (bc mX0_lookedUp) 2 = .ok (.invokevirtual 150, 3) := by decide +kernel
theorem d_X0_lookedUp_5 : decode (bc mX0_lookedUp) 5 = .ok (.istore_n 3, 1) := by decide +kernel
theorem d_X0_lookedUp_6 : decode (bc mX0_lookedUp) 6 = .ok (.iload_n 3, 1) := by decide +kernel
theorem d_X0_lookedUp_7 : decode (bc mX0_lookedUp) 7 = .ok (.ifCond .lt 10, 3) := by decide +kernel
theorem d_X0_lookedUp_10 : decode (bc mX0_lookedUp) 10 = .ok (.aload_n 2, 1) := by decide +kernel
theorem d_X0_lookedUp_11 : decode (bc mX0_lookedUp) 11 = .ok (.getfield 134, 3) := by decide +kernel
theorem d_X0_lookedUp_14 : decode (bc mX0_lookedUp) 14 = .ok (.iload_n 3, 1) := by decide +kernel
theorem d_X0_lookedUp_15 : decode (bc mX0_lookedUp) 15 = .ok (.iaload, 1) := by decide +kernel
theorem d_X0_lookedUp_16 : decode (bc mX0_lookedUp) 16 = .ok (.ireturn, 1) := by decide +kernel
theorem d_X0_lookedUp_17 : decode (bc mX0_lookedUp) 17 = .ok (.iload_n 1, 1) := by decide +kernel
theorem d_X0_lookedUp_18 : decode (bc mX0_lookedUp) 18 = .ok (.invokestatic 137, 3) := by decide +kernel
theorem d_X0_lookedUp_21 : decode (bc mX0_lookedUp) 21 = .ok (.ifCond .eq 15, 3) := by decide +kernel
theorem d_X0_lookedUp_24 : decode (bc mX0_lookedUp) 24 = .ok (.aload_n 0, 1) := by decide +kernel
theorem d_X0_lookedUp_25 : decode (bc mX0_lookedUp) 25 = .ok (.dup, 1) := by decide +kernel
theorem d_X0_lookedUp_26 : decode (bc mX0_lookedUp) 26 = .ok (.getfield 38, 3) := by decide +kernel
theorem d_X0_lookedUp_29 : decode (bc mX0_lookedUp) 29 = .ok (.iconst 1, 1) := by decide +kernel
theorem d_X0_lookedUp_30 : decode (bc mX0_lookedUp) 30 = .ok (.iload_n 1, 1) := by decide +kernel
theorem d_X0_lookedUp_31 : decode (bc mX0_lookedUp) 31 = .ok (.ishl, 1) := by decide +kernel
theorem d_X0_lookedUp_32 : decode (bc mX0_lookedUp) 32 = .ok (.ior, 1) := by decide +kernel
theorem d_X0_lookedUp_33 : decode (bc mX0_lookedUp) 33 = .ok (.putfield 38, 3) := by decide +kernel
theorem d_X0_lookedUp_36 : decode (bc mX0_lookedUp) 36 = .ok (.aload_n 0, 1) := by decide +kernel
theorem d_X0_lookedUp_37 : decode (bc mX0_lookedUp) 37 = .ok (.iload_n 1, 1) := by decide +kernel
theorem d_X0_lookedUp_38 : decode (bc mX0_lookedUp) 38 = .ok (.aload_n 2, 1) := by decide +kernel
theorem d_X0_lookedUp_39 : decode (bc mX0_lookedUp) 39 = .ok (.getfield 125, 3) := by decide +kernel
theorem d_X0_lookedUp_42 : decode (bc mX0_lookedUp) 42 = .ok (.invokevirtual 128, 3) := by decide +kernel
theorem d_X0_lookedUp_45 : decode (bc mX0_lookedUp) 45 = .ok (.istore 4, 2) := by decide +kernel
theorem d_X0_lookedUp_47 : decode (bc mX0_lookedUp) 47 = .ok (.aload_n 2, 1) := by decide +kernel
theorem d_X0_lookedUp_48 : decode (bc mX0_lookedUp) 48 = .ok (.iload_n 1, 1) := by decide +kernel
theorem d_X0_lookedUp_49 : decode (bc mX0_lookedUp) 49 = .ok (.iload 4, 2) := by decide +kernel
theorem d_X0_lookedUp_51 : decode (bc mX0_lookedUp) 51 = .ok (.invokevirtual 153, 3) := by decide +kernel
theorem d_X0_lookedUp_54 : decode (bc mX0_lookedUp) 54 = .ok (.iload 4, 2) := by decide +kernel
theorem d_X0_lookedUp_56 : decode (bc mX0_lookedUp) 56 = .ok (.ireturn, 1) := by decide +kernel
theorem d_X0_reckon_0 : decode (bc mX0_reckon) 0 = .ok (.aload_n 0, 1) := by decide +kernel
theorem d_X0_reckon_1 : decode (bc mX0_reckon) 1 = .ok (.getfield 17, 3) := by decide +kernel
theorem d_X0_reckon_4 : decode (bc mX0_reckon) 4 = .ok (.iload_n 1, 1) := by decide +kernel
theorem d_X0_reckon_5 : decode (bc mX0_reckon) 5 = .ok (.aaload, 1) := by decide +kernel
theorem d_X0_reckon_6 : decode (bc mX0_reckon) 6 = .ok (.astore_n 3, 1) := by decide +kernel
theorem d_X0_reckon_7 : decode (bc mX0_reckon) 7 = .ok (.aload_n 3, 1) := by decide +kernel
theorem d_X0_reckon_8 : decode (bc mX0_reckon) 8 = .ok (.iload_n 1, 1) := by decide +kernel
theorem d_X0_reckon_9 : decode (bc mX0_reckon) 9 = .ok (.invokevirtual 157, 3) := by decide +kernel
theorem d_X0_reckon_12 : decode (bc mX0_reckon) 12 = .ok (.aload_n 0, 1) := by decide +kernel
theorem d_X0_reckon_13 : decode (bc mX0_reckon) 13 = .ok (.getfield 23, 3) := by decide +kernel
theorem d_X0_reckon_16 : decode (bc mX0_reckon) 16 = .ok (.iload_n 1, 1) := by decide +kernel
theorem d_X0_reckon_17 : decode (bc mX0_reckon) 17 = .ok (.aaload, 1) := by decide +kernel
theorem d_X0_reckon_18 : decode (bc mX0_reckon) 18 = .ok (.astore 4, 2) := by decide +kernel
theorem d_X0_reckon_20 : decode (bc mX0_reckon) 20 = .ok (.iconst 0, 1) := by decide +kernel
theorem d_X0_reckon_21 : decode (bc mX0_reckon) 21 = .ok (.istore 5, 2) := by decide +kernel
theorem d_X0_reckon_23 : decode (bc mX0_reckon) 23 = .ok (.iconst 0, 1) := by decide +kernel
theorem d_X0_reckon_24 : decode (bc mX0_reckon) 24 = .ok (.istore 6, 2) := by decide +kernel
theorem d_X0_reckon_26 : decode (bc mX0_reckon) 26 = .ok (.iconst 0, 1) := by decide +kernel
theorem d_X0_reckon_27 : decode (bc mX0_reckon) 27 = .ok (.istore 7, 2) := by decide +kernel
theorem d_X0_reckon_29 : decode (bc mX0_reckon) 29 = .ok (.iload 7, 2) := by decide +kernel
theorem d_X0_reckon_31 : decode (bc mX0_reckon) 31 = .ok (.aload_n 2, 1) := by decide +kernel
theorem d_X0_reckon_32 : decode (bc mX0_reckon) 32 = .ok (.getfield 159, 3) := by decide +kernel
theorem d_X0_reckon_35 : decode (bc mX0_reckon) 35 = .ok (.if_icmp .ge 202, 3) := by decide +kernel
theorem d_X0_reckon_38 : decode (bc mX0_reckon) 38 = .ok (.iload 6, 2) := by decide +kernel
theorem d_X0_reckon_40 : decode (bc mX0_reckon) 40 = .ok (.aload_n 2, 1) := by decide +kernel
theorem d_X0_reckon_41 : decode (bc mX0_reckon) 41 = .ok (.getfield 159, 3) := by decide +kernel
theorem d_X0_reckon_44 : decode (bc mX0_reckon) 44 = .ok (.if_icmp .ge 193, 3) := by decide +kernel
theorem d_X0_reckon_47 : decode (bc mX0_reckon) 47 = .ok (.aload_n 2, 1) := by decide +kernel
theorem d_X0_reckon_48 : decode (bc mX0_reckon) 48 = .ok (.getfield 164, 3) := by decide +kernel
theorem d_X0_reckon_51 : decode (bc mX0_reckon) 51 = .ok (.iload 6, 2) := by decide +kernel
theorem d_X0_reckon_53 : decode (bc mX0_reckon) 53 = .ok (.iaload, 1) := by decide +kernel
theorem d_X0_reckon_54 : decode (bc mX0_reckon) 54 = .ok (.istore 8, 2) := by decide +kernel
theorem d_X0_reckon_56 : decode (bc mX0_reckon) 56 = .ok (.aload_n 2, 1) := by decide +kernel
theorem d_X0_reckon_57 : decode (bc mX0_reckon) 57 = .ok (.getfield 167, 3) := by decide +kernel
theorem d_X0_reckon_60 : decode (bc mX0_reckon) 60 = .ok (.iload 6, 2) := by decide +kernel
theorem d_X0_reckon_62 : decode (bc mX0_reckon) 62 = .ok (.iaload, 1) := by decide +kernel
theorem d_X0_reckon_63 : decode (bc mX0_reckon) 63 = .ok (.istore 9, 2) := by decide +kernel
theorem d_X0_reckon_65 : decode (bc mX0_reckon) 65 = .ok (.iinc 6 1, 3) := by decide +kernel
theorem d_X0_reckon_68 : decode (bc mX0_reckon) 68 = .ok (.iload 8, 2) := by decide +kernel
theorem d_X0_reckon_70 : decode (bc mX0_reckon) 70 = .ok (.bipush 6, 2) := by decide +kernel
theorem d_X0_reckon_72 : decode (bc mX0_reckon) 72 = .ok (.if_icmp .ne 15, 3) := by decide +kernel
theorem d_X0_reckon_75 : decode (bc mX0_reckon) 75 = .ok (.iload 6, 2) := by decide +kernel
theorem d_X0_reckon_77 : decode (bc mX0_reckon) 77 = .ok (.iload 9, 2) := by decide +kernel
theorem d_X0_reckon_79 : decode (bc mX0_reckon) 79 = .ok (.invokestatic 170, 3) := by decide +kernel
theorem d_X0_reckon_82 : decode (bc mX0_reckon) 82 = .ok (.istore 6, 2) := by decide +kernel
theorem d_X0_reckon_84 : decode (bc mX0_reckon) 84 = .ok (.goto 147, 3) := by decide +kernel
theorem d_X0_reckon_87 : decode (bc mX0_reckon) 87 = .ok (.aload_n 3, 1) := by decide +kernel
theorem d_X0_reckon_88 : decode (bc mX0_reckon) 88 = .ok (.dup, 1) := by decide +kernel
theorem d_X0_reckon_89 : decode (bc mX0_reckon) 89 = .ok (.getfield 89, 3) := by decide +kernel
theorem d_X0_reckon_92 : decode (bc mX0_reckon) 92 = .ok (.iconst 1, 1) := by decide +kernel
theorem d_X0_reckon_93 : decode (bc mX0_reckon) 93 = .ok (.iadd, 1) := by decide +kernel
theorem d_X0_reckon_94 : decode (bc mX0_reckon) 94 = .ok (.putfield 89, 3) := by decide +kernel
theorem d_X0_reckon_97 : decode (bc mX0_reckon) 97 = .ok (.iload 8, 2) := by decide +kernel
theorem d_X0_reckon_99 : decode (bc mX0_reckon) 99 = .ok (.ifCond .eq 9, 3) := by decide +kernel
theorem d_X0_reckon_102 : decode (bc mX0_reckon) 102 = .ok (.iload 8, 2) := by decide +kernel
theorem d_X0_reckon_104 : decode (bc mX0_reckon) 104 = .ok (.iconst 1, 1) := by decide +kernel
theorem d_X0_reckon_105 : decode (bc mX0_reckon) 105 = .ok (.if_icmp .ne 53, 3) := by decide +kernel
theorem d_X0_reckon_108 : decode (bc mX0_reckon) 108 = .ok (.iload 8, 2) := by decide +kernel
theorem d_X0_reckon_110 : decode (bc mX0_reckon) 110 = .ok (.ifCond .ne 13, 3) := by decide +kernel
theorem d_X0_reckon_113 : decode (bc mX0_reckon) 113 = .ok (.aload_n 0, 1) := by decide +kernel
theorem d_X0_reckon_114 : decode (bc mX0_reckon) 114 = .ok (.iload 9, 2) := by decide +kernel
theorem d_X0_reckon_116 : decode (bc mX0_reckon) 116 = .ok (.aload_n 3, 1) := by decide +kernel
theorem d_X0_reckon_117 : decode (bc mX0_reckon) 117 = .ok (.invokevirtual 175, 3) := by decide +kernel
theorem d_X0_reckon_120 : decode (bc mX0_reckon) 120 = .ok (.goto 5, 3) := by decide +kernel
theorem d_X0_reckon_123 : decode (bc mX0_reckon) 123 = .ok (.iload 9, 2) := by decide +kernel
theorem d_X0_reckon_125 : decode (bc mX0_reckon) 125 = .ok (.istore 10, 2) := by decide +kernel
theorem d_X0_reckon_127 : decode (bc mX0_reckon) 127 = .ok (.iload 10, 2) := by decide +kernel
theorem d_X0_reckon_129 : decode (bc mX0_reckon) 129 = .ok (.bipush 100, 2) := by decide +kernel
theorem d_X0_reckon_131 : decode (bc mX0_reckon) 131 = .ok (.if_icmp .eq 11, 3) := by decide +kernel
theorem d_X0_reckon_134 : decode (bc mX0_reckon) 134 = .ok (.iload 5, 2) := by decide +kernel
theorem d_X0_reckon_136 : decode (bc mX0_reckon) 136 = .ok (.aload 4, 2) := by decide +kernel
theorem d_X0_reckon_138 : decode (bc mX0_reckon) 138 = .ok (.arraylength, 1) := by decide +kernel
theorem d_X0_reckon_139 : decode (bc mX0_reckon) 139 = .ok (.if_icmp .lt 6, 3) := by decide +kernel
theorem d_X0_reckon_142 : decode (bc mX0_reckon) 142 = .ok (.bipush 100, 2) := by decide +kernel
theorem d_X0_reckon_144 : decode (bc mX0_reckon) 144 = .ok (.ireturn, 1) := by decide +kernel
theorem d_X0_reckon_145 : decode (bc mX0_reckon) 145 = .ok (.aload 4, 2) := by decide +kernel
theorem d_X0_reckon_147 : decode (bc mX0_reckon) 147 = .ok (.iload 5, 2) := by decide +kernel
theorem d_X0_reckon_149 : decode (bc mX0_reckon) 149 = .ok (.iload 10, 2) := by decide +kernel
theorem d_X0_reckon_151 : decode (bc mX0_reckon) 151 = .ok (.iastore, 1) := by decide +kernel
theorem d_X0_reckon_152 : decode (bc mX0_reckon) 152 = .ok (.iinc 5 1, 3) := by decide +kernel
theorem d_X0_reckon_155 : decode (bc mX0_reckon) 155 = .ok (.goto 76, 3) := by decide +kernel
theorem d_X0_reckon_158 : decode (bc mX0_reckon) 158 = .ok (.iload 8, 2) := by decide +kernel
theorem d_X0_reckon_160 : decode (bc mX0_reckon) 160 = .ok (.iconst 5, 1) := by decide +kernel
theorem d_X0_reckon_161 : decode (bc mX0_reckon) 161 = .ok (.if_icmp .ne 37, 3) := by decide +kernel
theorem d_X0_reckon_164 : decode (bc mX0_reckon) 164 = .ok (.iload 5, 2) := by decide +kernel
theorem d_X0_reckon_166 : decode (bc mX0_reckon) 166 = .ok (.iconst 1, 1) := by decide +kernel
theorem d_X0_reckon_167 : decode (bc mX0_reckon) 167 = .ok (.if_icmp .lt 31, 3) := by decide +kernel
theorem d_X0_reckon_170 : decode (bc mX0_reckon) 170 = .ok (.iinc 5 (-1), 3) := by decide +kernel
theorem d_X0_reckon_173 : decode (bc mX0_reckon) 173 = .ok (.aload 4, 2) := by decide +kernel
theorem d_X0_reckon_175 : decode (bc mX0_reckon) 175 = .ok (.iload 5, 2) := by decide +kernel
theorem d_X0_reckon_177 : decode (bc mX0_reckon) 177 = .ok (.iaload, 1) := by decide +kernel
theorem d_X0_reckon_178 : decode (bc mX0_reckon) 178 = .ok (.ifCond .ne 13, 3) := by decide +kernel
theorem d_X0_reckon_181 : decode (bc mX0_reckon) 181 = .ok (.iload 6, 2) := by decide +kernel
theorem d_X0_reckon_183 : decode (bc mX0_reckon) 183 = .ok (.iload 9, 2) := by decide +kernel
theorem d_X0_reckon_185 : decode (bc mX0_reckon) 185 = .ok (.invokestatic 170, 3) := by decide +kernel
theorem d_X0_reckon_188 : decode (bc mX0_reckon) 188 = .ok (.goto 5, 3) := by decide +kernel
theorem d_X0_reckon_191 : decode (bc mX0_reckon) 191 = .ok (.iload 6, 2) := by decide +kernel
theorem d_X0_reckon_193 : decode (bc mX0_reckon) 193 = .ok (.istore 6, 2) := by decide +kernel
theorem d_X0_reckon_195 : decode (bc mX0_reckon) 195 = .ok (.goto 36, 3) := by decide +kernel
theorem d_X0_reckon_198 : decode (bc mX0_reckon) 198 = .ok (.iload 5, 2) := by decide +kernel
theorem d_X0_reckon_200 : decode (bc mX0_reckon) 200 = .ok (.iconst 2, 1) := by decide +kernel
theorem d_X0_reckon_201 : decode (bc mX0_reckon) 201 = .ok (.if_icmp .lt 30, 3) := by decide +kernel
theorem d_X0_reckon_204 : decode (bc mX0_reckon) 204 = .ok (.iinc 5 (-1), 3) := by decide +kernel
theorem d_X0_reckon_207 : decode (bc mX0_reckon) 207 = .ok (.aload 4, 2) := by decide +kernel
theorem d_X0_reckon_209 : decode (bc mX0_reckon) 209 = .ok (.iload 5, 2) := by decide +kernel
theorem d_X0_reckon_211 : decode (bc mX0_reckon) 211 = .ok (.iconst 1, 1) := by decide +kernel
theorem d_X0_reckon_212 : decode (bc mX0_reckon) 212 = .ok (.isub, 1) := by decide +kernel
theorem d_X0_reckon_213 : decode (bc mX0_reckon) 213 = .ok (.iload 8, 2) := by decide +kernel
theorem d_X0_reckon_215 : decode (bc mX0_reckon) 215 = .ok (.aload 4, 2) := by decide +kernel
theorem d_X0_reckon_217 : decode (bc mX0_reckon) 217 = .ok (.iload 5, 2) := by decide +kernel
theorem d_X0_reckon_219 : decode (bc mX0_reckon) 219 = .ok (.iconst 1, 1) := by decide +kernel
theorem d_X0_reckon_220 : decode (bc mX0_reckon) 220 = .ok (.isub, 1) := by decide +kernel
theorem d_X0_reckon_221 : decode (bc mX0_reckon) 221 = .ok (.iaload, 1) := by decide +kernel
theorem d_X0_reckon_222 : decode (bc mX0_reckon) 222 = .ok (.aload 4, 2) := by decide +kernel
theorem d_X0_reckon_224 : decode (bc mX0_reckon) 224 = .ok (.iload 5, 2) := by decide +kernel
theorem d_X0_reckon_226 : decode (bc mX0_reckon) 226 = .ok (.iaload, 1) := by decide +kernel
theorem d_X0_reckon_227 : decode (bc mX0_reckon) 227 = .ok (.invokestatic 179, 3) := by decide +kernel
theorem d_X0_reckon_230 : decode (bc mX0_reckon) 230 = .ok (.iastore, 1) := by decide +kernel
theorem d_X0_reckon_231 : decode (bc mX0_reckon) 231 = .ok (.iinc 7 1, 3) := by decide +kernel
theorem d_X0_reckon_234 : decode (bc mX0_reckon) 234 = .ok (.goto (-205), 3) := by decide +kernel
theorem d_X0_reckon_237 : decode (bc mX0_reckon) 237 = .ok (.iload 5, 2) := by decide +kernel
theorem d_X0_reckon_239 : decode (bc mX0_reckon) 239 = .ok (.iconst 1, 1) := by decide +kernel
theorem d_X0_reckon_240 : decode (bc mX0_reckon) 240 = .ok (.if_icmp .lt 13, 3) := by decide +kernel
theorem d_X0_reckon_243 : decode (bc mX0_reckon) 243 = .ok (.aload 4, 2) := by decide +kernel
theorem d_X0_reckon_245 : decode (bc mX0_reckon) 245 = .ok (.iload 5, 2) := by decide +kernel
theorem d_X0_reckon_247 : decode (bc mX0_reckon) 247 = .ok (.iconst 1, 1) := by decide +kernel
theorem d_X0_reckon_248 : decode (bc mX0_reckon) 248 = .ok (.isub, 1) := by decide +kernel
theorem d_X0_reckon_249 : decode (bc mX0_reckon) 249 = .ok (.iaload, 1) := by decide +kernel
theorem d_X0_reckon_250 : decode (bc mX0_reckon) 250 = .ok (.goto 5, 3) := by decide +kernel
theorem d_X0_reckon_253 : decode (bc mX0_reckon) 253 = .ok (.bipush 100, 2) := by decide +kernel
theorem d_X0_reckon_255 : decode (bc mX0_reckon) 255 = .ok (.ireturn, 1) := by decide +kernel
theorem d_X0_joined_0 : decode (bc mX0_joined) 0 = .ok (.iload_n 0, 1) := by decide +kernel
theorem d_X0_joined_1 : decode (bc mX0_joined) 1 = .ok (.lookupswitch 44 #[(2, 27), (3, 34)], 27) := by decide +kernel
theorem d_X0_joined_28 : decode (bc mX0_joined) 28 = .ok (.iload_n 1, 1) := by decide +kernel
theorem d_X0_joined_29 : decode (bc mX0_joined) 29 = .ok (.iload_n 2, 1) := by decide +kernel
theorem d_X0_joined_30 : decode (bc mX0_joined) 30 = .ok (.iadd, 1) := by decide +kernel
theorem d_X0_joined_31 : decode (bc mX0_joined) 31 = .ok (.bipush 100, 2) := by decide +kernel
theorem d_X0_joined_33 : decode (bc mX0_joined) 33 = .ok (.irem, 1) := by decide +kernel
theorem d_X0_joined_34 : decode (bc mX0_joined) 34 = .ok (.ireturn, 1) := by decide +kernel
theorem d_X0_joined_35 : decode (bc mX0_joined) 35 = .ok (.iload_n 1, 1) := by decide +kernel
theorem d_X0_joined_36 : decode (bc mX0_joined) 36 = .ok (.iload_n 2, 1) := by decide +kernel
theorem d_X0_joined_37 : decode (bc mX0_joined) 37 = .ok (.isub, 1) := by decide +kernel
theorem d_X0_joined_38 : decode (bc mX0_joined) 38 = .ok (.bipush 100, 2) := by decide +kernel
theorem d_X0_joined_40 : decode (bc mX0_joined) 40 = .ok (.iadd, 1) := by decide +kernel
theorem d_X0_joined_41 : decode (bc mX0_joined) 41 = .ok (.bipush 100, 2) := by decide +kernel
theorem d_X0_joined_43 : decode (bc mX0_joined) 43 = .ok (.irem, 1) := by decide +kernel
theorem d_X0_joined_44 : decode (bc mX0_joined) 44 = .ok (.ireturn, 1) := by decide +kernel
theorem d_X0_joined_45 : decode (bc mX0_joined) 45 = .ok (.iload_n 1, 1) := by decide +kernel
theorem d_X0_joined_46 : decode (bc mX0_joined) 46 = .ok (.iload_n 2, 1) := by decide +kernel
theorem d_X0_joined_47 : decode (bc mX0_joined) 47 = .ok (.imul, 1) := by decide +kernel
theorem d_X0_joined_48 : decode (bc mX0_joined) 48 = .ok (.bipush 100, 2) := by decide +kernel
theorem d_X0_joined_50 : decode (bc mX0_joined) 50 = .ok (.irem, 1) := by decide +kernel
theorem d_X0_joined_51 : decode (bc mX0_joined) 51 = .ok (.ireturn, 1) := by decide +kernel
theorem d_X1_init_0 : decode (bc mX1_init) 0 = .ok (.aload_n 0, 1) := by decide +kernel
theorem d_X1_init_1 : decode (bc mX1_init) 1 = .ok (.invokespecial 3, 3) := by decide +kernel
theorem d_X1_init_4 : decode (bc mX1_init) 4 = .ok (.aload_n 0, 1) := by decide +kernel
theorem d_X1_init_5 : decode (bc mX1_init) 5 = .ok (.bipush 18, 2) := by decide +kernel
theorem d_X1_init_7 : decode (bc mX1_init) 7 = .ok (.newarray .int, 2) := by decide +kernel
theorem d_X1_init_9 : decode (bc mX1_init) 9 = .ok (.putfield 9, 3) := by decide +kernel
theorem d_X1_init_12 : decode (bc mX1_init) 12 = .ok (.aload_n 0, 1) := by decide +kernel
theorem d_X1_init_13 : decode (bc mX1_init) 13 = .ok (.bipush 18, 2) := by decide +kernel
theorem d_X1_init_15 : decode (bc mX1_init) 15 = .ok (.newarray .int, 2) := by decide +kernel
theorem d_X1_init_17 : decode (bc mX1_init) 17 = .ok (.putfield 15, 3) := by decide +kernel
theorem d_X1_init_20 : decode (bc mX1_init) 20 = .ok (.return_, 1) := by decide +kernel
theorem d_X1_begin_0 : decode (bc mX1_begin) 0 = .ok (.aload_n 0, 1) := by decide +kernel
theorem d_X1_begin_1 : decode (bc mX1_begin) 1 = .ok (.iload_n 1, 1) := by decide +kernel
theorem d_X1_begin_2 : decode (bc mX1_begin) 2 = .ok (.putfield 18, 3) := by decide +kernel
theorem d_X1_begin_5 : decode (bc mX1_begin) 5 = .ok (.aload_n 0, 1) := by decide +kernel
theorem d_X1_begin_6 : decode (bc mX1_begin) 6 = .ok (.bipush 100, 2) := by decide +kernel
theorem d_X1_begin_8 : decode (bc mX1_begin) 8 = .ok (.putfield 22, 3) := by decide +kernel
theorem d_X1_begin_11 : decode (bc mX1_begin) 11 = .ok (.aload_n 0, 1) := by decide +kernel
theorem d_X1_begin_12 : decode (bc mX1_begin) 12 = .ok (.iconst 0, 1) := by decide +kernel
theorem d_X1_begin_13 : decode (bc mX1_begin) 13 = .ok (.putfield 25, 3) := by decide +kernel
theorem d_X1_begin_16 : decode (bc mX1_begin) 16 = .ok (.aload_n 0, 1) := by decide +kernel
theorem d_X1_begin_17 : decode (bc mX1_begin) 17 = .ok (.iconst 0, 1) := by decide +kernel
theorem d_X1_begin_18 : decode (bc mX1_begin) 18 = .ok (.putfield 28, 3) := by decide +kernel
theorem d_X1_begin_21 : decode (bc mX1_begin) 21 = .ok (.aload_n 0, 1) := by decide +kernel
theorem d_X1_begin_22 : decode (bc mX1_begin) 22 = .ok (.iconst 0, 1) := by decide +kernel
theorem d_X1_begin_23 : decode (bc mX1_begin) 23 = .ok (.putfield 31, 3) := by decide +kernel
theorem d_X1_begin_26 : decode (bc mX1_begin) 26 = .ok (.aload_n 0, 1) := by decide +kernel
theorem d_X1_begin_27 : decode (bc mX1_begin) 27 = .ok (.iconst 0, 1) := by decide +kernel
theorem d_X1_begin_28 : decode (bc mX1_begin) 28 = .ok (.putfield 34, 3) := by decide +kernel
theorem d_X1_begin_31 : decode (bc mX1_begin) 31 = .ok (.return_, 1) := by decide +kernel
theorem d_X1_addLook_0 : decode (bc mX1_addLook) 0 = .ok (.aload_n 0, 1) := by decide +kernel
theorem d_X1_addLook_1 : decode (bc mX1_addLook) 1 = .ok (.getfield 34, 3) := by decide +kernel
theorem d_X1_addLook_4 : decode (bc mX1_addLook) 4 = .ok (.bipush 18, 2) := by decide +kernel
theorem d_X1_addLook_6 : decode (bc mX1_addLook) 6 = .ok (.if_icmp .ge 33, 3) := by decide +kernel
theorem d_X1_addLook_9 : decode (bc mX1_addLook) 9 = .ok (.aload_n 0, 1) := by decide +kernel
theorem d_X1_addLook_10 : decode (bc mX1_addLook) 10 = .ok (.getfield 9, 3) := by decide +kernel
theorem d_X1_addLook_13 : decode (bc mX1_addLook) 13 = .ok (.aload_n 0, 1) := by decide +kernel
theorem d_X1_addLook_14 : decode (bc mX1_addLook) 14 = .ok (.getfield 34, 3) := by decide +kernel
theorem d_X1_addLook_17 : decode (bc mX1_addLook) 17 = .ok (.iload_n 1, 1) := by decide +kernel
theorem d_X1_addLook_18 : decode (bc mX1_addLook) 18 = .ok (.iastore, 1) := by decide +kernel
theorem d_X1_addLook_19 : decode (bc mX1_addLook) 19 = .ok (.aload_n 0, 1) := by decide +kernel
theorem d_X1_addLook_20 : decode (bc mX1_addLook) 20 = .ok (.getfield 15, 3) := by decide +kernel
theorem d_X1_addLook_23 : decode (bc mX1_addLook) 23 = .ok (.aload_n 0, 1) := by decide +kernel
theorem d_X1_addLook_24 : decode (bc mX1_addLook) 24 = .ok (.getfield 34, 3) := by decide +kernel
theorem d_X1_addLook_27 : decode (bc mX1_addLook) 27 = .ok (.iload_n 2, 1) := by decide +kernel
theorem d_X1_addLook_28 : decode (bc mX1_addLook) 28 = .ok (.iastore, 1) := by decide +kernel
theorem d_X1_addLook_29 : decode (bc mX1_addLook) 29 = .ok (.aload_n 0, 1) := by decide +kernel
theorem d_X1_addLook_30 : decode (bc mX1_addLook) 30 = .ok (.dup, 1) := by decide +kernel
theorem d_X1_addLook_31 : decode (bc mX1_addLook) 31 = .ok (.getfield 34, 3) := by decide +kernel
theorem d_X1_addLook_34 : decode (bc mX1_addLook) 34 = .ok (.iconst 1, 1) := by decide +kernel
theorem d_X1_addLook_35 : decode (bc mX1_addLook) 35 = .ok (.iadd, 1) := by decide +kernel
theorem d_X1_addLook_36 : decode (bc mX1_addLook) 36 = .ok (.putfield 34, 3) := by decide +kernel
theorem d_X1_addLook_39 : decode (bc mX1_addLook) 39 = .ok (.return_, 1) := by decide +kernel
theorem d_X1_placeOfLook_0 : decode (bc mX1_placeOfLook) 0 = .ok (.iconst 0, 1) := by decide +kernel
theorem d_X1_placeOfLook_1 : decode (bc mX1_placeOfLook) 1 = .ok (.istore_n 2, 1) := by decide +kernel
theorem d_X1_placeOfLook_2 : decode (bc mX1_placeOfLook) 2 = .ok (.iload_n 2, 1) := by decide +kernel
theorem d_X1_placeOfLook_3 : decode (bc mX1_placeOfLook) 3 = .ok (.aload_n 0, 1) := by decide +kernel
theorem d_X1_placeOfLook_4 : decode (bc mX1_placeOfLook) 4 = .ok (.getfield 34, 3) := by decide +kernel
theorem d_X1_placeOfLook_7 : decode (bc mX1_placeOfLook) 7 = .ok (.if_icmp .ge 21, 3) := by decide +kernel
theorem d_X1_placeOfLook_10 : decode (bc mX1_placeOfLook) 10 = .ok (.aload_n 0, 1) := by decide +kernel
theorem d_X1_placeOfLook_11 : decode (bc mX1_placeOfLook) 11 = .ok (.getfield 9, 3) := by decide +kernel
theorem d_X1_placeOfLook_14 : decode (bc mX1_placeOfLook) 14 = .ok (.iload_n 2, 1) := by decide +kernel
theorem d_X1_placeOfLook_15 : decode (bc mX1_placeOfLook) 15 = .ok (.iaload, 1) := by decide +kernel
theorem d_X1_placeOfLook_16 : decode (bc mX1_placeOfLook) 16 = .ok (.iload_n 1, 1) := by decide +kernel
theorem d_X1_placeOfLook_17 : decode (bc mX1_placeOfLook) 17 = .ok (.if_icmp .ne 5, 3) := by decide +kernel
theorem d_X1_placeOfLook_20 : decode (bc mX1_placeOfLook) 20 = .ok (.iload_n 2, 1) := by decide +kernel
theorem d_X1_placeOfLook_21 : decode (bc mX1_placeOfLook) 21 = .ok (.ireturn, 1) := by decide +kernel
theorem d_X1_placeOfLook_22 : decode (bc mX1_placeOfLook) 22 = .ok (.iinc 2 1, 3) := by decide +kernel
theorem d_X1_placeOfLook_25 : decode (bc mX1_placeOfLook) 25 = .ok (.goto (-23), 3) := by decide +kernel
theorem d_X1_placeOfLook_28 : decode (bc mX1_placeOfLook) 28 = .ok (.iconst (-1), 1) := by decide +kernel
theorem d_X1_placeOfLook_29 : decode (bc mX1_placeOfLook) 29 = .ok (.ireturn, 1) := by decide +kernel
theorem d_X1_copyFrom_0 : decode (bc mX1_copyFrom) 0 = .ok (.aload_n 0, 1) := by decide +kernel
theorem d_X1_copyFrom_1 : decode (bc mX1_copyFrom) 1 = .ok (.aload_n 1, 1) := by decide +kernel
theorem d_X1_copyFrom_2 : decode (bc mX1_copyFrom) 2 = .ok (.getfield 18, 3) := by decide +kernel
theorem d_X1_copyFrom_5 : decode (bc mX1_copyFrom) 5 = .ok (.putfield 18, 3) := by decide +kernel
theorem d_X1_copyFrom_8 : decode (bc mX1_copyFrom) 8 = .ok (.aload_n 0, 1) := by decide +kernel
theorem d_X1_copyFrom_9 : decode (bc mX1_copyFrom) 9 = .ok (.aload_n 1, 1) := by decide +kernel
theorem d_X1_copyFrom_10 : decode (bc mX1_copyFrom) 10 = .ok (.getfield 22, 3) := by decide +kernel
theorem d_X1_copyFrom_13 : decode (bc mX1_copyFrom) 13 = .ok (.putfield 22, 3) := by decide +kernel
theorem d_X1_copyFrom_16 : decode (bc mX1_copyFrom) 16 = .ok (.aload_n 0, 1) := by decide +kernel
theorem d_X1_copyFrom_17 : decode (bc mX1_copyFrom) 17 = .ok (.aload_n 1, 1) := by decide +kernel
theorem d_X1_copyFrom_18 : decode (bc mX1_copyFrom) 18 = .ok (.getfield 25, 3) := by decide +kernel
theorem d_X1_copyFrom_21 : decode (bc mX1_copyFrom) 21 = .ok (.putfield 25, 3) := by decide +kernel
theorem d_X1_copyFrom_24 : decode (bc mX1_copyFrom) 24 = .ok (.aload_n 0, 1) := by decide +kernel
theorem d_X1_copyFrom_25 : decode (bc mX1_copyFrom) 25 = .ok (.aload_n 1, 1) := by decide +kernel
theorem d_X1_copyFrom_26 : decode (bc mX1_copyFrom) 26 = .ok (.getfield 28, 3) := by decide +kernel
theorem d_X1_copyFrom_29 : decode (bc mX1_copyFrom) 29 = .ok (.putfield 28, 3) := by decide +kernel
theorem d_X1_copyFrom_32 : decode (bc mX1_copyFrom) 32 = .ok (.aload_n 0, 1) := by decide +kernel
theorem d_X1_copyFrom_33 : decode (bc mX1_copyFrom) 33 = .ok (.aload_n 1, 1) := by decide +kernel
theorem d_X1_copyFrom_34 : decode (bc mX1_copyFrom) 34 = .ok (.getfield 31, 3) := by decide +kernel
theorem d_X1_copyFrom_37 : decode (bc mX1_copyFrom) 37 = .ok (.putfield 31, 3) := by decide +kernel
theorem d_X1_copyFrom_40 : decode (bc mX1_copyFrom) 40 = .ok (.aload_n 0, 1) := by decide +kernel
theorem d_X1_copyFrom_41 : decode (bc mX1_copyFrom) 41 = .ok (.aload_n 1, 1) := by decide +kernel
theorem d_X1_copyFrom_42 : decode (bc mX1_copyFrom) 42 = .ok (.getfield 34, 3) := by decide +kernel
theorem d_X1_copyFrom_45 : decode (bc mX1_copyFrom) 45 = .ok (.putfield 34, 3) := by decide +kernel
theorem d_X1_copyFrom_48 : decode (bc mX1_copyFrom) 48 = .ok (.aload_n 1, 1) := by decide +kernel
theorem d_X1_copyFrom_49 : decode (bc mX1_copyFrom) 49 = .ok (.getfield 9, 3) := by decide +kernel
theorem d_X1_copyFrom_52 : decode (bc mX1_copyFrom) 52 = .ok (.iconst 0, 1) := by decide +kernel
theorem d_X1_copyFrom_53 : decode (bc mX1_copyFrom) 53 = .ok (.aload_n 0, 1) := by decide +kernel
theorem d_X1_copyFrom_54 : decode (bc mX1_copyFrom) 54 = .ok (.getfield 9, 3) := by decide +kernel
theorem d_X1_copyFrom_57 : decode (bc mX1_copyFrom) 57 = .ok (.iconst 0, 1) := by decide +kernel
theorem d_X1_copyFrom_58 : decode (bc mX1_copyFrom) 58 = .ok (.aload_n 0, 1) := by decide +kernel
theorem d_X1_copyFrom_59 : decode (bc mX1_copyFrom) 59 = .ok (.getfield 34, 3) := by decide +kernel
theorem d_X1_copyFrom_62 : decode (bc mX1_copyFrom) 62 = .ok (.invokestatic 37, 3) := by decide +kernel
theorem d_X1_copyFrom_65 : decode (bc mX1_copyFrom) 65 = .ok (.aload_n 1, 1) := by decide +kernel
theorem d_X1_copyFrom_66 : decode (bc mX1_copyFrom) 66 = .ok (.getfield 15, 3) := by decide +kernel
theorem d_X1_copyFrom_69 : decode (bc mX1_copyFrom) 69 = .ok (.iconst 0, 1) := by decide +kernel
theorem d_X1_copyFrom_70 : decode (bc mX1_copyFrom) 70 = .ok (.aload_n 0, 1) := by decide +kernel
theorem d_X1_copyFrom_71 : decode (bc mX1_copyFrom) 71 = .ok (.getfield 15, 3) := by decide +kernel
theorem d_X1_copyFrom_74 : decode (bc mX1_copyFrom) 74 = .ok (.iconst 0, 1) := by decide +kernel
theorem d_X1_copyFrom_75 : decode (bc mX1_copyFrom) 75 = .ok (.aload_n 0, 1) := by decide +kernel
theorem d_X1_copyFrom_76 : decode (bc mX1_copyFrom) 76 = .ok (.getfield 34, 3) := by decide +kernel
theorem d_X1_copyFrom_79 : decode (bc mX1_copyFrom) 79 = .ok (.invokestatic 37, 3) := by decide +kernel
theorem d_X1_copyFrom_82 : decode (bc mX1_copyFrom) 82 = .ok (.return_, 1) := by decide +kernel
theorem d_X2_init_0 : decode (bc mX2_init) 0 = .ok (.aload_n 0, 1) := by decide +kernel
theorem d_X2_init_1 : decode (bc mX2_init) 1 = .ok (.invokespecial 3, 3) := by decide +kernel
theorem d_X2_init_4 : decode (bc mX2_init) 4 = .ok (.aload_n 0, 1) := by decide +kernel
theorem d_X2_init_5 : decode (bc mX2_init) 5 = .ok (.bipush 60, 2) := by decide +kernel
theorem d_X2_init_7 : decode (bc mX2_init) 7 = .ok (.newarray .int, 2) := by decide +kernel
theorem d_X2_init_9 : decode (bc mX2_init) 9 = .ok (.putfield 9, 3) := by decide +kernel
theorem d_X2_init_12 : decode (bc mX2_init) 12 = .ok (.aload_n 0, 1) := by decide +kernel
theorem d_X2_init_13 : decode (bc mX2_init) 13 = .ok (.bipush 60, 2) := by decide +kernel
theorem d_X2_init_15 : decode (bc mX2_init) 15 = .ok (.newarray .int, 2) := by decide +kernel
theorem d_X2_init_17 : decode (bc mX2_init) 17 = .ok (.putfield 15, 3) := by decide +kernel
theorem d_X2_init_20 : decode (bc mX2_init) 20 = .ok (.aload_n 0, 1) := by decide +kernel
theorem d_X2_init_21 : decode (bc mX2_init) 21 = .ok (.bipush 60, 2) := by decide +kernel
theorem d_X2_init_23 : decode (bc mX2_init) 23 = .ok (.newarray .int, 2) := by decide +kernel
theorem d_X2_init_25 : decode (bc mX2_init) 25 = .ok (.putfield 18, 3) := by decide +kernel
theorem d_X2_init_28 : decode (bc mX2_init) 28 = .ok (.aload_n 0, 1) := by decide +kernel
theorem d_X2_init_29 : decode (bc mX2_init) 29 = .ok (.bipush 60, 2) := by decide +kernel
theorem d_X2_init_31 : decode (bc mX2_init) 31 = .ok (.newarray .int, 2) := by decide +kernel
theorem d_X2_init_33 : decode (bc mX2_init) 33 = .ok (.putfield 21, 3) := by decide +kernel
theorem d_X2_init_36 : decode (bc mX2_init) 36 = .ok (.return_, 1) := by decide +kernel
theorem d_X2_firstFault_0 : decode (bc mX2_firstFault) 0 = .ok (.aload_n 0, 1) := by decide +kernel
theorem d_X2_firstFault_1 : decode (bc mX2_firstFault) 1 = .ok (.invokevirtual 24, 3) := by decide +kernel
theorem d_X2_firstFault_4 : decode (bc mX2_firstFault) 4 = .ok (.iconst 0, 1) := by decide +kernel
theorem d_X2_firstFault_5 : decode (bc mX2_firstFault) 5 = .ok (.istore_n 3, 1) := by decide +kernel
theorem d_X2_firstFault_6 : decode (bc mX2_firstFault) 6 = .ok (.iload_n 3, 1) := by decide +kernel
theorem d_X2_firstFault_7 : decode (bc mX2_firstFault) 7 = .ok (.iload_n 2, 1) := by decide +kernel
theorem d_X2_firstFault_8 : decode (bc mX2_firstFault) 8 = .ok (.if_icmp .ge 27, 3) := by decide +kernel
theorem d_X2_firstFault_11 : decode (bc mX2_firstFault) 11 = .ok (.iload_n 3, 1) := by decide +kernel
theorem d_X2_firstFault_12 : decode (bc mX2_firstFault) 12 = .ok (.aload_n 1, 1) := by decide +kernel
theorem d_X2_firstFault_13 : decode (bc mX2_firstFault) 13 = .ok (.arraylength, 1) := by decide +kernel
theorem d_X2_firstFault_14 : decode (bc mX2_firstFault) 14 = .ok (.if_icmp .ge 21, 3) := by decide +kernel
theorem d_X2_firstFault_17 : decode (bc mX2_firstFault) 17 = .ok (.aload_n 0, 1) := by decide +kernel
theorem d_X2_firstFault_18 : decode (bc mX2_firstFault) 18 = .ok (.aload_n 1, 1) := by decide +kernel
theorem d_X2_firstFault_19 : decode (bc mX2_firstFault) 19 = .ok (.iload_n 3, 1) := by decide +kernel
theorem d_X2_firstFault_20 : decode (bc mX2_firstFault) 20 = .ok (.iaload, 1) := by decide +kernel
theorem d_X2_firstFault_21 : decode (bc mX2_firstFault) 21 = .ok (.invokevirtual 27, 3) := by decide +kernel
theorem d_X2_firstFault_24 : decode (bc mX2_firstFault) 24 = .ok (.ifCond .ne 5, 3) := by decide +kernel
theorem d_X2_firstFault_27 : decode (bc mX2_firstFault) 27 = .ok (.iload_n 3, 1) := by decide +kernel
theorem d_X2_firstFault_28 : decode (bc mX2_firstFault) 28 = .ok (.ireturn, 1) := by decide +kernel
theorem d_X2_firstFault_29 : decode (bc mX2_firstFault) 29 = .ok (.iinc 3 1, 3) := by decide +kernel
theorem d_X2_firstFault_32 : decode (bc mX2_firstFault) 32 = .ok (.goto (-26), 3) := by decide +kernel
theorem d_X2_firstFault_35 : decode (bc mX2_firstFault) 35 = .ok (.aload_n 0, 1) := by decide +kernel
theorem d_X2_firstFault_36 : decode (bc mX2_firstFault) 36 = .ok (.getfield 31, 3) := by decide +kernel
theorem d_X2_firstFault_39 : decode (bc mX2_firstFault) 39 = .ok (.iconst 3, 1) := by decide +kernel
theorem d_X2_firstFault_40 : decode (bc mX2_firstFault) 40 = .ok (.if_icmp .eq 11, 3) := by decide +kernel
theorem d_X2_firstFault_43 : decode (bc mX2_firstFault) 43 = .ok (.aload_n 0, 1) := by decide +kernel
theorem d_X2_firstFault_44 : decode (bc mX2_firstFault) 44 = .ok (.getfield 31, 3) := by decide +kernel
theorem d_X2_firstFault_47 : decode (bc mX2_firstFault) 47 = .ok (.iconst 2, 1) := by decide +kernel
theorem d_X2_firstFault_48 : decode (bc mX2_firstFault) 48 = .ok (.if_icmp .ne 7, 3) := by decide +kernel
theorem d_X2_firstFault_51 : decode (bc mX2_firstFault) 51 = .ok (.iconst 1, 1) := by decide +kernel
theorem d_X2_firstFault_52 : decode (bc mX2_firstFault) 52 = .ok (.goto 4, 3) := by decide +kernel
theorem d_X2_firstFault_55 : decode (bc mX2_firstFault) 55 = .ok (.iconst 0, 1) := by decide +kernel
theorem d_X2_firstFault_56 : decode (bc mX2_firstFault) 56 = .ok (.istore_n 3, 1) := by decide +kernel
theorem d_X2_firstFault_57 : decode (bc mX2_firstFault) 57 = .ok (.iload_n 3, 1) := by decide +kernel
theorem d_X2_firstFault_58 : decode (bc mX2_firstFault) 58 = .ok (.ifCond .eq 15, 3) := by decide +kernel
theorem d_X2_firstFault_61 : decode (bc mX2_firstFault) 61 = .ok (.aload_n 0, 1) := by decide +kernel
theorem d_X2_firstFault_62 : decode (bc mX2_firstFault) 62 = .ok (.getfield 35, 3) := by decide +kernel
theorem d_X2_firstFault_65 : decode (bc mX2_firstFault) 65 = .ok (.ifCond .ne 8, 3) := by decide +kernel
theorem d_X2_firstFault_68 : decode (bc mX2_firstFault) 68 = .ok (.bipush (-6), 2) := by decide +kernel
theorem d_X2_firstFault_70 : decode (bc mX2_firstFault) 70 = .ok (.goto 4, 3) := by decide +kernel
theorem d_X2_firstFault_73 : decode (bc mX2_firstFault) 73 = .ok (.iload_n 2, 1) := by decide +kernel
theorem d_X2_firstFault_74 : decode (bc mX2_firstFault) 74 = .ok (.ireturn, 1) := by decide +kernel
theorem d_X2_recipeRead_0 : decode (bc mX2_recipeRead) 0 = .ok (.new 38, 3) := by decide +kernel
theorem d_X2_recipeRead_3 : decode (bc mX2_recipeRead) 3 = .ok (.dup, 1) := by decide +kernel
theorem d_X2_recipeRead_4 : decode (bc mX2_recipeRead) 4 = .ok (.aload_n 0, 1) := by decide +kernel
theorem d_X2_recipeRead_5 : decode (bc mX2_recipeRead) 5 = .ok (.invokespecial 40, 3) := by decide +kernel
theorem d_X2_recipeRead_8 : decode (bc mX2_recipeRead) 8 = .ok (.areturn, 1) := by decide +kernel
theorem d_X2_begin_0 : decode (bc mX2_begin) 0 = .ok (.aload_n 0, 1) := by decide +kernel
theorem d_X2_begin_1 : decode (bc mX2_begin) 1 = .ok (.iconst 0, 1) := by decide +kernel
theorem d_X2_begin_2 : decode (bc mX2_begin) 2 = .ok (.putfield 43, 3) := by decide +kernel
theorem d_X2_begin_5 : decode (bc mX2_begin) 5 = .ok (.aload_n 0, 1) := by decide +kernel
theorem d_X2_begin_6 : decode (bc mX2_begin) 6 = .ok (.iconst 0, 1) := by decide +kernel
theorem d_X2_begin_7 : decode (bc mX2_begin) 7 = .ok (.putfield 46, 3) := by decide +kernel
theorem d_X2_begin_10 : decode (bc mX2_begin) 10 = .ok (.aload_n 0, 1) := by decide +kernel
theorem d_X2_begin_11 : decode (bc mX2_begin) 11 = .ok (.iconst 0, 1) := by decide +kernel
theorem d_X2_begin_12 : decode (bc mX2_begin) 12 = .ok (.putfield 49, 3) := by decide +kernel
theorem d_X2_begin_15 : decode (bc mX2_begin) 15 = .ok (.aload_n 0, 1) := by decide +kernel
theorem d_X2_begin_16 : decode (bc mX2_begin) 16 = .ok (.iconst 0, 1) := by decide +kernel
theorem d_X2_begin_17 : decode (bc mX2_begin) 17 = .ok (.putfield 52, 3) := by decide +kernel
theorem d_X2_begin_20 : decode (bc mX2_begin) 20 = .ok (.aload_n 0, 1) := by decide +kernel
theorem d_X2_begin_21 : decode (bc mX2_begin) 21 = .ok (.iconst 0, 1) := by decide +kernel
theorem d_X2_begin_22 : decode (bc mX2_begin) 22 = .ok (.putfield 31, 3) := by decide +kernel
theorem d_X2_begin_25 : decode (bc mX2_begin) 25 = .ok (.aload_n 0, 1) := by decide +kernel
theorem d_X2_begin_26 : decode (bc mX2_begin) 26 = .ok (.iconst 0, 1) := by decide +kernel
theorem d_X2_begin_27 : decode (bc mX2_begin) 27 = .ok (.putfield 35, 3) := by decide +kernel
theorem d_X2_begin_30 : decode (bc mX2_begin) 30 = .ok (.return_, 1) := by decide +kernel
theorem d_X2_takes_0 : decode (bc mX2_takes) 0 = .ok (.aload_n 0, 1) := by decide +kernel
theorem d_X2_takes_1 : decode (bc mX2_takes) 1 = .ok (.getfield 31, 3) := by decide +kernel
theorem d_X2_takes_4 : decode (bc mX2_takes) 4 = .ok (.tableswitch 64 0 2 #[28, 34, 40], 28) := by decide +kernel
theorem d_X2_takes_32 : decode (bc mX2_takes) 32 = .ok (.aload_n 0, 1) := by decide +kernel
theorem d_X2_takes_33 : decode (bc mX2_takes) 33 = .ok (.iload_n 1, 1) := by decide +kernel
theorem d_X2_takes_34 : decode (bc mX2_takes) 34 = .ok (.invokevirtual 55, 3) := by decide +kernel
theorem d_X2_takes_37 : decode (bc mX2_takes) 37 = .ok (.ireturn, 1) := by decide +kernel
theorem d_X2_takes_38 : decode (bc mX2_takes) 38 = .ok (.aload_n 0, 1) := by decide +kernel
theorem d_X2_takes_39 : decode (bc mX2_takes) 39 = .ok (.iload_n 1, 1) := by decide +kernel
theorem d_X2_takes_40 : decode (bc mX2_takes) 40 = .ok (.invokevirtual 58, 3) := by decide +kernel
theorem d_X2_takes_43 : decode (bc mX2_takes) 43 = .ok (.ireturn, 1) := by decide +kernel
theorem d_X2_takes_44 : decode (bc mX2_takes) 44 = .ok (.iload_n 1, 1) := by decide +kernel
theorem d_X2_takes_45 : decode (bc mX2_takes) 45 = .ok (.invokestatic 61, 3) := by decide +kernel
theorem d_X2_takes_48 : decode (bc mX2_takes) 48 = .ok (.ifCond .eq 14, 3) := by decide +kernel
theorem d_X2_takes_51 : decode (bc mX2_takes) 51 = .ok (.aload_n 0, 1) := by decide +kernel
theorem d_X2_takes_52 : decode (bc mX2_takes) 52 = .ok (.iload_n 1, 1) := by decide +kernel
theorem d_X2_takes_53 : decode (bc mX2_takes) 53 = .ok (.bipush 48, 2) := by decide +kernel
theorem d_X2_takes_55 : decode (bc mX2_takes) 55 = .ok (.isub, 1) := by decide +kernel
theorem d_X2_takes_56 : decode (bc mX2_takes) 56 = .ok (.invokevirtual 64, 3) := by decide +kernel
theorem d_X2_takes_59 : decode (bc mX2_takes) 59 = .ok (.goto 8, 3) := by decide +kernel
theorem d_X2_takes_62 : decode (bc mX2_takes) 62 = .ok (.aload_n 0, 1) := by decide +kernel
theorem d_X2_takes_63 : decode (bc mX2_takes) 63 = .ok (.iload_n 1, 1) := by decide +kernel
theorem d_X2_takes_64 : decode (bc mX2_takes) 64 = .ok (.invokevirtual 67, 3) := by decide +kernel
theorem d_X2_takes_67 : decode (bc mX2_takes) 67 = .ok (.ireturn, 1) := by decide +kernel
theorem d_X2_takes_68 : decode (bc mX2_takes) 68 = .ok (.aload_n 0, 1) := by decide +kernel
theorem d_X2_takes_69 : decode (bc mX2_takes) 69 = .ok (.iload_n 1, 1) := by decide +kernel
theorem d_X2_takes_70 : decode (bc mX2_takes) 70 = .ok (.invokevirtual 67, 3) := by decide +kernel
theorem d_X2_takes_73 : decode (bc mX2_takes) 73 = .ok (.ireturn, 1) := by decide +kernel
theorem d_X2_takesStart_0 : decode (bc mX2_takesStart) 0 = .ok (.iload_n 1, 1) := by decide +kernel
theorem d_X2_takesStart_1 : decode (bc mX2_takesStart) 1 = .ok (.bipush 40, 2) := by decide +kernel
theorem d_X2_takesStart_3 : decode (bc mX2_takesStart) 3 = .ok (.if_icmp .ne 10, 3) := by decide +kernel
theorem d_X2_takesStart_6 : decode (bc mX2_takesStart) 6 = .ok (.aload_n 0, 1) := by decide +kernel
theorem d_X2_takesStart_7 : decode (bc mX2_takesStart) 7 = .ok (.bipush 10, 2) := by decide +kernel
theorem d_X2_takesStart_9 : decode (bc mX2_takesStart) 9 = .ok (.invokevirtual 70, 3) := by decide +kernel
theorem d_X2_takesStart_12 : decode (bc mX2_takesStart) 12 = .ok (.ireturn, 1) := by decide +kernel
theorem d_X2_takesStart_13 : decode (bc mX2_takesStart) 13 = .ok (.iload_n 1, 1) := by decide +kernel
theorem d_X2_takesStart_14 : decode (bc mX2_takesStart) 14 = .ok (.bipush 123, 2) := by decide +kernel
theorem d_X2_takesStart_16 : decode (bc mX2_takesStart) 16 = .ok (.if_icmp .ne 10, 3) := by decide +kernel
theorem d_X2_takesStart_19 : decode (bc mX2_takesStart) 19 = .ok (.aload_n 0, 1) := by decide +kernel
theorem d_X2_takesStart_20 : decode (bc mX2_takesStart) 20 = .ok (.bipush 11, 2) := by decide +kernel
theorem d_X2_takesStart_22 : decode (bc mX2_takesStart) 22 = .ok (.invokevirtual 70, 3) := by decide +kernel
theorem d_X2_takesStart_25 : decode (bc mX2_takesStart) 25 = .ok (.ireturn, 1) := by decide +kernel
theorem d_X2_takesStart_26 : decode (bc mX2_takesStart) 26 = .ok (.iload_n 1, 1) := by decide +kernel
theorem d_X2_takesStart_27 : decode (bc mX2_takesStart) 27 = .ok (.bipush 35, 2) := by decide +kernel
theorem d_X2_takesStart_29 : decode (bc mX2_takesStart) 29 = .ok (.if_icmp .ne 10, 3) := by decide +kernel
theorem d_X2_takesStart_32 : decode (bc mX2_takesStart) 32 = .ok (.aload_n 0, 1) := by decide +kernel
theorem d_X2_takesStart_33 : decode (bc mX2_takesStart) 33 = .ok (.iconst 1, 1) := by decide +kernel
theorem d_X2_takesStart_34 : decode (bc mX2_takesStart) 34 = .ok (.putfield 31, 3) := by decide +kernel
theorem d_X2_takesStart_37 : decode (bc mX2_takesStart) 37 = .ok (.iconst 1, 1) := by decide +kernel
theorem d_X2_takesStart_38 : decode (bc mX2_takesStart) 38 = .ok (.ireturn, 1) := by decide +kernel
theorem d_X2_takesStart_39 : decode (bc mX2_takesStart) 39 = .ok (.iload_n 1, 1) := by decide +kernel
theorem d_X2_takesStart_40 : decode (bc mX2_takesStart) 40 = .ok (.invokestatic 61, 3) := by decide +kernel
theorem d_X2_takesStart_43 : decode (bc mX2_takesStart) 43 = .ok (.ifCond .eq 18, 3) := by decide +kernel
theorem d_X2_takesStart_46 : decode (bc mX2_takesStart) 46 = .ok (.aload_n 0, 1) := by decide +kernel
theorem d_X2_takesStart_47 : decode (bc mX2_takesStart) 47 = .ok (.iconst 2, 1) := by decide +kernel
theorem d_X2_takesStart_48 : decode (bc mX2_takesStart) 48 = .ok (.putfield 31, 3) := by decide +kernel
theorem d_X2_takesStart_51 : decode (bc mX2_takesStart) 51 = .ok (.aload_n 0, 1) := by decide +kernel
theorem d_X2_takesStart_52 : decode (bc mX2_takesStart) 52 = .ok (.iconst 1, 1) := by decide +kernel
theorem d_X2_takesStart_53 : decode (bc mX2_takesStart) 53 = .ok (.iload_n 1, 1) := by decide +kernel
theorem d_X2_takesStart_54 : decode (bc mX2_takesStart) 54 = .ok (.bipush 48, 2) := by decide +kernel
theorem d_X2_takesStart_56 : decode (bc mX2_takesStart) 56 = .ok (.isub, 1) := by decide +kernel
theorem d_X2_takesStart_57 : decode (bc mX2_takesStart) 57 = .ok (.invokevirtual 73, 3) := by decide +kernel
theorem d_X2_takesStart_60 : decode (bc mX2_takesStart) 60 = .ok (.ireturn, 1) := by decide +kernel
theorem d_X2_takesStart_61 : decode (bc mX2_takesStart) 61 = .ok (.iload_n 1, 1) := by decide +kernel
theorem d_X2_takesStart_62 : decode (bc mX2_takesStart) 62 = .ok (.bipush 97, 2) := by decide +kernel
theorem d_X2_takesStart_64 : decode (bc mX2_takesStart) 64 = .ok (.isub, 1) := by decide +kernel
theorem d_X2_takesStart_65 : decode (bc mX2_takesStart) 65 = .ok (.istore_n 2, 1) := by decide +kernel
theorem d_X2_takesStart_66 : decode (bc mX2_takesStart) 66 = .ok (.iload_n 2, 1) := by decide +kernel
theorem d_X2_takesStart_67 : decode (bc mX2_takesStart) 67 = .ok (.invokestatic 77, 3) := by decide +kernel
theorem d_X2_takesStart_70 : decode (bc mX2_takesStart) 70 = .ok (.ifCond .ne 5, 3) := by decide +kernel
theorem d_X2_takesStart_73 : decode (bc mX2_takesStart) 73 = .ok (.iconst 0, 1) := by decide +kernel
theorem d_X2_takesStart_74 : decode (bc mX2_takesStart) 74 = .ok (.ireturn, 1) := by decide +kernel
theorem d_X2_takesStart_75 : decode (bc mX2_takesStart) 75 = .ok (.aload_n 0, 1) := by decide +kernel
theorem d_X2_takesStart_76 : decode (bc mX2_takesStart) 76 = .ok (.dup, 1) := by decide +kernel
theorem d_X2_takesStart_77 : decode (bc mX2_takesStart) 77 = .ok (.getfield 49, 3) := by decide +kernel
theorem d_X2_takesStart_80 : decode (bc mX2_takesStart) 80 = .ok (.iconst 1, 1) := by decide +kernel
theorem d_X2_takesStart_81 : decode (bc mX2_takesStart) 81 = .ok (.iload_n 2, 1) := by decide +kernel
theorem d_X2_takesStart_82 : decode (bc mX2_takesStart) 82 = .ok (.ishl, 1) := by decide +kernel
theorem d_X2_takesStart_83 : decode (bc mX2_takesStart) 83 = .ok (.ior, 1) := by decide +kernel
theorem d_X2_takesStart_84 : decode (bc mX2_takesStart) 84 = .ok (.putfield 49, 3) := by decide +kernel
theorem d_X2_takesStart_87 : decode (bc mX2_takesStart) 87 = .ok (.aload_n 0, 1) := by decide +kernel
theorem d_X2_takesStart_88 : decode (bc mX2_takesStart) 88 = .ok (.iconst 3, 1) := by decide +kernel
theorem d_X2_takesStart_89 : decode (bc mX2_takesStart) 89 = .ok (.putfield 31, 3) := by decide +kernel
theorem d_X2_takesStart_92 : decode (bc mX2_takesStart) 92 = .ok (.aload_n 0, 1) := by decide +kernel
theorem d_X2_takesStart_93 : decode (bc mX2_takesStart) 93 = .ok (.iconst 0, 1) := by decide +kernel
theorem d_X2_takesStart_94 : decode (bc mX2_takesStart) 94 = .ok (.iload_n 2, 1) := by decide +kernel
theorem d_X2_takesStart_95 : decode (bc mX2_takesStart) 95 = .ok (.invokevirtual 73, 3) := by decide +kernel
theorem d_X2_takesStart_98 : decode (bc mX2_takesStart) 98 = .ok (.ireturn, 1) := by decide +kernel
theorem d_X2_takesLoafDigit_0 : decode (bc mX2_takesLoafDigit) 0 = .ok (.iload_n 1, 1) := by decide +kernel
theorem d_X2_takesLoafDigit_1 : decode (bc mX2_takesLoafDigit) 1 = .ok (.bipush 48, 2) := by decide +kernel
theorem d_X2_takesLoafDigit_3 : decode (bc mX2_takesLoafDigit) 3 = .ok (.isub, 1) := by decide +kernel
theorem d_X2_takesLoafDigit_4 : decode (bc mX2_takesLoafDigit) 4 = .ok (.istore_n 2, 1) := by decide +kernel
theorem d_X2_takesLoafDigit_5 : decode (bc mX2_takesLoafDigit) 5 = .ok (.iload_n 2, 1) := by decide +kernel
theorem d_X2_takesLoafDigit_6 : decode (bc mX2_takesLoafDigit) 6 = .ok (.ifCond .lt 8, 3) := by decide +kernel
theorem d_X2_takesLoafDigit_9 : decode (bc mX2_takesLoafDigit) 9 = .ok (.iload_n 2, 1) := by decide +kernel
theorem d_X2_takesLoafDigit_10 : decode (bc mX2_takesLoafDigit) 10 = .ok (.iconst 5, 1) := by decide +kernel
theorem d_X2_takesLoafDigit_11 : decode (bc mX2_takesLoafDigit) 11 = .ok (.if_icmp .lt 5, 3) := by decide +kernel
theorem d_X2_takesLoafDigit_14 : decode (bc mX2_takesLoafDigit) 14 = .ok (.iconst 0, 1) := by decide +kernel
theorem d_X2_takesLoafDigit_15 : decode (bc mX2_takesLoafDigit) 15 = .ok (.ireturn, 1) := by decide +kernel
theorem d_X2_takesLoafDigit_16 : decode (bc mX2_takesLoafDigit) 16 = .ok (.aload_n 0, 1) := by decide +kernel
theorem d_X2_takesLoafDigit_17 : decode (bc mX2_takesLoafDigit) 17 = .ok (.dup, 1) := by decide +kernel
theorem d_X2_takesLoafDigit_18 : decode (bc mX2_takesLoafDigit) 18 = .ok (.getfield 52, 3) := by decide +kernel
theorem d_X2_takesLoafDigit_21 : decode (bc mX2_takesLoafDigit) 21 = .ok (.iconst 1, 1) := by decide +kernel
theorem d_X2_takesLoafDigit_22 : decode (bc mX2_takesLoafDigit) 22 = .ok (.iload_n 2, 1) := by decide +kernel
theorem d_X2_takesLoafDigit_23 : decode (bc mX2_takesLoafDigit) 23 = .ok (.ishl, 1) := by decide +kernel
theorem d_X2_takesLoafDigit_24 : decode (bc mX2_takesLoafDigit) 24 = .ok (.ior, 1) := by decide +kernel
theorem d_X2_takesLoafDigit_25 : decode (bc mX2_takesLoafDigit) 25 = .ok (.putfield 52, 3) := by decide +kernel
theorem d_X2_takesLoafDigit_28 : decode (bc mX2_takesLoafDigit) 28 = .ok (.aload_n 0, 1) := by decide +kernel
theorem d_X2_takesLoafDigit_29 : decode (bc mX2_takesLoafDigit) 29 = .ok (.iconst 3, 1) := by decide +kernel
theorem d_X2_takesLoafDigit_30 : decode (bc mX2_takesLoafDigit) 30 = .ok (.putfield 31, 3) := by decide +kernel
theorem d_X2_takesLoafDigit_33 : decode (bc mX2_takesLoafDigit) 33 = .ok (.aload_n 0, 1) := by decide +kernel
theorem d_X2_takesLoafDigit_34 : decode (bc mX2_takesLoafDigit) 34 = .ok (.iconst 0, 1) := by decide +kernel
theorem d_X2_takesLoafDigit_35 : decode (bc mX2_takesLoafDigit) 35 = .ok (.bipush 20, 2) := by decide +kernel
theorem d_X2_takesLoafDigit_37 : decode (bc mX2_takesLoafDigit) 37 = .ok (.iload_n 2, 1) := by decide +kernel
theorem d_X2_takesLoafDigit_38 : decode (bc mX2_takesLoafDigit) 38 = .ok (.iadd, 1) := by decide +kernel
theorem d_X2_takesLoafDigit_39 : decode (bc mX2_takesLoafDigit) 39 = .ok (.invokevirtual 73, 3) := by decide +kernel
theorem d_X2_takesLoafDigit_42 : decode (bc mX2_takesLoafDigit) 42 = .ok (.ireturn, 1) := by decide +kernel
theorem d_X2_takesNextDigit_0 : decode (bc mX2_takesNextDigit) 0 = .ok (.aload_n 0, 1) := by decide +kernel
theorem d_X2_takesNextDigit_1 : decode (bc mX2_takesNextDigit) 1 = .ok (.getfield 43, 3) := by decide +kernel
theorem d_X2_takesNextDigit_4 : decode (bc mX2_takesNextDigit) 4 = .ok (.iconst 1, 1) := by decide +kernel
theorem d_X2_takesNextDigit_5 : decode (bc mX2_takesNextDigit) 5 = .ok (.isub, 1) := by decide +kernel
theorem d_X2_takesNextDigit_6 : decode (bc mX2_takesNextDigit) 6 = .ok (.istore_n 2, 1) := by decide +kernel
theorem d_X2_takesNextDigit_7 : decode (bc mX2_takesNextDigit) 7 = .ok (.iload_n 2, 1) := by decide +kernel
theorem d_X2_takesNextDigit_8 : decode (bc mX2_takesNextDigit) 8 = .ok (.ifCond .lt 12, 3) := by decide +kernel
theorem d_X2_takesNextDigit_11 : decode (bc mX2_takesNextDigit) 11 = .ok (.aload_n 0, 1) := by decide +kernel
theorem d_X2_takesNextDigit_12 : decode (bc mX2_takesNextDigit) 12 = .ok (.getfield 15, 3) := by decide +kernel
theorem d_X2_takesNextDigit_15 : decode (bc mX2_takesNextDigit) 15 = .ok (.iload_n 2, 1) := by decide +kernel
theorem d_X2_takesNextDigit_16 : decode (bc mX2_takesNextDigit) 16 = .ok (.iaload, 1) := by decide +kernel
theorem d_X2_takesNextDigit_17 : decode (bc mX2_takesNextDigit) 17 = .ok (.ifCond .ne 5, 3) := by decide +kernel
theorem d_X2_takesNextDigit_20 : decode (bc mX2_takesNextDigit) 20 = .ok (.iconst 0, 1) := by decide +kernel
theorem d_X2_takesNextDigit_21 : decode (bc mX2_takesNextDigit) 21 = .ok (.ireturn, 1) := by decide +kernel
theorem d_X2_takesNextDigit_22 : decode (bc mX2_takesNextDigit) 22 = .ok (.aload_n 0, 1) := by decide +kernel
theorem d_X2_takesNextDigit_23 : decode (bc mX2_takesNextDigit) 23 = .ok (.getfield 15, 3) := by decide +kernel
theorem d_X2_takesNextDigit_26 : decode (bc mX2_takesNextDigit) 26 = .ok (.iload_n 2, 1) := by decide +kernel
theorem d_X2_takesNextDigit_27 : decode (bc mX2_takesNextDigit) 27 = .ok (.iaload, 1) := by decide +kernel
theorem d_X2_takesNextDigit_28 : decode (bc mX2_takesNextDigit) 28 = .ok (.bipush 10, 2) := by decide +kernel
theorem d_X2_takesNextDigit_30 : decode (bc mX2_takesNextDigit) 30 = .ok (.imul, 1) := by decide +kernel
theorem d_X2_takesNextDigit_31 : decode (bc mX2_takesNextDigit) 31 = .ok (.iload_n 1, 1) := by decide +kernel
theorem d_X2_takesNextDigit_32 : decode (bc mX2_takesNextDigit) 32 = .ok (.iadd, 1) := by decide +kernel
theorem d_X2_takesNextDigit_33 : decode (bc mX2_takesNextDigit) 33 = .ok (.istore_n 3, 1) := by decide +kernel
theorem d_X2_takesNextDigit_34 : decode (bc mX2_takesNextDigit) 34 = .ok (.iload_n 3, 1) := by decide +kernel
theorem d_X2_takesNextDigit_35 : decode (bc mX2_takesNextDigit) 35 = .ok (.invokestatic 80, 3) := by decide +kernel
theorem d_X2_takesNextDigit_38 : decode (bc mX2_takesNextDigit) 38 = .ok (.ifCond .ne 5, 3) := by decide +kernel
theorem d_X2_takesNextDigit_41 : decode (bc mX2_takesNextDigit) 41 = .ok (.iconst 0, 1) := by decide +kernel
theorem d_X2_takesNextDigit_42 : decode (bc mX2_takesNextDigit) 42 = .ok (.ireturn, 1) := by decide +kernel
theorem d_X2_takesNextDigit_43 : decode (bc mX2_takesNextDigit) 43 = .ok (.aload_n 0, 1) := by decide +kernel
theorem d_X2_takesNextDigit_44 : decode (bc mX2_takesNextDigit) 44 = .ok (.getfield 15, 3) := by decide +kernel
theorem d_X2_takesNextDigit_47 : decode (bc mX2_takesNextDigit) 47 = .ok (.iload_n 2, 1) := by decide +kernel
theorem d_X2_takesNextDigit_48 : decode (bc mX2_takesNextDigit) 48 = .ok (.iload_n 3, 1) := by decide +kernel
theorem d_X2_takesNextDigit_49 : decode (bc mX2_takesNextDigit) 49 = .ok (.iastore, 1) := by decide +kernel
theorem d_X2_takesNextDigit_50 : decode (bc mX2_takesNextDigit) 50 = .ok (.iconst 1, 1) := by decide +kernel
theorem d_X2_takesNextDigit_51 : decode (bc mX2_takesNextDigit) 51 = .ok (.ireturn, 1) := by decide +kernel
theorem d_X2_takesAfterRecipe_0 : decode (bc mX2_takesAfterRecipe) 0 = .ok (.aload_n 0, 1) := by decide +kernel
theorem d_X2_takesAfterRecipe_1 : decode (bc mX2_takesAfterRecipe) 1 = .ok (.getfield 35, 3) := by decide +kernel
theorem d_X2_takesAfterRecipe_4 : decode (bc mX2_takesAfterRecipe) 4 = .ok (.ifCond .ne 5, 3) := by decide +kernel
theorem d_X2_takesAfterRecipe_7 : decode (bc mX2_takesAfterRecipe) 7 = .ok (.iconst 0, 1) := by decide +kernel
theorem d_X2_takesAfterRecipe_8 : decode (bc mX2_takesAfterRecipe) 8 = .ok (.ireturn, 1) := by decide +kernel
theorem d_X2_takesAfterRecipe_9 : decode (bc mX2_takesAfterRecipe) 9 = .ok (.aload_n 0, 1) := by decide +kernel
theorem d_X2_takesAfterRecipe_10 : decode (bc mX2_takesAfterRecipe) 10 = .ok (.getfield 18, 3) := by decide +kernel
theorem d_X2_takesAfterRecipe_13 : decode (bc mX2_takesAfterRecipe) 13 = .ok (.aload_n 0, 1) := by decide +kernel
theorem d_X2_takesAfterRecipe_14 : decode (bc mX2_takesAfterRecipe) 14 = .ok (.getfield 35, 3) := by decide +kernel
theorem d_X2_takesAfterRecipe_17 : decode (bc mX2_takesAfterRecipe) 17 = .ok (.iconst 1, 1) := by decide +kernel
theorem d_X2_takesAfterRecipe_18 : decode (bc mX2_takesAfterRecipe) 18 = .ok (.isub, 1) := by decide +kernel
theorem d_X2_takesAfterRecipe_19 : decode (bc mX2_takesAfterRecipe) 19 = .ok (.iaload, 1) := by decide +kernel
theorem d_X2_takesAfterRecipe_20 : decode (bc mX2_takesAfterRecipe) 20 = .ok (.tableswitch 95 10 13 #[32, 38, 57, 76], 32) := by decide +kernel
theorem d_X2_takesAfterRecipe_52 : decode (bc mX2_takesAfterRecipe) 52 = .ok (.aload_n 0, 1) := by decide +kernel
theorem d_X2_takesAfterRecipe_53 : decode (bc mX2_takesAfterRecipe) 53 = .ok (.iload_n 1, 1) := by decide +kernel
theorem d_X2_takesAfterRecipe_54 : decode (bc mX2_takesAfterRecipe) 54 = .ok (.invokevirtual 83, 3) := by decide +kernel
theorem d_X2_takesAfterRecipe_57 : decode (bc mX2_takesAfterRecipe) 57 = .ok (.ireturn, 1) := by decide +kernel
theorem d_X2_takesAfterRecipe_58 : decode (bc mX2_takesAfterRecipe) 58 = .ok (.iload_n 1, 1) := by decide +kernel
theorem d_X2_takesAfterRecipe_59 : decode (bc mX2_takesAfterRecipe) 59 = .ok (.bipush 63, 2) := by decide +kernel
theorem d_X2_takesAfterRecipe_61 : decode (bc mX2_takesAfterRecipe) 61 = .ok (.if_icmp .ne 14, 3) := by decide +kernel
theorem d_X2_takesAfterRecipe_64 : decode (bc mX2_takesAfterRecipe) 64 = .ok (.aload_n 0, 1) := by decide +kernel
theorem d_X2_takesAfterRecipe_65 : decode (bc mX2_takesAfterRecipe) 65 = .ok (.invokevirtual 86, 3) := by decide +kernel
theorem d_X2_takesAfterRecipe_68 : decode (bc mX2_takesAfterRecipe) 68 = .ok (.ifCond .eq 7, 3) := by decide +kernel
theorem d_X2_takesAfterRecipe_71 : decode (bc mX2_takesAfterRecipe) 71 = .ok (.iconst 1, 1) := by decide +kernel
theorem d_X2_takesAfterRecipe_72 : decode (bc mX2_takesAfterRecipe) 72 = .ok (.goto 4, 3) := by decide +kernel
theorem d_X2_takesAfterRecipe_75 : decode (bc mX2_takesAfterRecipe) 75 = .ok (.iconst 0, 1) := by decide +kernel
theorem d_X2_takesAfterRecipe_76 : decode (bc mX2_takesAfterRecipe) 76 = .ok (.ireturn, 1) := by decide +kernel
theorem d_X2_takesAfterRecipe_77 : decode (bc mX2_takesAfterRecipe) 77 = .ok (.iload_n 1, 1) := by decide +kernel
theorem d_X2_takesAfterRecipe_78 : decode (bc mX2_takesAfterRecipe) 78 = .ok (.bipush 58, 2) := by decide +kernel
theorem d_X2_takesAfterRecipe_80 : decode (bc mX2_takesAfterRecipe) 80 = .ok (.if_icmp .ne 14, 3) := by decide +kernel
theorem d_X2_takesAfterRecipe_83 : decode (bc mX2_takesAfterRecipe) 83 = .ok (.aload_n 0, 1) := by decide +kernel
theorem d_X2_takesAfterRecipe_84 : decode (bc mX2_takesAfterRecipe) 84 = .ok (.invokevirtual 90, 3) := by decide +kernel
theorem d_X2_takesAfterRecipe_87 : decode (bc mX2_takesAfterRecipe) 87 = .ok (.ifCond .eq 7, 3) := by decide +kernel
theorem d_X2_takesAfterRecipe_90 : decode (bc mX2_takesAfterRecipe) 90 = .ok (.iconst 1, 1) := by decide +kernel
theorem d_X2_takesAfterRecipe_91 : decode (bc mX2_takesAfterRecipe) 91 = .ok (.goto 4, 3) := by decide +kernel
theorem d_X2_takesAfterRecipe_94 : decode (bc mX2_takesAfterRecipe) 94 = .ok (.iconst 0, 1) := by decide +kernel
theorem d_X2_takesAfterRecipe_95 : decode (bc mX2_takesAfterRecipe) 95 = .ok (.ireturn, 1) := by decide +kernel
theorem d_X2_takesAfterRecipe_96 : decode (bc mX2_takesAfterRecipe) 96 = .ok (.iload_n 1, 1) := by decide +kernel
theorem d_X2_takesAfterRecipe_97 : decode (bc mX2_takesAfterRecipe) 97 = .ok (.bipush 125, 2) := by decide +kernel
theorem d_X2_takesAfterRecipe_99 : decode (bc mX2_takesAfterRecipe) 99 = .ok (.if_icmp .ne 14, 3) := by decide +kernel
theorem d_X2_takesAfterRecipe_102 : decode (bc mX2_takesAfterRecipe) 102 = .ok (.aload_n 0, 1) := by decide +kernel
theorem d_X2_takesAfterRecipe_103 : decode (bc mX2_takesAfterRecipe) 103 = .ok (.invokevirtual 93, 3) := by decide +kernel
theorem d_X2_takesAfterRecipe_106 : decode (bc mX2_takesAfterRecipe) 106 = .ok (.ifCond .eq 7, 3) := by decide +kernel
theorem d_X2_takesAfterRecipe_109 : decode (bc mX2_takesAfterRecipe) 109 = .ok (.iconst 1, 1) := by decide +kernel
theorem d_X2_takesAfterRecipe_110 : decode (bc mX2_takesAfterRecipe) 110 = .ok (.goto 4, 3) := by decide +kernel
theorem d_X2_takesAfterRecipe_113 : decode (bc mX2_takesAfterRecipe) 113 = .ok (.iconst 0, 1) := by decide +kernel
theorem d_X2_takesAfterRecipe_114 : decode (bc mX2_takesAfterRecipe) 114 = .ok (.ireturn, 1) := by decide +kernel
theorem d_X2_takesAfterRecipe_115 : decode (bc mX2_takesAfterRecipe) 115 = .ok (.iload_n 1, 1) := by decide +kernel
theorem d_X2_takesAfterRecipe_116 : decode (bc mX2_takesAfterRecipe) 116 = .ok (.bipush 41, 2) := by decide +kernel
theorem d_X2_takesAfterRecipe_118 : decode (bc mX2_takesAfterRecipe) 118 = .ok (.if_icmp .ne 14, 3) := by decide +kernel
theorem d_X2_takesAfterRecipe_121 : decode (bc mX2_takesAfterRecipe) 121 = .ok (.aload_n 0, 1) := by decide +kernel
theorem d_X2_takesAfterRecipe_122 : decode (bc mX2_takesAfterRecipe) 122 = .ok (.invokevirtual 96, 3) := by decide +kernel
theorem d_X2_takesAfterRecipe_125 : decode (bc mX2_takesAfterRecipe) 125 = .ok (.ifCond .eq 7, 3) := by decide +kernel
theorem d_X2_takesAfterRecipe_128 : decode (bc mX2_takesAfterRecipe) 128 = .ok (.iconst 1, 1) := by decide +kernel
theorem d_X2_takesAfterRecipe_129 : decode (bc mX2_takesAfterRecipe) 129 = .ok (.goto 4, 3) := by decide +kernel
theorem d_X2_takesAfterRecipe_132 : decode (bc mX2_takesAfterRecipe) 132 = .ok (.iconst 0, 1) := by decide +kernel
theorem d_X2_takesAfterRecipe_133 : decode (bc mX2_takesAfterRecipe) 133 = .ok (.ireturn, 1) := by decide +kernel
theorem d_X2_takesOperation_0 : decode (bc mX2_takesOperation) 0 = .ok (.iload_n 1, 1) := by decide +kernel
theorem d_X2_takesOperation_1 : decode (bc mX2_takesOperation) 1 = .ok (.tableswitch 49 42 45 #[43, 31, 49, 37], 31) := by decide +kernel
theorem d_X2_takesOperation_32 : decode (bc mX2_takesOperation) 32 = .ok (.aload_n 0, 1) := by decide +kernel
theorem d_X2_takesOperation_33 : decode (bc mX2_takesOperation) 33 = .ok (.iconst 2, 1) := by decide +kernel
theorem d_X2_takesOperation_34 : decode (bc mX2_takesOperation) 34 = .ok (.invokevirtual 99, 3) := by decide +kernel
theorem d_X2_takesOperation_37 : decode (bc mX2_takesOperation) 37 = .ok (.ireturn, 1) := by decide +kernel
theorem d_X2_takesOperation_38 : decode (bc mX2_takesOperation) 38 = .ok (.aload_n 0, 1) := by decide +kernel
theorem d_X2_takesOperation_39 : decode (bc mX2_takesOperation) 39 = .ok (.iconst 3, 1) := by decide +kernel
theorem d_X2_takesOperation_40 : decode (bc mX2_takesOperation) 40 = .ok (.invokevirtual 99, 3) := by decide +kernel
theorem d_X2_takesOperation_43 : decode (bc mX2_takesOperation) 43 = .ok (.ireturn, 1) := by decide +kernel
theorem d_X2_takesOperation_44 : decode (bc mX2_takesOperation) 44 = .ok (.aload_n 0, 1) := by decide +kernel
theorem d_X2_takesOperation_45 : decode (bc mX2_takesOperation) 45 = .ok (.iconst 4, 1) := by decide +kernel
theorem d_X2_takesOperation_46 : decode (bc mX2_takesOperation) 46 = .ok (.invokevirtual 99, 3) := by decide +kernel
theorem d_X2_takesOperation_49 : decode (bc mX2_takesOperation) 49 = .ok (.ireturn, 1) := by decide +kernel
theorem d_X2_takesOperation_50 : decode (bc mX2_takesOperation) 50 = .ok (.iconst 0, 1) := by decide +kernel
theorem d_X2_takesOperation_51 : decode (bc mX2_takesOperation) 51 = .ok (.ireturn, 1) := by decide +kernel
theorem d_X2_takesBracket_0 : decode (bc mX2_takesBracket) 0 = .ok (.aload_n 0, 1) := by decide +kernel
theorem d_X2_takesBracket_1 : decode (bc mX2_takesBracket) 1 = .ok (.dup, 1) := by decide +kernel
theorem d_X2_takesBracket_2 : decode (bc mX2_takesBracket) 2 = .ok (.getfield 35, 3) := by decide +kernel
theorem d_X2_takesBracket_5 : decode (bc mX2_takesBracket) 5 = .ok (.iconst 1, 1) := by decide +kernel
theorem d_X2_takesBracket_6 : decode (bc mX2_takesBracket) 6 = .ok (.isub, 1) := by decide +kernel
theorem d_X2_takesBracket_7 : decode (bc mX2_takesBracket) 7 = .ok (.putfield 35, 3) := by decide +kernel
theorem d_X2_takesBracket_10 : decode (bc mX2_takesBracket) 10 = .ok (.aload_n 0, 1) := by decide +kernel
theorem d_X2_takesBracket_11 : decode (bc mX2_takesBracket) 11 = .ok (.iconst 3, 1) := by decide +kernel
theorem d_X2_takesBracket_12 : decode (bc mX2_takesBracket) 12 = .ok (.putfield 31, 3) := by decide +kernel
theorem d_X2_takesBracket_15 : decode (bc mX2_takesBracket) 15 = .ok (.aload_n 0, 1) := by decide +kernel
theorem d_X2_takesBracket_16 : decode (bc mX2_takesBracket) 16 = .ok (.aload_n 0, 1) := by decide +kernel
theorem d_X2_takesBracket_17 : decode (bc mX2_takesBracket) 17 = .ok (.getfield 18, 3) := by decide +kernel
theorem d_X2_takesBracket_20 : decode (bc mX2_takesBracket) 20 = .ok (.aload_n 0, 1) := by decide +kernel
theorem d_X2_takesBracket_21 : decode (bc mX2_takesBracket) 21 = .ok (.getfield 35, 3) := by decide +kernel
theorem d_X2_takesBracket_24 : decode (bc mX2_takesBracket) 24 = .ok (.iaload, 1) := by decide +kernel
theorem d_X2_takesBracket_25 : decode (bc mX2_takesBracket) 25 = .ok (.iconst 0, 1) := by decide +kernel
theorem d_X2_takesBracket_26 : decode (bc mX2_takesBracket) 26 = .ok (.invokevirtual 73, 3) := by decide +kernel
theorem d_X2_takesBracket_29 : decode (bc mX2_takesBracket) 29 = .ok (.ireturn, 1) := by decide +kernel
theorem d_X2_takesQuestion_0 : decode (bc mX2_takesQuestion) 0 = .ok (.aload_n 0, 1) := by decide +kernel
theorem d_X2_takesQuestion_1 : decode (bc mX2_takesQuestion) 1 = .ok (.getfield 21, 3) := by decide +kernel
theorem d_X2_takesQuestion_4 : decode (bc mX2_takesQuestion) 4 = .ok (.aload_n 0, 1) := by decide +kernel
theorem d_X2_takesQuestion_5 : decode (bc mX2_takesQuestion) 5 = .ok (.getfield 35, 3) := by decide +kernel
theorem d_X2_takesQuestion_8 : decode (bc mX2_takesQuestion) 8 = .ok (.iconst 1, 1) := by decide +kernel
theorem d_X2_takesQuestion_9 : decode (bc mX2_takesQuestion) 9 = .ok (.isub, 1) := by decide +kernel
theorem d_X2_takesQuestion_10 : decode (bc mX2_takesQuestion) 10 = .ok (.aload_n 0, 1) := by decide +kernel
theorem d_X2_takesQuestion_11 : decode (bc mX2_takesQuestion) 11 = .ok (.getfield 43, 3) := by decide +kernel
theorem d_X2_takesQuestion_14 : decode (bc mX2_takesQuestion) 14 = .ok (.iastore, 1) := by decide +kernel
theorem d_X2_takesQuestion_15 : decode (bc mX2_takesQuestion) 15 = .ok (.aload_n 0, 1) := by decide +kernel
theorem d_X2_takesQuestion_16 : decode (bc mX2_takesQuestion) 16 = .ok (.iconst 5, 1) := by decide +kernel
theorem d_X2_takesQuestion_17 : decode (bc mX2_takesQuestion) 17 = .ok (.iconst 0, 1) := by decide +kernel
theorem d_X2_takesQuestion_18 : decode (bc mX2_takesQuestion) 18 = .ok (.invokevirtual 73, 3) := by decide +kernel
theorem d_X2_takesQuestion_21 : decode (bc mX2_takesQuestion) 21 = .ok (.ifCond .eq 16, 3) := by decide +kernel
theorem d_X2_takesQuestion_24 : decode (bc mX2_takesQuestion) 24 = .ok (.aload_n 0, 1) := by decide +kernel
theorem d_X2_takesQuestion_25 : decode (bc mX2_takesQuestion) 25 = .ok (.bipush 12, 2) := by decide +kernel
theorem d_X2_takesQuestion_27 : decode (bc mX2_takesQuestion) 27 = .ok (.invokevirtual 99, 3) := by decide +kernel
theorem d_X2_takesQuestion_30 : decode (bc mX2_takesQuestion) 30 = .ok (.ifCond .eq 7, 3) := by decide +kernel
theorem d_X2_takesQuestion_33 : decode (bc mX2_takesQuestion) 33 = .ok (.iconst 1, 1) := by decide +kernel
theorem d_X2_takesQuestion_34 : decode (bc mX2_takesQuestion) 34 = .ok (.goto 4, 3) := by decide +kernel
theorem d_X2_takesQuestion_37 : decode (bc mX2_takesQuestion) 37 = .ok (.iconst 0, 1) := by decide +kernel
theorem d_X2_takesQuestion_38 : decode (bc mX2_takesQuestion) 38 = .ok (.ireturn, 1) := by decide +kernel
theorem d_X2_takesColon_0 : decode (bc mX2_takesColon) 0 = .ok (.aload_n 0, 1) := by decide +kernel
theorem d_X2_takesColon_1 : decode (bc mX2_takesColon) 1 = .ok (.getfield 21, 3) := by decide +kernel
theorem d_X2_takesColon_4 : decode (bc mX2_takesColon) 4 = .ok (.aload_n 0, 1) := by decide +kernel
theorem d_X2_takesColon_5 : decode (bc mX2_takesColon) 5 = .ok (.getfield 35, 3) := by decide +kernel
theorem d_X2_takesColon_8 : decode (bc mX2_takesColon) 8 = .ok (.iconst 1, 1) := by decide +kernel
theorem d_X2_takesColon_9 : decode (bc mX2_takesColon) 9 = .ok (.isub, 1) := by decide +kernel
theorem d_X2_takesColon_10 : decode (bc mX2_takesColon) 10 = .ok (.iaload, 1) := by decide +kernel
theorem d_X2_takesColon_11 : decode (bc mX2_takesColon) 11 = .ok (.istore_n 1, 1) := by decide +kernel
theorem d_X2_takesColon_12 : decode (bc mX2_takesColon) 12 = .ok (.aload_n 0, 1) := by decide +kernel
theorem d_X2_takesColon_13 : decode (bc mX2_takesColon) 13 = .ok (.getfield 21, 3) := by decide +kernel
theorem d_X2_takesColon_16 : decode (bc mX2_takesColon) 16 = .ok (.aload_n 0, 1) := by decide +kernel
theorem d_X2_takesColon_17 : decode (bc mX2_takesColon) 17 = .ok (.getfield 35, 3) := by decide +kernel
theorem d_X2_takesColon_20 : decode (bc mX2_takesColon) 20 = .ok (.iconst 1, 1) := by decide +kernel
theorem d_X2_takesColon_21 : decode (bc mX2_takesColon) 21 = .ok (.isub, 1) := by decide +kernel
theorem d_X2_takesColon_22 : decode (bc mX2_takesColon) 22 = .ok (.aload_n 0, 1) := by decide +kernel
theorem d_X2_takesColon_23 : decode (bc mX2_takesColon) 23 = .ok (.getfield 43, 3) := by decide +kernel
theorem d_X2_takesColon_26 : decode (bc mX2_takesColon) 26 = .ok (.iastore, 1) := by decide +kernel
theorem d_X2_takesColon_27 : decode (bc mX2_takesColon) 27 = .ok (.aload_n 0, 1) := by decide +kernel
theorem d_X2_takesColon_28 : decode (bc mX2_takesColon) 28 = .ok (.bipush 6, 2) := by decide +kernel
theorem d_X2_takesColon_30 : decode (bc mX2_takesColon) 30 = .ok (.iconst 0, 1) := by decide +kernel
theorem d_X2_takesColon_31 : decode (bc mX2_takesColon) 31 = .ok (.invokevirtual 102, 3) := by decide +kernel
theorem d_X2_takesColon_34 : decode (bc mX2_takesColon) 34 = .ok (.ifCond .ne 5, 3) := by decide +kernel
theorem d_X2_takesColon_37 : decode (bc mX2_takesColon) 37 = .ok (.iconst 0, 1) := by decide +kernel
theorem d_X2_takesColon_38 : decode (bc mX2_takesColon) 38 = .ok (.ireturn, 1) := by decide +kernel
theorem d_X2_takesColon_39 : decode (bc mX2_takesColon) 39 = .ok (.aload_n 0, 1) := by decide +kernel
theorem d_X2_takesColon_40 : decode (bc mX2_takesColon) 40 = .ok (.iload_n 1, 1) := by decide +kernel
theorem d_X2_takesColon_41 : decode (bc mX2_takesColon) 41 = .ok (.invokevirtual 105, 3) := by decide +kernel
theorem d_X2_takesColon_44 : decode (bc mX2_takesColon) 44 = .ok (.aload_n 0, 1) := by decide +kernel
theorem d_X2_takesColon_45 : decode (bc mX2_takesColon) 45 = .ok (.bipush 13, 2) := by decide +kernel
theorem d_X2_takesColon_47 : decode (bc mX2_takesColon) 47 = .ok (.invokevirtual 99, 3) := by decide +kernel
theorem d_X2_takesColon_50 : decode (bc mX2_takesColon) 50 = .ok (.ireturn, 1) := by decide +kernel
theorem d_X2_takesBrace_0 : decode (bc mX2_takesBrace) 0 = .ok (.aload_n 0, 1) := by decide +kernel
theorem d_X2_takesBrace_1 : decode (bc mX2_takesBrace) 1 = .ok (.dup, 1) := by decide +kernel
theorem d_X2_takesBrace_2 : decode (bc mX2_takesBrace) 2 = .ok (.getfield 35, 3) := by decide +kernel
theorem d_X2_takesBrace_5 : decode (bc mX2_takesBrace) 5 = .ok (.iconst 1, 1) := by decide +kernel
theorem d_X2_takesBrace_6 : decode (bc mX2_takesBrace) 6 = .ok (.isub, 1) := by decide +kernel
theorem d_X2_takesBrace_7 : decode (bc mX2_takesBrace) 7 = .ok (.putfield 35, 3) := by decide +kernel
theorem d_X2_takesBrace_10 : decode (bc mX2_takesBrace) 10 = .ok (.aload_n 0, 1) := by decide +kernel
theorem d_X2_takesBrace_11 : decode (bc mX2_takesBrace) 11 = .ok (.aload_n 0, 1) := by decide +kernel
theorem d_X2_takesBrace_12 : decode (bc mX2_takesBrace) 12 = .ok (.getfield 21, 3) := by decide +kernel
theorem d_X2_takesBrace_15 : decode (bc mX2_takesBrace) 15 = .ok (.aload_n 0, 1) := by decide +kernel
theorem d_X2_takesBrace_16 : decode (bc mX2_takesBrace) 16 = .ok (.getfield 35, 3) := by decide +kernel
theorem d_X2_takesBrace_19 : decode (bc mX2_takesBrace) 19 = .ok (.iaload, 1) := by decide +kernel
theorem d_X2_takesBrace_20 : decode (bc mX2_takesBrace) 20 = .ok (.invokevirtual 105, 3) := by decide +kernel
theorem d_X2_takesBrace_23 : decode (bc mX2_takesBrace) 23 = .ok (.aload_n 0, 1) := by decide +kernel
theorem d_X2_takesBrace_24 : decode (bc mX2_takesBrace) 24 = .ok (.iconst 3, 1) := by decide +kernel
theorem d_X2_takesBrace_25 : decode (bc mX2_takesBrace) 25 = .ok (.putfield 31, 3) := by decide +kernel
theorem d_X2_takesBrace_28 : decode (bc mX2_takesBrace) 28 = .ok (.iconst 1, 1) := by decide +kernel
theorem d_X2_takesBrace_29 : decode (bc mX2_takesBrace) 29 = .ok (.ireturn, 1) := by decide +kernel
theorem d_X2_opens_0 : decode (bc mX2_opens) 0 = .ok (.aload_n 0, 1) := by decide +kernel
theorem d_X2_opens_1 : decode (bc mX2_opens) 1 = .ok (.getfield 35, 3) := by decide +kernel
theorem d_X2_opens_4 : decode (bc mX2_opens) 4 = .ok (.aload_n 0, 1) := by decide +kernel
theorem d_X2_opens_5 : decode (bc mX2_opens) 5 = .ok (.getfield 18, 3) := by decide +kernel
theorem d_X2_opens_8 : decode (bc mX2_opens) 8 = .ok (.arraylength, 1) := by decide +kernel
theorem d_X2_opens_9 : decode (bc mX2_opens) 9 = .ok (.if_icmp .lt 5, 3) := by decide +kernel
theorem d_X2_opens_12 : decode (bc mX2_opens) 12 = .ok (.iconst 0, 1) := by decide +kernel
theorem d_X2_opens_13 : decode (bc mX2_opens) 13 = .ok (.ireturn, 1) := by decide +kernel
theorem d_X2_opens_14 : decode (bc mX2_opens) 14 = .ok (.aload_n 0, 1) := by decide +kernel
theorem d_X2_opens_15 : decode (bc mX2_opens) 15 = .ok (.getfield 18, 3) := by decide +kernel
theorem d_X2_opens_18 : decode (bc mX2_opens) 18 = .ok (.aload_n 0, 1) := by decide +kernel
theorem d_X2_opens_19 : decode (bc mX2_opens) 19 = .ok (.getfield 35, 3) := by decide +kernel
theorem d_X2_opens_22 : decode (bc mX2_opens) 22 = .ok (.iload_n 1, 1) := by decide +kernel
theorem d_X2_opens_23 : decode (bc mX2_opens) 23 = .ok (.iastore, 1) := by decide +kernel
theorem d_X2_opens_24 : decode (bc mX2_opens) 24 = .ok (.aload_n 0, 1) := by decide +kernel
theorem d_X2_opens_25 : decode (bc mX2_opens) 25 = .ok (.dup, 1) := by decide +kernel
theorem d_X2_opens_26 : decode (bc mX2_opens) 26 = .ok (.getfield 35, 3) := by decide +kernel
theorem d_X2_opens_29 : decode (bc mX2_opens) 29 = .ok (.iconst 1, 1) := by decide +kernel
theorem d_X2_opens_30 : decode (bc mX2_opens) 30 = .ok (.iadd, 1) := by decide +kernel
theorem d_X2_opens_31 : decode (bc mX2_opens) 31 = .ok (.putfield 35, 3) := by decide +kernel
theorem d_X2_opens_34 : decode (bc mX2_opens) 34 = .ok (.iconst 1, 1) := by decide +kernel
theorem d_X2_opens_35 : decode (bc mX2_opens) 35 = .ok (.ireturn, 1) := by decide +kernel
theorem d_X2_waitsNext_0 : decode (bc mX2_waitsNext) 0 = .ok (.aload_n 0, 1) := by decide +kernel
theorem d_X2_waitsNext_1 : decode (bc mX2_waitsNext) 1 = .ok (.getfield 18, 3) := by decide +kernel
theorem d_X2_waitsNext_4 : decode (bc mX2_waitsNext) 4 = .ok (.aload_n 0, 1) := by decide +kernel
theorem d_X2_waitsNext_5 : decode (bc mX2_waitsNext) 5 = .ok (.getfield 35, 3) := by decide +kernel
theorem d_X2_waitsNext_8 : decode (bc mX2_waitsNext) 8 = .ok (.iconst 1, 1) := by decide +kernel
theorem d_X2_waitsNext_9 : decode (bc mX2_waitsNext) 9 = .ok (.isub, 1) := by decide +kernel
theorem d_X2_waitsNext_10 : decode (bc mX2_waitsNext) 10 = .ok (.iload_n 1, 1) := by decide +kernel
theorem d_X2_waitsNext_11 : decode (bc mX2_waitsNext) 11 = .ok (.iastore, 1) := by decide +kernel
theorem d_X2_waitsNext_12 : decode (bc mX2_waitsNext) 12 = .ok (.aload_n 0, 1) := by decide +kernel
theorem d_X2_waitsNext_13 : decode (bc mX2_waitsNext) 13 = .ok (.iconst 0, 1) := by decide +kernel
theorem d_X2_waitsNext_14 : decode (bc mX2_waitsNext) 14 = .ok (.putfield 31, 3) := by decide +kernel
theorem d_X2_waitsNext_17 : decode (bc mX2_waitsNext) 17 = .ok (.iconst 1, 1) := by decide +kernel
theorem d_X2_waitsNext_18 : decode (bc mX2_waitsNext) 18 = .ok (.ireturn, 1) := by decide +kernel
theorem d_X2_addsPart_0 : decode (bc mX2_addsPart) 0 = .ok (.aload_n 0, 1) := by decide +kernel
theorem d_X2_addsPart_1 : decode (bc mX2_addsPart) 1 = .ok (.dup, 1) := by decide +kernel
theorem d_X2_addsPart_2 : decode (bc mX2_addsPart) 2 = .ok (.getfield 46, 3) := by decide +kernel
theorem d_X2_addsPart_5 : decode (bc mX2_addsPart) 5 = .ok (.iconst 1, 1) := by decide +kernel
theorem d_X2_addsPart_6 : decode (bc mX2_addsPart) 6 = .ok (.iadd, 1) := by decide +kernel
theorem d_X2_addsPart_7 : decode (bc mX2_addsPart) 7 = .ok (.putfield 46, 3) := by decide +kernel
theorem d_X2_addsPart_10 : decode (bc mX2_addsPart) 10 = .ok (.aload_n 0, 1) := by decide +kernel
theorem d_X2_addsPart_11 : decode (bc mX2_addsPart) 11 = .ok (.iload_n 1, 1) := by decide +kernel
theorem d_X2_addsPart_12 : decode (bc mX2_addsPart) 12 = .ok (.iload_n 2, 1) := by decide +kernel
theorem d_X2_addsPart_13 : decode (bc mX2_addsPart) 13 = .ok (.invokevirtual 102, 3) := by decide +kernel
theorem d_X2_addsPart_16 : decode (bc mX2_addsPart) 16 = .ok (.ireturn, 1) := by decide +kernel
theorem d_X2_adds_0 : decode (bc mX2_adds) 0 = .ok (.aload_n 0, 1) := by decide +kernel
theorem d_X2_adds_1 : decode (bc mX2_adds) 1 = .ok (.getfield 43, 3) := by decide +kernel
theorem d_X2_adds_4 : decode (bc mX2_adds) 4 = .ok (.aload_n 0, 1) := by decide +kernel
theorem d_X2_adds_5 : decode (bc mX2_adds) 5 = .ok (.getfield 9, 3) := by decide +kernel
theorem d_X2_adds_8 : decode (bc mX2_adds) 8 = .ok (.arraylength, 1) := by decide +kernel
theorem d_X2_adds_9 : decode (bc mX2_adds) 9 = .ok (.if_icmp .lt 5, 3) := by decide +kernel
theorem d_X2_adds_12 : decode (bc mX2_adds) 12 = .ok (.iconst 0, 1) := by decide +kernel
theorem d_X2_adds_13 : decode (bc mX2_adds) 13 = .ok (.ireturn, 1) := by decide +kernel
theorem d_X2_adds_14 : decode (bc mX2_adds) 14 = .ok (.aload_n 0, 1) := by decide +kernel
theorem d_X2_adds_15 : decode (bc mX2_adds) 15 = .ok (.getfield 9, 3) := by decide +kernel
theorem d_X2_adds_18 : decode (bc mX2_adds) 18 = .ok (.aload_n 0, 1) := by decide +kernel
theorem d_X2_adds_19 : decode (bc mX2_adds) 19 = .ok (.getfield 43, 3) := by decide +kernel
theorem d_X2_adds_22 : decode (bc mX2_adds) 22 = .ok (.iload_n 1, 1) := by decide +kernel
theorem d_X2_adds_23 : decode (bc mX2_adds) 23 = .ok (.iastore, 1) := by decide +kernel
theorem d_X2_adds_24 : decode (bc mX2_adds) 24 = .ok (.aload_n 0, 1) := by decide +kernel
theorem d_X2_adds_25 : decode (bc mX2_adds) 25 = .ok (.getfield 15, 3) := by decide +kernel
theorem d_X2_adds_28 : decode (bc mX2_adds) 28 = .ok (.aload_n 0, 1) := by decide +kernel
theorem d_X2_adds_29 : decode (bc mX2_adds) 29 = .ok (.getfield 43, 3) := by decide +kernel
theorem d_X2_adds_32 : decode (bc mX2_adds) 32 = .ok (.iload_n 2, 1) := by decide +kernel
theorem d_X2_adds_33 : decode (bc mX2_adds) 33 = .ok (.iastore, 1) := by decide +kernel
theorem d_X2_adds_34 : decode (bc mX2_adds) 34 = .ok (.aload_n 0, 1) := by decide +kernel
theorem d_X2_adds_35 : decode (bc mX2_adds) 35 = .ok (.dup, 1) := by decide +kernel
theorem d_X2_adds_36 : decode (bc mX2_adds) 36 = .ok (.getfield 43, 3) := by decide +kernel
theorem d_X2_adds_39 : decode (bc mX2_adds) 39 = .ok (.iconst 1, 1) := by decide +kernel
theorem d_X2_adds_40 : decode (bc mX2_adds) 40 = .ok (.iadd, 1) := by decide +kernel
theorem d_X2_adds_41 : decode (bc mX2_adds) 41 = .ok (.putfield 43, 3) := by decide +kernel
theorem d_X2_adds_44 : decode (bc mX2_adds) 44 = .ok (.iconst 1, 1) := by decide +kernel
theorem d_X2_adds_45 : decode (bc mX2_adds) 45 = .ok (.ireturn, 1) := by decide +kernel
theorem d_X2_closesEnd_0 : decode (bc mX2_closesEnd) 0 = .ok (.iload_n 1, 1) := by decide +kernel
theorem d_X2_closesEnd_1 : decode (bc mX2_closesEnd) 1 = .ok (.ifCond .lt 21, 3) := by decide +kernel
theorem d_X2_closesEnd_4 : decode (bc mX2_closesEnd) 4 = .ok (.iload_n 1, 1) := by decide +kernel
theorem d_X2_closesEnd_5 : decode (bc mX2_closesEnd) 5 = .ok (.aload_n 0, 1) := by decide +kernel
theorem d_X2_closesEnd_6 : decode (bc mX2_closesEnd) 6 = .ok (.getfield 43, 3) := by decide +kernel
theorem d_X2_closesEnd_9 : decode (bc mX2_closesEnd) 9 = .ok (.if_icmp .ge 13, 3) := by decide +kernel
theorem d_X2_closesEnd_12 : decode (bc mX2_closesEnd) 12 = .ok (.aload_n 0, 1) := by decide +kernel
theorem d_X2_closesEnd_13 : decode (bc mX2_closesEnd) 13 = .ok (.getfield 15, 3) := by decide +kernel
theorem d_X2_closesEnd_16 : decode (bc mX2_closesEnd) 16 = .ok (.iload_n 1, 1) := by decide +kernel
theorem d_X2_closesEnd_17 : decode (bc mX2_closesEnd) 17 = .ok (.aload_n 0, 1) := by decide +kernel
theorem d_X2_closesEnd_18 : decode (bc mX2_closesEnd) 18 = .ok (.getfield 43, 3) := by decide +kernel
theorem d_X2_closesEnd_21 : decode (bc mX2_closesEnd) 21 = .ok (.iastore, 1) := by decide +kernel
theorem d_X2_closesEnd_22 : decode (bc mX2_closesEnd) 22 = .ok (.return_, 1) := by decide +kernel
theorem d_X2_isDigit_0 : decode (bc mX2_isDigit) 0 = .ok (.iload_n 0, 1) := by decide +kernel
theorem d_X2_isDigit_1 : decode (bc mX2_isDigit) 1 = .ok (.bipush 48, 2) := by decide +kernel
theorem d_X2_isDigit_3 : decode (bc mX2_isDigit) 3 = .ok (.if_icmp .lt 13, 3) := by decide +kernel
theorem d_X2_isDigit_6 : decode (bc mX2_isDigit) 6 = .ok (.iload_n 0, 1) := by decide +kernel
theorem d_X2_isDigit_7 : decode (bc mX2_isDigit) 7 = .ok (.bipush 57, 2) := by decide +kernel
theorem d_X2_isDigit_9 : decode (bc mX2_isDigit) 9 = .ok (.if_icmp .gt 7, 3) := by decide +kernel
theorem d_X2_isDigit_12 : decode (bc mX2_isDigit) 12 = .ok (.iconst 1, 1) := by decide +kernel
theorem d_X2_isDigit_13 : decode (bc mX2_isDigit) 13 = .ok (.goto 4, 3) := by decide +kernel
theorem d_X2_isDigit_16 : decode (bc mX2_isDigit) 16 = .ok (.iconst 0, 1) := by decide +kernel
theorem d_X2_isDigit_17 : decode (bc mX2_isDigit) 17 = .ok (.ireturn, 1) := by decide +kernel
theorem d_X3_init_0 : decode (bc mX3_init) 0 = .ok (.aload_n 0, 1) := by decide +kernel
theorem d_X3_init_1 : decode (bc mX3_init) 1 = .ok (.invokespecial 1, 3) := by decide +kernel
theorem d_X3_init_4 : decode (bc mX3_init) 4 = .ok (.aload_n 0, 1) := by decide +kernel
theorem d_X3_init_5 : decode (bc mX3_init) 5 = .ok (.aload_n 1, 1) := by decide +kernel
theorem d_X3_init_6 : decode (bc mX3_init) 6 = .ok (.getfield 7, 3) := by decide +kernel
theorem d_X3_init_9 : decode (bc mX3_init) 9 = .ok (.putfield 13, 3) := by decide +kernel
theorem d_X3_init_12 : decode (bc mX3_init) 12 = .ok (.aload_n 0, 1) := by decide +kernel
theorem d_X3_init_13 : decode (bc mX3_init) 13 = .ok (.aload_n 1, 1) := by decide +kernel
theorem d_X3_init_14 : decode (bc mX3_init) 14 = .ok (.getfield 16, 3) := by decide +kernel
theorem d_X3_init_17 : decode (bc mX3_init) 17 = .ok (.aload_n 0, 1) := by decide +kernel
theorem d_X3_init_18 : decode (bc mX3_init) 18 = .ok (.getfield 13, 3) := by decide +kernel
theorem d_X3_init_21 : decode (bc mX3_init) 21 = .ok (.invokestatic 20, 3) := by decide +kernel
theorem d_X3_init_24 : decode (bc mX3_init) 24 = .ok (.putfield 26, 3) := by decide +kernel
theorem d_X3_init_27 : decode (bc mX3_init) 27 = .ok (.aload_n 0, 1) := by decide +kernel
theorem d_X3_init_28 : decode (bc mX3_init) 28 = .ok (.aload_n 1, 1) := by decide +kernel
theorem d_X3_init_29 : decode (bc mX3_init) 29 = .ok (.getfield 27, 3) := by decide +kernel
theorem d_X3_init_32 : decode (bc mX3_init) 32 = .ok (.aload_n 0, 1) := by decide +kernel
theorem d_X3_init_33 : decode (bc mX3_init) 33 = .ok (.getfield 13, 3) := by decide +kernel
theorem d_X3_init_36 : decode (bc mX3_init) 36 = .ok (.invokestatic 20, 3) := by decide +kernel
theorem d_X3_init_39 : decode (bc mX3_init) 39 = .ok (.putfield 30, 3) := by decide +kernel
theorem d_X3_init_42 : decode (bc mX3_init) 42 = .ok (.aload_n 0, 1) := by decide +kernel
theorem d_X3_init_43 : decode (bc mX3_init) 43 = .ok (.aload_n 1, 1) := by decide +kernel
theorem d_X3_init_44 : decode (bc mX3_init) 44 = .ok (.getfield 31, 3) := by decide +kernel
theorem d_X3_init_47 : decode (bc mX3_init) 47 = .ok (.putfield 34, 3) := by decide +kernel
theorem d_X3_init_50 : decode (bc mX3_init) 50 = .ok (.aload_n 0, 1) := by decide +kernel
theorem d_X3_init_51 : decode (bc mX3_init) 51 = .ok (.aload_n 1, 1) := by decide +kernel
theorem d_X3_init_52 : decode (bc mX3_init) 52 = .ok (.getfield 35, 3) := by decide +kernel
theorem d_X3_init_55 : decode (bc mX3_init) 55 = .ok (.putfield 38, 3) := by decide +kernel
theorem d_X3_init_58 : decode (bc mX3_init) 58 = .ok (.aload_n 0, 1) := by decide +kernel
theorem d_X3_init_59 : decode (bc mX3_init) 59 = .ok (.aload_n 1, 1) := by decide +kernel
theorem d_X3_init_60 : decode (bc mX3_init) 60 = .ok (.getfield 39, 3) := by decide +kernel
theorem d_X3_init_63 : decode (bc mX3_init) 63 = .ok (.putfield 42, 3) := by decide +kernel
theorem d_X3_init_66 : decode (bc mX3_init) 66 = .ok (.return_, 1) := by decide +kernel
theorem d_X4_init_0 : decode (bc mX4_init) 0 = .ok (.aload_n 0, 1) := by decide +kernel
theorem d_X4_init_1 : decode (bc mX4_init) 1 = .ok (.invokespecial 3, 3) := by decide +kernel
theorem d_X4_init_4 : decode (bc mX4_init) 4 = .ok (.aload_n 0, 1) := by decide +kernel
theorem d_X4_init_5 : decode (bc mX4_init) 5 = .ok (.bipush 12, 2) := by decide +kernel
theorem d_X4_init_7 : decode (bc mX4_init) 7 = .ok (.newarray .int, 2) := by decide +kernel
theorem d_X4_init_9 : decode (bc mX4_init) 9 = .ok (.putfield 9, 3) := by decide +kernel
theorem d_X4_init_12 : decode (bc mX4_init) 12 = .ok (.aload_n 0, 1) := by decide +kernel
theorem d_X4_init_13 : decode (bc mX4_init) 13 = .ok (.iconst 2, 1) := by decide +kernel
theorem d_X4_init_14 : decode (bc mX4_init) 14 = .ok (.newarray .int, 2) := by decide +kernel
theorem d_X4_init_16 : decode (bc mX4_init) 16 = .ok (.dup, 1) := by decide +kernel
theorem d_X4_init_17 : decode (bc mX4_init) 17 = .ok (.iconst 0, 1) := by decide +kernel
theorem d_X4_init_18 : decode (bc mX4_init) 18 = .ok (.bipush 8, 2) := by decide +kernel
theorem d_X4_init_20 : decode (bc mX4_init) 20 = .ok (.iastore, 1) := by decide +kernel
theorem d_X4_init_21 : decode (bc mX4_init) 21 = .ok (.dup, 1) := by decide +kernel
theorem d_X4_init_22 : decode (bc mX4_init) 22 = .ok (.iconst 1, 1) := by decide +kernel
theorem d_X4_init_23 : decode (bc mX4_init) 23 = .ok (.iconst 1, 1) := by decide +kernel
theorem d_X4_init_24 : decode (bc mX4_init) 24 = .ok (.iastore, 1) := by decide +kernel
theorem d_X4_init_25 : decode (bc mX4_init) 25 = .ok (.putfield 15, 3) := by decide +kernel
theorem d_X4_init_28 : decode (bc mX4_init) 28 = .ok (.aload_n 0, 1) := by decide +kernel
theorem d_X4_init_29 : decode (bc mX4_init) 29 = .ok (.bipush 6, 2) := by decide +kernel
theorem d_X4_init_31 : decode (bc mX4_init) 31 = .ok (.anewarray 18, 3) := by decide +kernel
theorem d_X4_init_34 : decode (bc mX4_init) 34 = .ok (.putfield 20, 3) := by decide +kernel
theorem d_X4_init_37 : decode (bc mX4_init) 37 = .ok (.aload_n 0, 1) := by decide +kernel
theorem d_X4_init_38 : decode (bc mX4_init) 38 = .ok (.bipush 17, 2) := by decide +kernel
theorem d_X4_init_40 : decode (bc mX4_init) 40 = .ok (.anewarray 24, 3) := by decide +kernel
theorem d_X4_init_43 : decode (bc mX4_init) 43 = .ok (.putfield 26, 3) := by decide +kernel
theorem d_X4_init_46 : decode (bc mX4_init) 46 = .ok (.aload_n 0, 1) := by decide +kernel
theorem d_X4_init_47 : decode (bc mX4_init) 47 = .ok (.bipush 6, 2) := by decide +kernel
theorem d_X4_init_49 : decode (bc mX4_init) 49 = .ok (.newarray .int, 2) := by decide +kernel
theorem d_X4_init_51 : decode (bc mX4_init) 51 = .ok (.putfield 30, 3) := by decide +kernel
theorem d_X4_init_54 : decode (bc mX4_init) 54 = .ok (.aload_n 0, 1) := by decide +kernel
theorem d_X4_init_55 : decode (bc mX4_init) 55 = .ok (.bipush 6, 2) := by decide +kernel
theorem d_X4_init_57 : decode (bc mX4_init) 57 = .ok (.newarray .int, 2) := by decide +kernel
theorem d_X4_init_59 : decode (bc mX4_init) 59 = .ok (.putfield 33, 3) := by decide +kernel
theorem d_X4_init_62 : decode (bc mX4_init) 62 = .ok (.iconst 0, 1) := by decide +kernel
theorem d_X4_init_63 : decode (bc mX4_init) 63 = .ok (.istore_n 1, 1) := by decide +kernel
theorem d_X4_init_64 : decode (bc mX4_init) 64 = .ok (.iload_n 1, 1) := by decide +kernel
theorem d_X4_init_65 : decode (bc mX4_init) 65 = .ok (.aload_n 0, 1) := by decide +kernel
theorem d_X4_init_66 : decode (bc mX4_init) 66 = .ok (.getfield 26, 3) := by decide +kernel
theorem d_X4_init_69 : decode (bc mX4_init) 69 = .ok (.arraylength, 1) := by decide +kernel
theorem d_X4_init_70 : decode (bc mX4_init) 70 = .ok (.if_icmp .ge 22, 3) := by decide +kernel
theorem d_X4_init_73 : decode (bc mX4_init) 73 = .ok (.aload_n 0, 1) := by decide +kernel
theorem d_X4_init_74 : decode (bc mX4_init) 74 = .ok (.getfield 26, 3) := by decide +kernel
theorem d_X4_init_77 : decode (bc mX4_init) 77 = .ok (.iload_n 1, 1) := by decide +kernel
theorem d_X4_init_78 : decode (bc mX4_init) 78 = .ok (.new 24, 3) := by decide +kernel
theorem d_X4_init_81 : decode (bc mX4_init) 81 = .ok (.dup, 1) := by decide +kernel
theorem d_X4_init_82 : decode (bc mX4_init) 82 = .ok (.invokespecial 36, 3) := by decide +kernel
theorem d_X4_init_85 : decode (bc mX4_init) 85 = .ok (.aastore, 1) := by decide +kernel
theorem d_X4_init_86 : decode (bc mX4_init) 86 = .ok (.iinc 1 1, 3) := by decide +kernel
theorem d_X4_init_89 : decode (bc mX4_init) 89 = .ok (.goto (-25), 3) := by decide +kernel
theorem d_X4_init_92 : decode (bc mX4_init) 92 = .ok (.return_, 1) := by decide +kernel
theorem d_X4_copyFrom_0 : decode (bc mX4_copyFrom) 0 = .ok (.aload_n 1, 1) := by decide +kernel
theorem d_X4_copyFrom_1 : decode (bc mX4_copyFrom) 1 = .ok (.getfield 9, 3) := by decide +kernel
theorem d_X4_copyFrom_4 : decode (bc mX4_copyFrom) 4 = .ok (.iconst 0, 1) := by decide +kernel
theorem d_X4_copyFrom_5 : decode (bc mX4_copyFrom) 5 = .ok (.aload_n 0, 1) := by decide +kernel
theorem d_X4_copyFrom_6 : decode (bc mX4_copyFrom) 6 = .ok (.getfield 9, 3) := by decide +kernel
theorem d_X4_copyFrom_9 : decode (bc mX4_copyFrom) 9 = .ok (.iconst 0, 1) := by decide +kernel
theorem d_X4_copyFrom_10 : decode (bc mX4_copyFrom) 10 = .ok (.bipush 12, 2) := by decide +kernel
theorem d_X4_copyFrom_12 : decode (bc mX4_copyFrom) 12 = .ok (.invokestatic 37, 3) := by decide +kernel
theorem d_X4_copyFrom_15 : decode (bc mX4_copyFrom) 15 = .ok (.aload_n 0, 1) := by decide +kernel
theorem d_X4_copyFrom_16 : decode (bc mX4_copyFrom) 16 = .ok (.aload_n 1, 1) := by decide +kernel
theorem d_X4_copyFrom_17 : decode (bc mX4_copyFrom) 17 = .ok (.getfield 43, 3) := by decide +kernel
theorem d_X4_copyFrom_20 : decode (bc mX4_copyFrom) 20 = .ok (.putfield 43, 3) := by decide +kernel
theorem d_X4_copyFrom_23 : decode (bc mX4_copyFrom) 23 = .ok (.aload_n 1, 1) := by decide +kernel
theorem d_X4_copyFrom_24 : decode (bc mX4_copyFrom) 24 = .ok (.getfield 15, 3) := by decide +kernel
theorem d_X4_copyFrom_27 : decode (bc mX4_copyFrom) 27 = .ok (.iconst 0, 1) := by decide +kernel
theorem d_X4_copyFrom_28 : decode (bc mX4_copyFrom) 28 = .ok (.aload_n 0, 1) := by decide +kernel
theorem d_X4_copyFrom_29 : decode (bc mX4_copyFrom) 29 = .ok (.getfield 15, 3) := by decide +kernel
theorem d_X4_copyFrom_32 : decode (bc mX4_copyFrom) 32 = .ok (.iconst 0, 1) := by decide +kernel
theorem d_X4_copyFrom_33 : decode (bc mX4_copyFrom) 33 = .ok (.aload_n 0, 1) := by decide +kernel
theorem d_X4_copyFrom_34 : decode (bc mX4_copyFrom) 34 = .ok (.getfield 15, 3) := by decide +kernel
theorem d_X4_copyFrom_37 : decode (bc mX4_copyFrom) 37 = .ok (.arraylength, 1) := by decide +kernel
theorem d_X4_copyFrom_38 : decode (bc mX4_copyFrom) 38 = .ok (.invokestatic 37, 3) := by decide +kernel
theorem d_X4_copyFrom_41 : decode (bc mX4_copyFrom) 41 = .ok (.aload_n 1, 1) := by decide +kernel
theorem d_X4_copyFrom_42 : decode (bc mX4_copyFrom) 42 = .ok (.getfield 20, 3) := by decide +kernel
theorem d_X4_copyFrom_45 : decode (bc mX4_copyFrom) 45 = .ok (.iconst 0, 1) := by decide +kernel
theorem d_X4_copyFrom_46 : decode (bc mX4_copyFrom) 46 = .ok (.aload_n 0, 1) := by decide +kernel
theorem d_X4_copyFrom_47 : decode (bc mX4_copyFrom) 47 = .ok (.getfield 20, 3) := by decide +kernel
theorem d_X4_copyFrom_50 : decode (bc mX4_copyFrom) 50 = .ok (.iconst 0, 1) := by decide +kernel
theorem d_X4_copyFrom_51 : decode (bc mX4_copyFrom) 51 = .ok (.bipush 6, 2) := by decide +kernel
theorem d_X4_copyFrom_53 : decode (bc mX4_copyFrom) 53 = .ok (.invokestatic 37, 3) := by decide +kernel
theorem d_X4_copyFrom_56 : decode (bc mX4_copyFrom) 56 = .ok (.aload_n 0, 1) := by decide +kernel
theorem d_X4_copyFrom_57 : decode (bc mX4_copyFrom) 57 = .ok (.aload_n 1, 1) := by decide +kernel
theorem d_X4_copyFrom_58 : decode (bc mX4_copyFrom) 58 = .ok (.getfield 47, 3) := by decide +kernel
theorem d_X4_copyFrom_61 : decode (bc mX4_copyFrom) 61 = .ok (.putfield 47, 3) := by decide +kernel
theorem d_X4_copyFrom_64 : decode (bc mX4_copyFrom) 64 = .ok (.iconst 0, 1) := by decide +kernel
theorem d_X4_copyFrom_65 : decode (bc mX4_copyFrom) 65 = .ok (.istore_n 2, 1) := by decide +kernel
theorem d_X4_copyFrom_66 : decode (bc mX4_copyFrom) 66 = .ok (.iload_n 2, 1) := by decide +kernel
theorem d_X4_copyFrom_67 : decode (bc mX4_copyFrom) 67 = .ok (.aload_n 0, 1) := by decide +kernel
theorem d_X4_copyFrom_68 : decode (bc mX4_copyFrom) 68 = .ok (.getfield 47, 3) := by decide +kernel
theorem d_X4_copyFrom_71 : decode (bc mX4_copyFrom) 71 = .ok (.if_icmp .ge 24, 3) := by decide +kernel
theorem d_X4_copyFrom_74 : decode (bc mX4_copyFrom) 74 = .ok (.aload_n 0, 1) := by decide +kernel
theorem d_X4_copyFrom_75 : decode (bc mX4_copyFrom) 75 = .ok (.getfield 26, 3) := by decide +kernel
theorem d_X4_copyFrom_78 : decode (bc mX4_copyFrom) 78 = .ok (.iload_n 2, 1) := by decide +kernel
theorem d_X4_copyFrom_79 : decode (bc mX4_copyFrom) 79 = .ok (.aaload, 1) := by decide +kernel
theorem d_X4_copyFrom_80 : decode (bc mX4_copyFrom) 80 = .ok (.aload_n 1, 1) := by decide +kernel
theorem d_X4_copyFrom_81 : decode (bc mX4_copyFrom) 81 = .ok (.getfield 26, 3) := by decide +kernel
theorem d_X4_copyFrom_84 : decode (bc mX4_copyFrom) 84 = .ok (.iload_n 2, 1) := by decide +kernel
theorem d_X4_copyFrom_85 : decode (bc mX4_copyFrom) 85 = .ok (.aaload, 1) := by decide +kernel
theorem d_X4_copyFrom_86 : decode (bc mX4_copyFrom) 86 = .ok (.invokevirtual 50, 3) := by decide +kernel
theorem d_X4_copyFrom_89 : decode (bc mX4_copyFrom) 89 = .ok (.iinc 2 1, 3) := by decide +kernel
theorem d_X4_copyFrom_92 : decode (bc mX4_copyFrom) 92 = .ok (.goto (-26), 3) := by decide +kernel
theorem d_X4_copyFrom_95 : decode (bc mX4_copyFrom) 95 = .ok (.aload_n 0, 1) := by decide +kernel
theorem d_X4_copyFrom_96 : decode (bc mX4_copyFrom) 96 = .ok (.aload_n 1, 1) := by decide +kernel
theorem d_X4_copyFrom_97 : decode (bc mX4_copyFrom) 97 = .ok (.getfield 54, 3) := by decide +kernel
theorem d_X4_copyFrom_100 : decode (bc mX4_copyFrom) 100 = .ok (.putfield 54, 3) := by decide +kernel
theorem d_X4_copyFrom_103 : decode (bc mX4_copyFrom) 103 = .ok (.aload_n 1, 1) := by decide +kernel
theorem d_X4_copyFrom_104 : decode (bc mX4_copyFrom) 104 = .ok (.getfield 30, 3) := by decide +kernel
theorem d_X4_copyFrom_107 : decode (bc mX4_copyFrom) 107 = .ok (.iconst 0, 1) := by decide +kernel
theorem d_X4_copyFrom_108 : decode (bc mX4_copyFrom) 108 = .ok (.aload_n 0, 1) := by decide +kernel
theorem d_X4_copyFrom_109 : decode (bc mX4_copyFrom) 109 = .ok (.getfield 30, 3) := by decide +kernel
theorem d_X4_copyFrom_112 : decode (bc mX4_copyFrom) 112 = .ok (.iconst 0, 1) := by decide +kernel
theorem d_X4_copyFrom_113 : decode (bc mX4_copyFrom) 113 = .ok (.bipush 6, 2) := by decide +kernel
theorem d_X4_copyFrom_115 : decode (bc mX4_copyFrom) 115 = .ok (.invokestatic 37, 3) := by decide +kernel
theorem d_X4_copyFrom_118 : decode (bc mX4_copyFrom) 118 = .ok (.aload_n 1, 1) := by decide +kernel
theorem d_X4_copyFrom_119 : decode (bc mX4_copyFrom) 119 = .ok (.getfield 33, 3) := by decide +kernel
theorem d_X4_copyFrom_122 : decode (bc mX4_copyFrom) 122 = .ok (.iconst 0, 1) := by decide +kernel
theorem d_X4_copyFrom_123 : decode (bc mX4_copyFrom) 123 = .ok (.aload_n 0, 1) := by decide +kernel
theorem d_X4_copyFrom_124 : decode (bc mX4_copyFrom) 124 = .ok (.getfield 33, 3) := by decide +kernel
theorem d_X4_copyFrom_127 : decode (bc mX4_copyFrom) 127 = .ok (.iconst 0, 1) := by decide +kernel
theorem d_X4_copyFrom_128 : decode (bc mX4_copyFrom) 128 = .ok (.bipush 6, 2) := by decide +kernel
theorem d_X4_copyFrom_130 : decode (bc mX4_copyFrom) 130 = .ok (.invokestatic 37, 3) := by decide +kernel
theorem d_X4_copyFrom_133 : decode (bc mX4_copyFrom) 133 = .ok (.aload_n 0, 1) := by decide +kernel
theorem d_X4_copyFrom_134 : decode (bc mX4_copyFrom) 134 = .ok (.aload_n 1, 1) := by decide +kernel
theorem d_X4_copyFrom_135 : decode (bc mX4_copyFrom) 135 = .ok (.getfield 57, 3) := by decide +kernel
theorem d_X4_copyFrom_138 : decode (bc mX4_copyFrom) 138 = .ok (.putfield 57, 3) := by decide +kernel
theorem d_X4_copyFrom_141 : decode (bc mX4_copyFrom) 141 = .ok (.aload_n 0, 1) := by decide +kernel
theorem d_X4_copyFrom_142 : decode (bc mX4_copyFrom) 142 = .ok (.aload_n 1, 1) := by decide +kernel
theorem d_X4_copyFrom_143 : decode (bc mX4_copyFrom) 143 = .ok (.getfield 60, 3) := by decide +kernel
theorem d_X4_copyFrom_146 : decode (bc mX4_copyFrom) 146 = .ok (.putfield 60, 3) := by decide +kernel
theorem d_X4_copyFrom_149 : decode (bc mX4_copyFrom) 149 = .ok (.return_, 1) := by decide +kernel
theorem d_X4_loavesNaming_0 : decode (bc mX4_loavesNaming) 0 = .ok (.iconst 0, 1) := by decide +kernel
theorem d_X4_loavesNaming_1 : decode (bc mX4_loavesNaming) 1 = .ok (.istore_n 2, 1) := by decide +kernel
theorem d_X4_loavesNaming_2 : decode (bc mX4_loavesNaming) 2 = .ok (.iconst 0, 1) := by decide +kernel
theorem d_X4_loavesNaming_3 : decode (bc mX4_loavesNaming) 3 = .ok (.istore_n 3, 1) := by decide +kernel
theorem d_X4_loavesNaming_4 : decode (bc mX4_loavesNaming) 4 = .ok (.iload_n 3, 1) := by decide +kernel
theorem d_X4_loavesNaming_5 : decode (bc mX4_loavesNaming) 5 = .ok (.bipush 6, 2) := by decide +kernel
theorem d_X4_loavesNaming_7 : decode (bc mX4_loavesNaming) 7 = .ok (.if_icmp .ge 41, 3) := by decide +kernel
theorem d_X4_loavesNaming_10 : decode (bc mX4_loavesNaming) 10 = .ok (.aload_n 0, 1) := by decide +kernel
theorem d_X4_loavesNaming_11 : decode (bc mX4_loavesNaming) 11 = .ok (.getfield 20, 3) := by decide +kernel
theorem d_X4_loavesNaming_14 : decode (bc mX4_loavesNaming) 14 = .ok (.iload_n 3, 1) := by decide +kernel
theorem d_X4_loavesNaming_15 : decode (bc mX4_loavesNaming) 15 = .ok (.aaload, 1) := by decide +kernel
theorem d_X4_loavesNaming_16 : decode (bc mX4_loavesNaming) 16 = .ok (.ifnull 26, 3) := by decide +kernel
theorem d_X4_loavesNaming_19 : decode (bc mX4_loavesNaming) 19 = .ok (.aload_n 0, 1) := by decide +kernel
theorem d_X4_loavesNaming_20 : decode (bc mX4_loavesNaming) 20 = .ok (.getfield 20, 3) := by decide +kernel
theorem d_X4_loavesNaming_23 : decode (bc mX4_loavesNaming) 23 = .ok (.iload_n 3, 1) := by decide +kernel
theorem d_X4_loavesNaming_24 : decode (bc mX4_loavesNaming) 24 = .ok (.aaload, 1) := by decide +kernel
theorem d_X4_loavesNaming_25 : decode (bc mX4_loavesNaming) 25 = .ok (.getfield 63, 3) := by decide +kernel
theorem d_X4_loavesNaming_28 : decode (bc mX4_loavesNaming) 28 = .ok (.iload_n 1, 1) := by decide +kernel
theorem d_X4_loavesNaming_29 : decode (bc mX4_loavesNaming) 29 = .ok (.invokestatic 66, 3) := by decide +kernel
theorem d_X4_loavesNaming_32 : decode (bc mX4_loavesNaming) 32 = .ok (.iconst 1, 1) := by decide +kernel
theorem d_X4_loavesNaming_33 : decode (bc mX4_loavesNaming) 33 = .ok (.if_icmp .ne 9, 3) := by decide +kernel
theorem d_X4_loavesNaming_36 : decode (bc mX4_loavesNaming) 36 = .ok (.iload_n 2, 1) := by decide +kernel
theorem d_X4_loavesNaming_37 : decode (bc mX4_loavesNaming) 37 = .ok (.iconst 1, 1) := by decide +kernel
theorem d_X4_loavesNaming_38 : decode (bc mX4_loavesNaming) 38 = .ok (.iload_n 3, 1) := by decide +kernel
theorem d_X4_loavesNaming_39 : decode (bc mX4_loavesNaming) 39 = .ok (.ishl, 1) := by decide +kernel
theorem d_X4_loavesNaming_40 : decode (bc mX4_loavesNaming) 40 = .ok (.ior, 1) := by decide +kernel
theorem d_X4_loavesNaming_41 : decode (bc mX4_loavesNaming) 41 = .ok (.istore_n 2, 1) := by decide +kernel
theorem d_X4_loavesNaming_42 : decode (bc mX4_loavesNaming) 42 = .ok (.iinc 3 1, 3) := by decide +kernel
theorem d_X4_loavesNaming_45 : decode (bc mX4_loavesNaming) 45 = .ok (.goto (-41), 3) := by decide +kernel
theorem d_X4_loavesNaming_48 : decode (bc mX4_loavesNaming) 48 = .ok (.iload_n 2, 1) := by decide +kernel
theorem d_X4_loavesNaming_49 : decode (bc mX4_loavesNaming) 49 = .ok (.ireturn, 1) := by decide +kernel
theorem d_X4_loavesWithRecipe_0 : decode (bc mX4_loavesWithRecipe) 0 = .ok (.iconst 0, 1) := by decide +kernel
theorem d_X4_loavesWithRecipe_1 : decode (bc mX4_loavesWithRecipe) 1 = .ok (.istore_n 1, 1) := by decide +kernel
theorem d_X4_loavesWithRecipe_2 : decode (bc mX4_loavesWithRecipe) 2 = .ok (.iconst 0, 1) := by decide +kernel
theorem d_X4_loavesWithRecipe_3 : decode (bc mX4_loavesWithRecipe) 3 = .ok (.istore_n 2, 1) := by decide +kernel
theorem d_X4_loavesWithRecipe_4 : decode (bc mX4_loavesWithRecipe) 4 = .ok (.iload_n 2, 1) := by decide +kernel
theorem d_X4_loavesWithRecipe_5 : decode (bc mX4_loavesWithRecipe) 5 = .ok (.bipush 6, 2) := by decide +kernel
theorem d_X4_loavesWithRecipe_7 : decode (bc mX4_loavesWithRecipe) 7 = .ok (.if_icmp .ge 24, 3) := by decide +kernel
theorem d_X4_loavesWithRecipe_10 : decode (bc mX4_loavesWithRecipe) 10 = .ok (.aload_n 0, 1) := by decide +kernel
theorem d_X4_loavesWithRecipe_11 : decode (bc mX4_loavesWithRecipe) 11 = .ok (.getfield 20, 3) := by decide +kernel
theorem d_X4_loavesWithRecipe_14 : decode (bc mX4_loavesWithRecipe) 14 = .ok (.iload_n 2, 1) := by decide +kernel
theorem d_X4_loavesWithRecipe_15 : decode (bc mX4_loavesWithRecipe) 15 = .ok (.aaload, 1) := by decide +kernel
theorem d_X4_loavesWithRecipe_16 : decode (bc mX4_loavesWithRecipe) 16 = .ok (.ifnull 9, 3) := by decide +kernel
theorem d_X4_loavesWithRecipe_19 : decode (bc mX4_loavesWithRecipe) 19 = .ok (.iload_n 1, 1) := by decide +kernel
theorem d_X4_loavesWithRecipe_20 : decode (bc mX4_loavesWithRecipe) 20 = .ok (.iconst 1, 1) := by decide +kernel
theorem d_X4_loavesWithRecipe_21 : decode (bc mX4_loavesWithRecipe) 21 = .ok (.iload_n 2, 1) := by decide +kernel
theorem d_X4_loavesWithRecipe_22 : decode (bc mX4_loavesWithRecipe) 22 = .ok (.ishl, 1) := by decide +kernel
theorem d_X4_loavesWithRecipe_23 : decode (bc mX4_loavesWithRecipe) 23 = .ok (.ior, 1) := by decide +kernel
theorem d_X4_loavesWithRecipe_24 : decode (bc mX4_loavesWithRecipe) 24 = .ok (.istore_n 1, 1) := by decide +kernel
theorem d_X4_loavesWithRecipe_25 : decode (bc mX4_loavesWithRecipe) 25 = .ok (.iinc 2 1, 3) := by decide +kernel
theorem d_X4_loavesWithRecipe_28 : decode (bc mX4_loavesWithRecipe) 28 = .ok (.goto (-24), 3) := by decide +kernel
theorem d_X4_loavesWithRecipe_31 : decode (bc mX4_loavesWithRecipe) 31 = .ok (.iload_n 1, 1) := by decide +kernel
theorem d_X4_loavesWithRecipe_32 : decode (bc mX4_loavesWithRecipe) 32 = .ok (.ireturn, 1) := by decide +kernel
theorem d_X4_memoriesOf_0 : decode (bc mX4_memoriesOf) 0 = .ok (.iconst 0, 1) := by decide +kernel
theorem d_X4_memoriesOf_1 : decode (bc mX4_memoriesOf) 1 = .ok (.istore_n 2, 1) := by decide +kernel
theorem d_X4_memoriesOf_2 : decode (bc mX4_memoriesOf) 2 = .ok (.iconst 0, 1) := by decide +kernel
theorem d_X4_memoriesOf_3 : decode (bc mX4_memoriesOf) 3 = .ok (.istore_n 3, 1) := by decide +kernel
theorem d_X4_memoriesOf_4 : decode (bc mX4_memoriesOf) 4 = .ok (.iload_n 3, 1) := by decide +kernel
theorem d_X4_memoriesOf_5 : decode (bc mX4_memoriesOf) 5 = .ok (.aload_n 0, 1) := by decide +kernel
theorem d_X4_memoriesOf_6 : decode (bc mX4_memoriesOf) 6 = .ok (.getfield 47, 3) := by decide +kernel
theorem d_X4_memoriesOf_9 : decode (bc mX4_memoriesOf) 9 = .ok (.if_icmp .ge 25, 3) := by decide +kernel
theorem d_X4_memoriesOf_12 : decode (bc mX4_memoriesOf) 12 = .ok (.aload_n 0, 1) := by decide +kernel
theorem d_X4_memoriesOf_13 : decode (bc mX4_memoriesOf) 13 = .ok (.getfield 26, 3) := by decide +kernel
theorem d_X4_memoriesOf_16 : decode (bc mX4_memoriesOf) 16 = .ok (.iload_n 3, 1) := by decide +kernel
theorem d_X4_memoriesOf_17 : decode (bc mX4_memoriesOf) 17 = .ok (.aaload, 1) := by decide +kernel
theorem d_X4_memoriesOf_18 : decode (bc mX4_memoriesOf) 18 = .ok (.getfield 70, 3) := by decide +kernel
theorem d_X4_memoriesOf_21 : decode (bc mX4_memoriesOf) 21 = .ok (.iload_n 1, 1) := by decide +kernel
theorem d_X4_memoriesOf_22 : decode (bc mX4_memoriesOf) 22 = .ok (.if_icmp .ne 6, 3) := by decide +kernel
theorem d_X4_memoriesOf_25 : decode (bc mX4_memoriesOf) 25 = .ok (.iinc 2 1, 3) := by decide +kernel
theorem d_X4_memoriesOf_28 : decode (bc mX4_memoriesOf) 28 = .ok (.iinc 3 1, 3) := by decide +kernel
theorem d_X4_memoriesOf_31 : decode (bc mX4_memoriesOf) 31 = .ok (.goto (-27), 3) := by decide +kernel
theorem d_X4_memoriesOf_34 : decode (bc mX4_memoriesOf) 34 = .ok (.iload_n 2, 1) := by decide +kernel
theorem d_X4_memoriesOf_35 : decode (bc mX4_memoriesOf) 35 = .ok (.ireturn, 1) := by decide +kernel
theorem d_X4_serialsOf_0 : decode (bc mX4_serialsOf) 0 = .ok (.iconst 0, 1) := by decide +kernel
theorem d_X4_serialsOf_1 : decode (bc mX4_serialsOf) 1 = .ok (.istore_n 3, 1) := by decide +kernel
theorem d_X4_serialsOf_2 : decode (bc mX4_serialsOf) 2 = .ok (.iconst 0, 1) := by decide +kernel
theorem d_X4_serialsOf_3 : decode (bc mX4_serialsOf) 3 = .ok (.istore 4, 2) := by decide +kernel
theorem d_X4_serialsOf_5 : decode (bc mX4_serialsOf) 5 = .ok (.iload 4, 2) := by decide +kernel
theorem d_X4_serialsOf_7 : decode (bc mX4_serialsOf) 7 = .ok (.aload_n 0, 1) := by decide +kernel
theorem d_X4_serialsOf_8 : decode (bc mX4_serialsOf) 8 = .ok (.getfield 47, 3) := by decide +kernel
theorem d_X4_serialsOf_11 : decode (bc mX4_serialsOf) 11 = .ok (.if_icmp .ge 45, 3) := by decide +kernel
theorem d_X4_serialsOf_14 : decode (bc mX4_serialsOf) 14 = .ok (.aload_n 0, 1) := by decide +kernel
theorem d_X4_serialsOf_15 : decode (bc mX4_serialsOf) 15 = .ok (.getfield 26, 3) := by decide +kernel
theorem d_X4_serialsOf_18 : decode (bc mX4_serialsOf) 18 = .ok (.iload 4, 2) := by decide +kernel
theorem d_X4_serialsOf_20 : decode (bc mX4_serialsOf) 20 = .ok (.aaload, 1) := by decide +kernel
theorem d_X4_serialsOf_21 : decode (bc mX4_serialsOf) 21 = .ok (.getfield 70, 3) := by decide +kernel
theorem d_X4_serialsOf_24 : decode (bc mX4_serialsOf) 24 = .ok (.iload_n 1, 1) := by decide +kernel
theorem d_X4_serialsOf_25 : decode (bc mX4_serialsOf) 25 = .ok (.if_icmp .ne 25, 3) := by decide +kernel
theorem d_X4_serialsOf_28 : decode (bc mX4_serialsOf) 28 = .ok (.iload_n 3, 1) := by decide +kernel
theorem d_X4_serialsOf_29 : decode (bc mX4_serialsOf) 29 = .ok (.aload_n 2, 1) := by decide +kernel
theorem d_X4_serialsOf_30 : decode (bc mX4_serialsOf) 30 = .ok (.arraylength, 1) := by decide +kernel
theorem d_X4_serialsOf_31 : decode (bc mX4_serialsOf) 31 = .ok (.if_icmp .ge 19, 3) := by decide +kernel
theorem d_X4_serialsOf_34 : decode (bc mX4_serialsOf) 34 = .ok (.aload_n 2, 1) := by decide +kernel
theorem d_X4_serialsOf_35 : decode (bc mX4_serialsOf) 35 = .ok (.iload_n 3, 1) := by decide +kernel
theorem d_X4_serialsOf_36 : decode (bc mX4_serialsOf) 36 = .ok (.aload_n 0, 1) := by decide +kernel
theorem d_X4_serialsOf_37 : decode (bc mX4_serialsOf) 37 = .ok (.getfield 26, 3) := by decide +kernel
theorem d_X4_serialsOf_40 : decode (bc mX4_serialsOf) 40 = .ok (.iload 4, 2) := by decide +kernel
theorem d_X4_serialsOf_42 : decode (bc mX4_serialsOf) 42 = .ok (.aaload, 1) := by decide +kernel
theorem d_X4_serialsOf_43 : decode (bc mX4_serialsOf) 43 = .ok (.getfield 73, 3) := by decide +kernel
theorem d_X4_serialsOf_46 : decode (bc mX4_serialsOf) 46 = .ok (.iastore, 1) := by decide +kernel
theorem d_X4_serialsOf_47 : decode (bc mX4_serialsOf) 47 = .ok (.iinc 3 1, 3) := by decide +kernel
theorem d_X4_serialsOf_50 : decode (bc mX4_serialsOf) 50 = .ok (.iinc 4 1, 3) := by decide +kernel
theorem d_X4_serialsOf_53 : decode (bc mX4_serialsOf) 53 = .ok (.goto (-48), 3) := by decide +kernel
theorem d_X4_serialsOf_56 : decode (bc mX4_serialsOf) 56 = .ok (.iload_n 3, 1) := by decide +kernel
theorem d_X4_serialsOf_57 : decode (bc mX4_serialsOf) 57 = .ok (.ireturn, 1) := by decide +kernel
theorem d_X4_placeOfSerial_0 : decode (bc mX4_placeOfSerial) 0 = .ok (.iconst 0, 1) := by decide +kernel
theorem d_X4_placeOfSerial_1 : decode (bc mX4_placeOfSerial) 1 = .ok (.istore_n 2, 1) := by decide +kernel
theorem d_X4_placeOfSerial_2 : decode (bc mX4_placeOfSerial) 2 = .ok (.iload_n 2, 1) := by decide +kernel
theorem d_X4_placeOfSerial_3 : decode (bc mX4_placeOfSerial) 3 = .ok (.aload_n 0, 1) := by decide +kernel
theorem d_X4_placeOfSerial_4 : decode (bc mX4_placeOfSerial) 4 = .ok (.getfield 47, 3) := by decide +kernel
theorem d_X4_placeOfSerial_7 : decode (bc mX4_placeOfSerial) 7 = .ok (.if_icmp .ge 24, 3) := by decide +kernel
theorem d_X4_placeOfSerial_10 : decode (bc mX4_placeOfSerial) 10 = .ok (.aload_n 0, 1) := by decide +kernel
theorem d_X4_placeOfSerial_11 : decode (bc mX4_placeOfSerial) 11 = .ok (.getfield 26, 3) := by decide +kernel
theorem d_X4_placeOfSerial_14 : decode (bc mX4_placeOfSerial) 14 = .ok (.iload_n 2, 1) := by decide +kernel
theorem d_X4_placeOfSerial_15 : decode (bc mX4_placeOfSerial) 15 = .ok (.aaload, 1) := by decide +kernel
theorem d_X4_placeOfSerial_16 : decode (bc mX4_placeOfSerial) 16 = .ok (.getfield 73, 3) := by decide +kernel
theorem d_X4_placeOfSerial_19 : decode (bc mX4_placeOfSerial) 19 = .ok (.iload_n 1, 1) := by decide +kernel
theorem d_X4_placeOfSerial_20 : decode (bc mX4_placeOfSerial) 20 = .ok (.if_icmp .ne 5, 3) := by decide +kernel
theorem d_X4_placeOfSerial_23 : decode (bc mX4_placeOfSerial) 23 = .ok (.iload_n 2, 1) := by decide +kernel
theorem d_X4_placeOfSerial_24 : decode (bc mX4_placeOfSerial) 24 = .ok (.ireturn, 1) := by decide +kernel
theorem d_X4_placeOfSerial_25 : decode (bc mX4_placeOfSerial) 25 = .ok (.iinc 2 1, 3) := by decide +kernel
theorem d_X4_placeOfSerial_28 : decode (bc mX4_placeOfSerial) 28 = .ok (.goto (-26), 3) := by decide +kernel
theorem d_X4_placeOfSerial_31 : decode (bc mX4_placeOfSerial) 31 = .ok (.iconst (-1), 1) := by decide +kernel
theorem d_X4_placeOfSerial_32 : decode (bc mX4_placeOfSerial) 32 = .ok (.ireturn, 1) := by decide +kernel
theorem d_X4_use_0 : decode (bc mX4_use) 0 = .ok (.iload_n 1, 1) := by decide +kernel
theorem d_X4_use_1 : decode (bc mX4_use) 1 = .ok (.ifCond .lt 11, 3) := by decide +kernel
theorem d_X4_use_4 : decode (bc mX4_use) 4 = .ok (.iload_n 1, 1) := by decide +kernel
theorem d_X4_use_5 : decode (bc mX4_use) 5 = .ok (.aload_n 0, 1) := by decide +kernel
theorem d_X4_use_6 : decode (bc mX4_use) 6 = .ok (.getfield 47, 3) := by decide +kernel
theorem d_X4_use_9 : decode (bc mX4_use) 9 = .ok (.if_icmp .lt 4, 3) := by decide +kernel
theorem d_X4_use_12 : decode (bc mX4_use) 12 = .ok (.return_, 1) := by decide +kernel
theorem d_X4_use_13 : decode (bc mX4_use) 13 = .ok (.aload_n 0, 1) := by decide +kernel
theorem d_X4_use_14 : decode (bc mX4_use) 14 = .ok (.getfield 26, 3) := by decide +kernel
theorem d_X4_use_17 : decode (bc mX4_use) 17 = .ok (.iload_n 1, 1) := by decide +kernel
theorem d_X4_use_18 : decode (bc mX4_use) 18 = .ok (.aaload, 1) := by decide +kernel
theorem d_X4_use_19 : decode (bc mX4_use) 19 = .ok (.astore_n 2, 1) := by decide +kernel
theorem d_X4_use_20 : decode (bc mX4_use) 20 = .ok (.iload_n 1, 1) := by decide +kernel
theorem d_X4_use_21 : decode (bc mX4_use) 21 = .ok (.istore_n 3, 1) := by decide +kernel
theorem d_X4_use_22 : decode (bc mX4_use) 22 = .ok (.iload_n 3, 1) := by decide +kernel
theorem d_X4_use_23 : decode (bc mX4_use) 23 = .ok (.ifCond .le 23, 3) := by decide +kernel
theorem d_X4_use_26 : decode (bc mX4_use) 26 = .ok (.aload_n 0, 1) := by decide +kernel
theorem d_X4_use_27 : decode (bc mX4_use) 27 = .ok (.getfield 26, 3) := by decide +kernel
theorem d_X4_use_30 : decode (bc mX4_use) 30 = .ok (.iload_n 3, 1) := by decide +kernel
theorem d_X4_use_31 : decode (bc mX4_use) 31 = .ok (.aload_n 0, 1) := by decide +kernel
theorem d_X4_use_32 : decode (bc mX4_use) 32 = .ok (.getfield 26, 3) := by decide +kernel
theorem d_X4_use_35 : decode (bc mX4_use) 35 = .ok (.iload_n 3, 1) := by decide +kernel
theorem d_X4_use_36 : decode (bc mX4_use) 36 = .ok (.iconst 1, 1) := by decide +kernel
theorem d_X4_use_37 : decode (bc mX4_use) 37 = .ok (.isub, 1) := by decide +kernel
theorem d_X4_use_38 : decode (bc mX4_use) 38 = .ok (.aaload, 1) := by decide +kernel
theorem d_X4_use_39 : decode (bc mX4_use) 39 = .ok (.aastore, 1) := by decide +kernel
theorem d_X4_use_40 : decode (bc mX4_use) 40 = .ok (.iinc 3 (-1), 3) := by decide +kernel
theorem d_X4_use_43 : decode (bc mX4_use) 43 = .ok (.goto (-21), 3) := by decide +kernel
theorem d_X4_use_46 : decode (bc mX4_use) 46 = .ok (.aload_n 0, 1) := by decide +kernel
theorem d_X4_use_47 : decode (bc mX4_use) 47 = .ok (.getfield 26, 3) := by decide +kernel
theorem d_X4_use_50 : decode (bc mX4_use) 50 = .ok (.iconst 0, 1) := by decide +kernel
theorem d_X4_use_51 : decode (bc mX4_use) 51 = .ok (.aload_n 2, 1) := by decide +kernel
theorem d_X4_use_52 : decode (bc mX4_use) 52 = .ok (.aastore, 1) := by decide +kernel
theorem d_X4_use_53 : decode (bc mX4_use) 53 = .ok (.aload_n 2, 1) := by decide +kernel
theorem d_X4_use_54 : decode (bc mX4_use) 54 = .ok (.dup, 1) := by decide +kernel
theorem d_X4_use_55 : decode (bc mX4_use) 55 = .ok (.getfield 76, 3) := by decide +kernel
theorem d_X4_use_58 : decode (bc mX4_use) 58 = .ok (.iconst 1, 1) := by decide +kernel
theorem d_X4_use_59 : decode (bc mX4_use) 59 = .ok (.iadd, 1) := by decide +kernel
theorem d_X4_use_60 : decode (bc mX4_use) 60 = .ok (.putfield 76, 3) := by decide +kernel
theorem d_X4_use_63 : decode (bc mX4_use) 63 = .ok (.return_, 1) := by decide +kernel
theorem d_X4_keepMemory_0 : decode (bc mX4_keepMemory) 0 = .ok (.aload_n 0, 1) := by decide +kernel
theorem d_X4_keepMemory_1 : decode (bc mX4_keepMemory) 1 = .ok (.getfield 47, 3) := by decide +kernel
theorem d_X4_keepMemory_4 : decode (bc mX4_keepMemory) 4 = .ok (.aload_n 0, 1) := by decide +kernel
theorem d_X4_keepMemory_5 : decode (bc mX4_keepMemory) 5 = .ok (.getfield 26, 3) := by decide +kernel
theorem d_X4_keepMemory_8 : decode (bc mX4_keepMemory) 8 = .ok (.arraylength, 1) := by decide +kernel
theorem d_X4_keepMemory_9 : decode (bc mX4_keepMemory) 9 = .ok (.if_icmp .lt 4, 3) := by decide +kernel
theorem d_X4_keepMemory_12 : decode (bc mX4_keepMemory) 12 = .ok (.return_, 1) := by decide +kernel
theorem d_X4_keepMemory_13 : decode (bc mX4_keepMemory) 13 = .ok (.aload_n 0, 1) := by decide +kernel
theorem d_X4_keepMemory_14 : decode (bc mX4_keepMemory) 14 = .ok (.dup, 1) := by decide +kernel
theorem d_X4_keepMemory_15 : decode (bc mX4_keepMemory) 15 = .ok (.getfield 54, 3) := by decide +kernel
theorem d_X4_keepMemory_18 : decode (bc mX4_keepMemory) 18 = .ok (.iconst 1, 1) := by decide +kernel
theorem d_X4_keepMemory_19 : decode (bc mX4_keepMemory) 19 = .ok (.iadd, 1) := by decide +kernel
theorem d_X4_keepMemory_20 : decode (bc mX4_keepMemory) 20 = .ok (.putfield 54, 3) := by decide +kernel
theorem d_X4_keepMemory_23 : decode (bc mX4_keepMemory) 23 = .ok (.aload_n 0, 1) := by decide +kernel
theorem d_X4_keepMemory_24 : decode (bc mX4_keepMemory) 24 = .ok (.getfield 26, 3) := by decide +kernel
theorem d_X4_keepMemory_27 : decode (bc mX4_keepMemory) 27 = .ok (.aload_n 0, 1) := by decide +kernel
theorem d_X4_keepMemory_28 : decode (bc mX4_keepMemory) 28 = .ok (.getfield 47, 3) := by decide +kernel
theorem d_X4_keepMemory_31 : decode (bc mX4_keepMemory) 31 = .ok (.aaload, 1) := by decide +kernel
theorem d_X4_keepMemory_32 : decode (bc mX4_keepMemory) 32 = .ok (.aload_n 1, 1) := by decide +kernel
theorem d_X4_keepMemory_33 : decode (bc mX4_keepMemory) 33 = .ok (.invokevirtual 50, 3) := by decide +kernel
theorem d_X4_keepMemory_36 : decode (bc mX4_keepMemory) 36 = .ok (.aload_n 0, 1) := by decide +kernel
theorem d_X4_keepMemory_37 : decode (bc mX4_keepMemory) 37 = .ok (.getfield 26, 3) := by decide +kernel
theorem d_X4_keepMemory_40 : decode (bc mX4_keepMemory) 40 = .ok (.aload_n 0, 1) := by decide +kernel
theorem d_X4_keepMemory_41 : decode (bc mX4_keepMemory) 41 = .ok (.getfield 47, 3) := by decide +kernel
theorem d_X4_keepMemory_44 : decode (bc mX4_keepMemory) 44 = .ok (.aaload, 1) := by decide +kernel
theorem d_X4_keepMemory_45 : decode (bc mX4_keepMemory) 45 = .ok (.aload_n 0, 1) := by decide +kernel
theorem d_X4_keepMemory_46 : decode (bc mX4_keepMemory) 46 = .ok (.getfield 54, 3) := by decide +kernel
theorem d_X4_keepMemory_49 : decode (bc mX4_keepMemory) 49 = .ok (.putfield 73, 3) := by decide +kernel
theorem d_X4_keepMemory_52 : decode (bc mX4_keepMemory) 52 = .ok (.aload_n 0, 1) := by decide +kernel
theorem d_X4_keepMemory_53 : decode (bc mX4_keepMemory) 53 = .ok (.dup, 1) := by decide +kernel
theorem d_X4_keepMemory_54 : decode (bc mX4_keepMemory) 54 = .ok (.getfield 47, 3) := by decide +kernel
theorem d_X4_keepMemory_57 : decode (bc mX4_keepMemory) 57 = .ok (.iconst 1, 1) := by decide +kernel
theorem d_X4_keepMemory_58 : decode (bc mX4_keepMemory) 58 = .ok (.iadd, 1) := by decide +kernel
theorem d_X4_keepMemory_59 : decode (bc mX4_keepMemory) 59 = .ok (.putfield 47, 3) := by decide +kernel
theorem d_X4_keepMemory_62 : decode (bc mX4_keepMemory) 62 = .ok (.aload_n 0, 1) := by decide +kernel
theorem d_X4_keepMemory_63 : decode (bc mX4_keepMemory) 63 = .ok (.aload_n 0, 1) := by decide +kernel
theorem d_X4_keepMemory_64 : decode (bc mX4_keepMemory) 64 = .ok (.getfield 47, 3) := by decide +kernel
theorem d_X4_keepMemory_67 : decode (bc mX4_keepMemory) 67 = .ok (.iconst 1, 1) := by decide +kernel
theorem d_X4_keepMemory_68 : decode (bc mX4_keepMemory) 68 = .ok (.isub, 1) := by decide +kernel
theorem d_X4_keepMemory_69 : decode (bc mX4_keepMemory) 69 = .ok (.invokevirtual 79, 3) := by decide +kernel
theorem d_X4_keepMemory_72 : decode (bc mX4_keepMemory) 72 = .ok (.aload_n 0, 1) := by decide +kernel
theorem d_X4_keepMemory_73 : decode (bc mX4_keepMemory) 73 = .ok (.invokevirtual 83, 3) := by decide +kernel
theorem d_X4_keepMemory_76 : decode (bc mX4_keepMemory) 76 = .ok (.return_, 1) := by decide +kernel
theorem d_X4_dropBeyondRoom_0 : decode (bc mX4_dropBeyondRoom) 0 = .ok (.aload_n 0, 1) := by decide +kernel
theorem d_X4_dropBeyondRoom_1 : decode (bc mX4_dropBeyondRoom) 1 = .ok (.getfield 47, 3) := by decide +kernel
theorem d_X4_dropBeyondRoom_4 : decode (bc mX4_dropBeyondRoom) 4 = .ok (.iconst 1, 1) := by decide +kernel
theorem d_X4_dropBeyondRoom_5 : decode (bc mX4_dropBeyondRoom) 5 = .ok (.isub, 1) := by decide +kernel
theorem d_X4_dropBeyondRoom_6 : decode (bc mX4_dropBeyondRoom) 6 = .ok (.istore_n 1, 1) := by decide +kernel
theorem d_X4_dropBeyondRoom_7 : decode (bc mX4_dropBeyondRoom) 7 = .ok (.iload_n 1, 1) := by decide +kernel
theorem d_X4_dropBeyondRoom_8 : decode (bc mX4_dropBeyondRoom) 8 = .ok (.aload_n 0, 1) := by decide +kernel
theorem d_X4_dropBeyondRoom_9 : decode (bc mX4_dropBeyondRoom) 9 = .ok (.getfield 15, 3) := by decide +kernel
theorem d_X4_dropBeyondRoom_12 : decode (bc mX4_dropBeyondRoom) 12 = .ok (.iconst 0, 1) := by decide +kernel
theorem d_X4_dropBeyondRoom_13 : decode (bc mX4_dropBeyondRoom) 13 = .ok (.iaload, 1) := by decide +kernel
theorem d_X4_dropBeyondRoom_14 : decode (bc mX4_dropBeyondRoom) 14 = .ok (.if_icmp .lt 14, 3) := by decide +kernel
theorem d_X4_dropBeyondRoom_17 : decode (bc mX4_dropBeyondRoom) 17 = .ok (.aload_n 0, 1) := by decide +kernel
theorem d_X4_dropBeyondRoom_18 : decode (bc mX4_dropBeyondRoom) 18 = .ok (.iload_n 1, 1) := by decide +kernel
theorem d_X4_dropBeyondRoom_19 : decode (bc mX4_dropBeyondRoom) 19 = .ok (.invokevirtual 86, 3) := by decide +kernel
theorem d_X4_dropBeyondRoom_22 : decode (bc mX4_dropBeyondRoom) 22 = .ok (.iinc 1 (-1), 3) := by decide +kernel
theorem d_X4_dropBeyondRoom_25 : decode (bc mX4_dropBeyondRoom) 25 = .ok (.goto (-18), 3) := by decide +kernel
theorem d_X4_dropBeyondRoom_28 : decode (bc mX4_dropBeyondRoom) 28 = .ok (.return_, 1) := by decide +kernel
theorem d_X4_dropAllOf_0 : decode (bc mX4_dropAllOf) 0 = .ok (.aload_n 0, 1) := by decide +kernel
theorem d_X4_dropAllOf_1 : decode (bc mX4_dropAllOf) 1 = .ok (.getfield 47, 3) := by decide +kernel
theorem d_X4_dropAllOf_4 : decode (bc mX4_dropAllOf) 4 = .ok (.iconst 1, 1) := by decide +kernel
theorem d_X4_dropAllOf_5 : decode (bc mX4_dropAllOf) 5 = .ok (.isub, 1) := by decide +kernel
theorem d_X4_dropAllOf_6 : decode (bc mX4_dropAllOf) 6 = .ok (.istore_n 2, 1) := by decide +kernel
theorem d_X4_dropAllOf_7 : decode (bc mX4_dropAllOf) 7 = .ok (.iload_n 2, 1) := by decide +kernel
theorem d_X4_dropAllOf_8 : decode (bc mX4_dropAllOf) 8 = .ok (.ifCond .lt 27, 3) := by decide +kernel
theorem d_X4_dropAllOf_11 : decode (bc mX4_dropAllOf) 11 = .ok (.aload_n 0, 1) := by decide +kernel
theorem d_X4_dropAllOf_12 : decode (bc mX4_dropAllOf) 12 = .ok (.getfield 26, 3) := by decide +kernel
theorem d_X4_dropAllOf_15 : decode (bc mX4_dropAllOf) 15 = .ok (.iload_n 2, 1) := by decide +kernel
theorem d_X4_dropAllOf_16 : decode (bc mX4_dropAllOf) 16 = .ok (.aaload, 1) := by decide +kernel
theorem d_X4_dropAllOf_17 : decode (bc mX4_dropAllOf) 17 = .ok (.getfield 70, 3) := by decide +kernel
theorem d_X4_dropAllOf_20 : decode (bc mX4_dropAllOf) 20 = .ok (.iload_n 1, 1) := by decide +kernel
theorem d_X4_dropAllOf_21 : decode (bc mX4_dropAllOf) 21 = .ok (.if_icmp .ne 8, 3) := by decide +kernel
theorem d_X4_dropAllOf_24 : decode (bc mX4_dropAllOf) 24 = .ok (.aload_n 0, 1) := by decide +kernel
theorem d_X4_dropAllOf_25 : decode (bc mX4_dropAllOf) 25 = .ok (.iload_n 2, 1) := by decide +kernel
theorem d_X4_dropAllOf_26 : decode (bc mX4_dropAllOf) 26 = .ok (.invokevirtual 86, 3) := by decide +kernel
theorem d_X4_dropAllOf_29 : decode (bc mX4_dropAllOf) 29 = .ok (.iinc 2 (-1), 3) := by decide +kernel
theorem d_X4_dropAllOf_32 : decode (bc mX4_dropAllOf) 32 = .ok (.goto (-25), 3) := by decide +kernel
theorem d_X4_dropAllOf_35 : decode (bc mX4_dropAllOf) 35 = .ok (.return_, 1) := by decide +kernel
theorem d_X4_drop_0 : decode (bc mX4_drop) 0 = .ok (.iload_n 1, 1) := by decide +kernel
theorem d_X4_drop_1 : decode (bc mX4_drop) 1 = .ok (.ifCond .lt 11, 3) := by decide +kernel
theorem d_X4_drop_4 : decode (bc mX4_drop) 4 = .ok (.iload_n 1, 1) := by decide +kernel
theorem d_X4_drop_5 : decode (bc mX4_drop) 5 = .ok (.aload_n 0, 1) := by decide +kernel
theorem d_X4_drop_6 : decode (bc mX4_drop) 6 = .ok (.getfield 47, 3) := by decide +kernel
theorem d_X4_drop_9 : decode (bc mX4_drop) 9 = .ok (.if_icmp .lt 4, 3) := by decide +kernel
theorem d_X4_drop_12 : decode (bc mX4_drop) 12 = .ok (.return_, 1) := by decide +kernel
theorem d_X4_drop_13 : decode (bc mX4_drop) 13 = .ok (.aload_n 0, 1) := by decide +kernel
theorem d_X4_drop_14 : decode (bc mX4_drop) 14 = .ok (.getfield 26, 3) := by decide +kernel
theorem d_X4_drop_17 : decode (bc mX4_drop) 17 = .ok (.iload_n 1, 1) := by decide +kernel
theorem d_X4_drop_18 : decode (bc mX4_drop) 18 = .ok (.aaload, 1) := by decide +kernel
theorem d_X4_drop_19 : decode (bc mX4_drop) 19 = .ok (.astore_n 2, 1) := by decide +kernel
theorem d_X4_drop_20 : decode (bc mX4_drop) 20 = .ok (.aload_n 0, 1) := by decide +kernel
theorem d_X4_drop_21 : decode (bc mX4_drop) 21 = .ok (.dup, 1) := by decide +kernel
theorem d_X4_drop_22 : decode (bc mX4_drop) 22 = .ok (.getfield 47, 3) := by decide +kernel
theorem d_X4_drop_25 : decode (bc mX4_drop) 25 = .ok (.iconst 1, 1) := by decide +kernel
theorem d_X4_drop_26 : decode (bc mX4_drop) 26 = .ok (.isub, 1) := by decide +kernel
theorem d_X4_drop_27 : decode (bc mX4_drop) 27 = .ok (.putfield 47, 3) := by decide +kernel
theorem d_X4_drop_30 : decode (bc mX4_drop) 30 = .ok (.iload_n 1, 1) := by decide +kernel
theorem d_X4_drop_31 : decode (bc mX4_drop) 31 = .ok (.istore_n 3, 1) := by decide +kernel
theorem d_X4_drop_32 : decode (bc mX4_drop) 32 = .ok (.iload_n 3, 1) := by decide +kernel
theorem d_X4_drop_33 : decode (bc mX4_drop) 33 = .ok (.aload_n 0, 1) := by decide +kernel
theorem d_X4_drop_34 : decode (bc mX4_drop) 34 = .ok (.getfield 47, 3) := by decide +kernel
theorem d_X4_drop_37 : decode (bc mX4_drop) 37 = .ok (.if_icmp .ge 23, 3) := by decide +kernel
theorem d_X4_drop_40 : decode (bc mX4_drop) 40 = .ok (.aload_n 0, 1) := by decide +kernel
theorem d_X4_drop_41 : decode (bc mX4_drop) 41 = .ok (.getfield 26, 3) := by decide +kernel
theorem d_X4_drop_44 : decode (bc mX4_drop) 44 = .ok (.iload_n 3, 1) := by decide +kernel
theorem d_X4_drop_45 : decode (bc mX4_drop) 45 = .ok (.aload_n 0, 1) := by decide +kernel
theorem d_X4_drop_46 : decode (bc mX4_drop) 46 = .ok (.getfield 26, 3) := by decide +kernel
theorem d_X4_drop_49 : decode (bc mX4_drop) 49 = .ok (.iload_n 3, 1) := by decide +kernel
theorem d_X4_drop_50 : decode (bc mX4_drop) 50 = .ok (.iconst 1, 1) := by decide +kernel
theorem d_X4_drop_51 : decode (bc mX4_drop) 51 = .ok (.iadd, 1) := by decide +kernel
theorem d_X4_drop_52 : decode (bc mX4_drop) 52 = .ok (.aaload, 1) := by decide +kernel
theorem d_X4_drop_53 : decode (bc mX4_drop) 53 = .ok (.aastore, 1) := by decide +kernel
theorem d_X4_drop_54 : decode (bc mX4_drop) 54 = .ok (.iinc 3 1, 3) := by decide +kernel
theorem d_X4_drop_57 : decode (bc mX4_drop) 57 = .ok (.goto (-25), 3) := by decide +kernel
theorem d_X4_drop_60 : decode (bc mX4_drop) 60 = .ok (.aload_n 0, 1) := by decide +kernel
theorem d_X4_drop_61 : decode (bc mX4_drop) 61 = .ok (.getfield 26, 3) := by decide +kernel
theorem d_X4_drop_64 : decode (bc mX4_drop) 64 = .ok (.aload_n 0, 1) := by decide +kernel
theorem d_X4_drop_65 : decode (bc mX4_drop) 65 = .ok (.getfield 47, 3) := by decide +kernel
theorem d_X4_drop_68 : decode (bc mX4_drop) 68 = .ok (.aload_n 2, 1) := by decide +kernel
theorem d_X4_drop_69 : decode (bc mX4_drop) 69 = .ok (.aastore, 1) := by decide +kernel
theorem d_X4_drop_70 : decode (bc mX4_drop) 70 = .ok (.aload_n 2, 1) := by decide +kernel
theorem d_X4_drop_71 : decode (bc mX4_drop) 71 = .ok (.iconst 0, 1) := by decide +kernel
theorem d_X4_drop_72 : decode (bc mX4_drop) 72 = .ok (.putfield 73, 3) := by decide +kernel
theorem d_X4_drop_75 : decode (bc mX4_drop) 75 = .ok (.return_, 1) := by decide +kernel
theorem d_X5_init_0 : decode (bc mX5_init) 0 = .ok (.aload_n 0, 1) := by decide +kernel
theorem d_X5_init_1 : decode (bc mX5_init) 1 = .ok (.invokespecial 3, 3) := by decide +kernel
theorem d_X5_init_4 : decode (bc mX5_init) 4 = .ok (.aload_n 0, 1) := by decide +kernel
theorem d_X5_init_5 : decode (bc mX5_init) 5 = .ok (.bipush 60, 2) := by decide +kernel
theorem d_X5_init_7 : decode (bc mX5_init) 7 = .ok (.newarray .int, 2) := by decide +kernel
theorem d_X5_init_9 : decode (bc mX5_init) 9 = .ok (.putfield 9, 3) := by decide +kernel
theorem d_X5_init_12 : decode (bc mX5_init) 12 = .ok (.aload_n 0, 1) := by decide +kernel
theorem d_X5_init_13 : decode (bc mX5_init) 13 = .ok (.new 13, 3) := by decide +kernel
theorem d_X5_init_16 : decode (bc mX5_init) 16 = .ok (.dup, 1) := by decide +kernel
theorem d_X5_init_17 : decode (bc mX5_init) 17 = .ok (.invokespecial 15, 3) := by decide +kernel
theorem d_X5_init_20 : decode (bc mX5_init) 20 = .ok (.putfield 16, 3) := by decide +kernel
theorem d_X5_init_23 : decode (bc mX5_init) 23 = .ok (.aload_n 0, 1) := by decide +kernel
theorem d_X5_init_24 : decode (bc mX5_init) 24 = .ok (.bipush 6, 2) := by decide +kernel
theorem d_X5_init_26 : decode (bc mX5_init) 26 = .ok (.anewarray 13, 3) := by decide +kernel
theorem d_X5_init_29 : decode (bc mX5_init) 29 = .ok (.putfield 20, 3) := by decide +kernel
theorem d_X5_init_32 : decode (bc mX5_init) 32 = .ok (.aload_n 0, 1) := by decide +kernel
theorem d_X5_init_33 : decode (bc mX5_init) 33 = .ok (.iconst 2, 1) := by decide +kernel
theorem d_X5_init_34 : decode (bc mX5_init) 34 = .ok (.anewarray 13, 3) := by decide +kernel
theorem d_X5_init_37 : decode (bc mX5_init) 37 = .ok (.putfield 24, 3) := by decide +kernel
theorem d_X5_init_40 : decode (bc mX5_init) 40 = .ok (.aload_n 0, 1) := by decide +kernel
theorem d_X5_init_41 : decode (bc mX5_init) 41 = .ok (.iconst 2, 1) := by decide +kernel
theorem d_X5_init_42 : decode (bc mX5_init) 42 = .ok (.newarray .boolean, 2) := by decide +kernel
theorem d_X5_init_44 : decode (bc mX5_init) 44 = .ok (.putfield 27, 3) := by decide +kernel
theorem d_X5_init_47 : decode (bc mX5_init) 47 = .ok (.aload_n 0, 1) := by decide +kernel
theorem d_X5_init_48 : decode (bc mX5_init) 48 = .ok (.new 13, 3) := by decide +kernel
theorem d_X5_init_51 : decode (bc mX5_init) 51 = .ok (.dup, 1) := by decide +kernel
theorem d_X5_init_52 : decode (bc mX5_init) 52 = .ok (.invokespecial 15, 3) := by decide +kernel
theorem d_X5_init_55 : decode (bc mX5_init) 55 = .ok (.putfield 31, 3) := by decide +kernel
theorem d_X5_init_58 : decode (bc mX5_init) 58 = .ok (.aload_n 0, 1) := by decide +kernel
theorem d_X5_init_59 : decode (bc mX5_init) 59 = .ok (.new 34, 3) := by decide +kernel
theorem d_X5_init_62 : decode (bc mX5_init) 62 = .ok (.dup, 1) := by decide +kernel
theorem d_X5_init_63 : decode (bc mX5_init) 63 = .ok (.invokespecial 36, 3) := by decide +kernel
theorem d_X5_init_66 : decode (bc mX5_init) 66 = .ok (.putfield 37, 3) := by decide +kernel
theorem d_X5_init_69 : decode (bc mX5_init) 69 = .ok (.aload_n 0, 1) := by decide +kernel
theorem d_X5_init_70 : decode (bc mX5_init) 70 = .ok (.new 41, 3) := by decide +kernel
theorem d_X5_init_73 : decode (bc mX5_init) 73 = .ok (.dup, 1) := by decide +kernel
theorem d_X5_init_74 : decode (bc mX5_init) 74 = .ok (.invokespecial 43, 3) := by decide +kernel
theorem d_X5_init_77 : decode (bc mX5_init) 77 = .ok (.putfield 44, 3) := by decide +kernel
theorem d_X5_init_80 : decode (bc mX5_init) 80 = .ok (.iconst 0, 1) := by decide +kernel
theorem d_X5_init_81 : decode (bc mX5_init) 81 = .ok (.istore_n 1, 1) := by decide +kernel
theorem d_X5_init_82 : decode (bc mX5_init) 82 = .ok (.iload_n 1, 1) := by decide +kernel
theorem d_X5_init_83 : decode (bc mX5_init) 83 = .ok (.bipush 6, 2) := by decide +kernel
theorem d_X5_init_85 : decode (bc mX5_init) 85 = .ok (.if_icmp .ge 22, 3) := by decide +kernel
theorem d_X5_init_88 : decode (bc mX5_init) 88 = .ok (.aload_n 0, 1) := by decide +kernel
theorem d_X5_init_89 : decode (bc mX5_init) 89 = .ok (.getfield 20, 3) := by decide +kernel
theorem d_X5_init_92 : decode (bc mX5_init) 92 = .ok (.iload_n 1, 1) := by decide +kernel
theorem d_X5_init_93 : decode (bc mX5_init) 93 = .ok (.new 13, 3) := by decide +kernel
theorem d_X5_init_96 : decode (bc mX5_init) 96 = .ok (.dup, 1) := by decide +kernel
theorem d_X5_init_97 : decode (bc mX5_init) 97 = .ok (.invokespecial 15, 3) := by decide +kernel
theorem d_X5_init_100 : decode (bc mX5_init) 100 = .ok (.aastore, 1) := by decide +kernel
theorem d_X5_init_101 : decode (bc mX5_init) 101 = .ok (.iinc 1 1, 3) := by decide +kernel
theorem d_X5_init_104 : decode (bc mX5_init) 104 = .ok (.goto (-22), 3) := by decide +kernel
theorem d_X5_init_107 : decode (bc mX5_init) 107 = .ok (.iconst 0, 1) := by decide +kernel
theorem d_X5_init_108 : decode (bc mX5_init) 108 = .ok (.istore_n 1, 1) := by decide +kernel
theorem d_X5_init_109 : decode (bc mX5_init) 109 = .ok (.iload_n 1, 1) := by decide +kernel
theorem d_X5_init_110 : decode (bc mX5_init) 110 = .ok (.iconst 2, 1) := by decide +kernel
theorem d_X5_init_111 : decode (bc mX5_init) 111 = .ok (.if_icmp .ge 22, 3) := by decide +kernel
theorem d_X5_init_114 : decode (bc mX5_init) 114 = .ok (.aload_n 0, 1) := by decide +kernel
theorem d_X5_init_115 : decode (bc mX5_init) 115 = .ok (.getfield 24, 3) := by decide +kernel
theorem d_X5_init_118 : decode (bc mX5_init) 118 = .ok (.iload_n 1, 1) := by decide +kernel
theorem d_X5_init_119 : decode (bc mX5_init) 119 = .ok (.new 13, 3) := by decide +kernel
theorem d_X5_init_122 : decode (bc mX5_init) 122 = .ok (.dup, 1) := by decide +kernel
theorem d_X5_init_123 : decode (bc mX5_init) 123 = .ok (.invokespecial 15, 3) := by decide +kernel
theorem d_X5_init_126 : decode (bc mX5_init) 126 = .ok (.aastore, 1) := by decide +kernel
theorem d_X5_init_127 : decode (bc mX5_init) 127 = .ok (.iinc 1 1, 3) := by decide +kernel
theorem d_X5_init_130 : decode (bc mX5_init) 130 = .ok (.goto (-21), 3) := by decide +kernel
theorem d_X5_init_133 : decode (bc mX5_init) 133 = .ok (.return_, 1) := by decide +kernel
theorem d_X5_set_0 : decode (bc mX5_set) 0 = .ok (.iload_n 1, 1) := by decide +kernel
theorem d_X5_set_1 : decode (bc mX5_set) 1 = .ok (.iload_n 2, 1) := by decide +kernel
theorem d_X5_set_2 : decode (bc mX5_set) 2 = .ok (.invokestatic 48, 3) := by decide +kernel
theorem d_X5_set_5 : decode (bc mX5_set) 5 = .ok (.ifCond .ne 6, 3) := by decide +kernel
theorem d_X5_set_8 : decode (bc mX5_set) 8 = .ok (.bipush (-2), 2) := by decide +kernel
theorem d_X5_set_10 : decode (bc mX5_set) 10 = .ok (.ireturn, 1) := by decide +kernel
theorem d_X5_set_11 : decode (bc mX5_set) 11 = .ok (.aload_n 0, 1) := by decide +kernel
theorem d_X5_set_12 : decode (bc mX5_set) 12 = .ok (.invokevirtual 52, 3) := by decide +kernel
theorem d_X5_set_15 : decode (bc mX5_set) 15 = .ok (.aload_n 0, 1) := by decide +kernel
theorem d_X5_set_16 : decode (bc mX5_set) 16 = .ok (.getfield 16, 3) := by decide +kernel
theorem d_X5_set_19 : decode (bc mX5_set) 19 = .ok (.getfield 55, 3) := by decide +kernel
theorem d_X5_set_22 : decode (bc mX5_set) 22 = .ok (.iload_n 1, 1) := by decide +kernel
theorem d_X5_set_23 : decode (bc mX5_set) 23 = .ok (.iaload, 1) := by decide +kernel
theorem d_X5_set_24 : decode (bc mX5_set) 24 = .ok (.istore_n 3, 1) := by decide +kernel
theorem d_X5_set_25 : decode (bc mX5_set) 25 = .ok (.aload_n 0, 1) := by decide +kernel
theorem d_X5_set_26 : decode (bc mX5_set) 26 = .ok (.getfield 16, 3) := by decide +kernel
theorem d_X5_set_29 : decode (bc mX5_set) 29 = .ok (.getfield 55, 3) := by decide +kernel
theorem d_X5_set_32 : decode (bc mX5_set) 32 = .ok (.iload_n 1, 1) := by decide +kernel
theorem d_X5_set_33 : decode (bc mX5_set) 33 = .ok (.iload_n 2, 1) := by decide +kernel
theorem d_X5_set_34 : decode (bc mX5_set) 34 = .ok (.iastore, 1) := by decide +kernel
theorem d_X5_set_35 : decode (bc mX5_set) 35 = .ok (.aload_n 0, 1) := by decide +kernel
theorem d_X5_set_36 : decode (bc mX5_set) 36 = .ok (.getfield 16, 3) := by decide +kernel
theorem d_X5_set_39 : decode (bc mX5_set) 39 = .ok (.invokevirtual 58, 3) := by decide +kernel
theorem d_X5_set_42 : decode (bc mX5_set) 42 = .ok (.iload_n 3, 1) := by decide +kernel
theorem d_X5_set_43 : decode (bc mX5_set) 43 = .ok (.ireturn, 1) := by decide +kernel
theorem d_X5_put_0 : decode (bc mX5_put) 0 = .ok (.iload_n 1, 1) := by decide +kernel
theorem d_X5_put_1 : decode (bc mX5_put) 1 = .ok (.invokestatic 61, 3) := by decide +kernel
theorem d_X5_put_4 : decode (bc mX5_put) 4 = .ok (.ifCond .ne 5, 3) := by decide +kernel
theorem d_X5_put_7 : decode (bc mX5_put) 7 = .ok (.iconst (-1), 1) := by decide +kernel
theorem d_X5_put_8 : decode (bc mX5_put) 8 = .ok (.ireturn, 1) := by decide +kernel
theorem d_X5_put_9 : decode (bc mX5_put) 9 = .ok (.iload_n 2, 1) := by decide +kernel
theorem d_X5_put_10 : decode (bc mX5_put) 10 = .ok (.invokestatic 65, 3) := by decide +kernel
theorem d_X5_put_13 : decode (bc mX5_put) 13 = .ok (.ifCond .ne 6, 3) := by decide +kernel
theorem d_X5_put_16 : decode (bc mX5_put) 16 = .ok (.bipush (-2), 2) := by decide +kernel
theorem d_X5_put_18 : decode (bc mX5_put) 18 = .ok (.ireturn, 1) := by decide +kernel
theorem d_X5_put_19 : decode (bc mX5_put) 19 = .ok (.aload_n 0, 1) := by decide +kernel
theorem d_X5_put_20 : decode (bc mX5_put) 20 = .ok (.invokevirtual 52, 3) := by decide +kernel
theorem d_X5_put_23 : decode (bc mX5_put) 23 = .ok (.aload_n 0, 1) := by decide +kernel
theorem d_X5_put_24 : decode (bc mX5_put) 24 = .ok (.getfield 16, 3) := by decide +kernel
theorem d_X5_put_27 : decode (bc mX5_put) 27 = .ok (.getfield 68, 3) := by decide +kernel
theorem d_X5_put_30 : decode (bc mX5_put) 30 = .ok (.iload_n 1, 1) := by decide +kernel
theorem d_X5_put_31 : decode (bc mX5_put) 31 = .ok (.iaload, 1) := by decide +kernel
theorem d_X5_put_32 : decode (bc mX5_put) 32 = .ok (.istore_n 3, 1) := by decide +kernel
theorem d_X5_put_33 : decode (bc mX5_put) 33 = .ok (.aload_n 0, 1) := by decide +kernel
theorem d_X5_put_34 : decode (bc mX5_put) 34 = .ok (.getfield 16, 3) := by decide +kernel
theorem d_X5_put_37 : decode (bc mX5_put) 37 = .ok (.getfield 68, 3) := by decide +kernel
theorem d_X5_put_40 : decode (bc mX5_put) 40 = .ok (.iload_n 1, 1) := by decide +kernel
theorem d_X5_put_41 : decode (bc mX5_put) 41 = .ok (.iload_n 2, 1) := by decide +kernel
theorem d_X5_put_42 : decode (bc mX5_put) 42 = .ok (.iastore, 1) := by decide +kernel
theorem d_X5_put_43 : decode (bc mX5_put) 43 = .ok (.iload_n 3, 1) := by decide +kernel
theorem d_X5_put_44 : decode (bc mX5_put) 44 = .ok (.ireturn, 1) := by decide +kernel
theorem d_X5_poison_0 : decode (bc mX5_poison) 0 = .ok (.iload_n 1, 1) := by decide +kernel
theorem d_X5_poison_1 : decode (bc mX5_poison) 1 = .ok (.invokestatic 61, 3) := by decide +kernel
theorem d_X5_poison_4 : decode (bc mX5_poison) 4 = .ok (.ifCond .ne 5, 3) := by decide +kernel
theorem d_X5_poison_7 : decode (bc mX5_poison) 7 = .ok (.iconst (-1), 1) := by decide +kernel
theorem d_X5_poison_8 : decode (bc mX5_poison) 8 = .ok (.ireturn, 1) := by decide +kernel
theorem d_X5_poison_9 : decode (bc mX5_poison) 9 = .ok (.iload_n 2, 1) := by decide +kernel
theorem d_X5_poison_10 : decode (bc mX5_poison) 10 = .ok (.ifCond .eq 11, 3) := by decide +kernel
theorem d_X5_poison_13 : decode (bc mX5_poison) 13 = .ok (.iload_n 2, 1) := by decide +kernel
theorem d_X5_poison_14 : decode (bc mX5_poison) 14 = .ok (.iconst 1, 1) := by decide +kernel
theorem d_X5_poison_15 : decode (bc mX5_poison) 15 = .ok (.if_icmp .eq 6, 3) := by decide +kernel
theorem d_X5_poison_18 : decode (bc mX5_poison) 18 = .ok (.bipush (-2), 2) := by decide +kernel
theorem d_X5_poison_20 : decode (bc mX5_poison) 20 = .ok (.ireturn, 1) := by decide +kernel
theorem d_X5_poison_21 : decode (bc mX5_poison) 21 = .ok (.aload_n 0, 1) := by decide +kernel
theorem d_X5_poison_22 : decode (bc mX5_poison) 22 = .ok (.invokevirtual 52, 3) := by decide +kernel
theorem d_X5_poison_25 : decode (bc mX5_poison) 25 = .ok (.aload_n 0, 1) := by decide +kernel
theorem d_X5_poison_26 : decode (bc mX5_poison) 26 = .ok (.getfield 16, 3) := by decide +kernel
theorem d_X5_poison_29 : decode (bc mX5_poison) 29 = .ok (.getfield 71, 3) := by decide +kernel
theorem d_X5_poison_32 : decode (bc mX5_poison) 32 = .ok (.iload_n 1, 1) := by decide +kernel
theorem d_X5_poison_33 : decode (bc mX5_poison) 33 = .ok (.invokestatic 75, 3) := by decide +kernel
theorem d_X5_poison_36 : decode (bc mX5_poison) 36 = .ok (.istore_n 3, 1) := by decide +kernel
theorem d_X5_poison_37 : decode (bc mX5_poison) 37 = .ok (.aload_n 0, 1) := by decide +kernel
theorem d_X5_poison_38 : decode (bc mX5_poison) 38 = .ok (.getfield 16, 3) := by decide +kernel
theorem d_X5_poison_41 : decode (bc mX5_poison) 41 = .ok (.aload_n 0, 1) := by decide +kernel
theorem d_X5_poison_42 : decode (bc mX5_poison) 42 = .ok (.getfield 16, 3) := by decide +kernel
theorem d_X5_poison_45 : decode (bc mX5_poison) 45 = .ok (.getfield 71, 3) := by decide +kernel
theorem d_X5_poison_48 : decode (bc mX5_poison) 48 = .ok (.iconst 1, 1) := by decide +kernel
theorem d_X5_poison_49 : decode (bc mX5_poison) 49 = .ok (.iload_n 1, 1) := by decide +kernel
theorem d_X5_poison_50 : decode (bc mX5_poison) 50 = .ok (.ishl, 1) := by decide +kernel
theorem d_X5_poison_51 : decode (bc mX5_poison) 51 = .ok (.iconst (-1), 1) := by decide +kernel
theorem d_X5_poison_52 : decode (bc mX5_poison) 52 = .ok (.ixor, 1) := by decide +kernel
theorem d_X5_poison_53 : decode (bc mX5_poison) 53 = .ok (.iand, 1) := by decide +kernel
theorem d_X5_poison_54 : decode (bc mX5_poison) 54 = .ok (.iload_n 2, 1) := by decide +kernel
theorem d_X5_poison_55 : decode (bc mX5_poison) 55 = .ok (.iload_n 1, 1) := by decide +kernel
theorem d_X5_poison_56 : decode (bc mX5_poison) 56 = .ok (.ishl, 1) := by decide +kernel
theorem d_X5_poison_57 : decode (bc mX5_poison) 57 = .ok (.ior, 1) := by decide +kernel
theorem d_X5_poison_58 : decode (bc mX5_poison) 58 = .ok (.putfield 71, 3) := by decide +kernel
theorem d_X5_poison_61 : decode (bc mX5_poison) 61 = .ok (.iload_n 3, 1) := by decide +kernel
theorem d_X5_poison_62 : decode (bc mX5_poison) 62 = .ok (.ireturn, 1) := by decide +kernel
theorem d_X5_ask_0 : decode (bc mX5_ask) 0 = .ok (.iload_n 1, 1) := by decide +kernel
theorem d_X5_ask_1 : decode (bc mX5_ask) 1 = .ok (.invokestatic 79, 3) := by decide +kernel
theorem d_X5_ask_4 : decode (bc mX5_ask) 4 = .ok (.ifCond .ne 5, 3) := by decide +kernel
theorem d_X5_ask_7 : decode (bc mX5_ask) 7 = .ok (.iconst (-1), 1) := by decide +kernel
theorem d_X5_ask_8 : decode (bc mX5_ask) 8 = .ok (.ireturn, 1) := by decide +kernel
theorem d_X5_ask_9 : decode (bc mX5_ask) 9 = .ok (.aload_n 0, 1) := by decide +kernel
theorem d_X5_ask_10 : decode (bc mX5_ask) 10 = .ok (.invokevirtual 52, 3) := by decide +kernel
theorem d_X5_ask_13 : decode (bc mX5_ask) 13 = .ok (.aload_n 0, 1) := by decide +kernel
theorem d_X5_ask_14 : decode (bc mX5_ask) 14 = .ok (.getfield 37, 3) := by decide +kernel
theorem d_X5_ask_17 : decode (bc mX5_ask) 17 = .ok (.aload_n 0, 1) := by decide +kernel
theorem d_X5_ask_18 : decode (bc mX5_ask) 18 = .ok (.getfield 16, 3) := by decide +kernel
theorem d_X5_ask_21 : decode (bc mX5_ask) 21 = .ok (.iload_n 1, 1) := by decide +kernel
theorem d_X5_ask_22 : decode (bc mX5_ask) 22 = .ok (.invokevirtual 82, 3) := by decide +kernel
theorem d_X5_ask_25 : decode (bc mX5_ask) 25 = .ok (.ireturn, 1) := by decide +kernel
theorem d_X5_forget_0 : decode (bc mX5_forget) 0 = .ok (.aload_n 0, 1) := by decide +kernel
theorem d_X5_forget_1 : decode (bc mX5_forget) 1 = .ok (.iload_n 1, 1) := by decide +kernel
theorem d_X5_forget_2 : decode (bc mX5_forget) 2 = .ok (.invokevirtual 86, 3) := by decide +kernel
theorem d_X5_forget_5 : decode (bc mX5_forget) 5 = .ok (.ifCond .ne 5, 3) := by decide +kernel
theorem d_X5_forget_8 : decode (bc mX5_forget) 8 = .ok (.iconst (-1), 1) := by decide +kernel
theorem d_X5_forget_9 : decode (bc mX5_forget) 9 = .ok (.ireturn, 1) := by decide +kernel
theorem d_X5_forget_10 : decode (bc mX5_forget) 10 = .ok (.aload_n 0, 1) := by decide +kernel
theorem d_X5_forget_11 : decode (bc mX5_forget) 11 = .ok (.invokevirtual 52, 3) := by decide +kernel
theorem d_X5_forget_14 : decode (bc mX5_forget) 14 = .ok (.aload_n 0, 1) := by decide +kernel
theorem d_X5_forget_15 : decode (bc mX5_forget) 15 = .ok (.getfield 16, 3) := by decide +kernel
theorem d_X5_forget_18 : decode (bc mX5_forget) 18 = .ok (.iload_n 1, 1) := by decide +kernel
theorem d_X5_forget_19 : decode (bc mX5_forget) 19 = .ok (.invokevirtual 89, 3) := by decide +kernel
theorem d_X5_forget_22 : decode (bc mX5_forget) 22 = .ok (.aload_n 0, 1) := by decide +kernel
theorem d_X5_forget_23 : decode (bc mX5_forget) 23 = .ok (.getfield 16, 3) := by decide +kernel
theorem d_X5_forget_26 : decode (bc mX5_forget) 26 = .ok (.getfield 93, 3) := by decide +kernel
theorem d_X5_forget_29 : decode (bc mX5_forget) 29 = .ok (.ireturn, 1) := by decide +kernel
theorem d_X5_type_0 : decode (bc mX5_type) 0 = .ok (.lload_n 1, 1) := by decide +kernel
theorem d_X5_type_1 : decode (bc mX5_type) 1 = .ok (.invokestatic 96, 3) := by decide +kernel
theorem d_X5_type_4 : decode (bc mX5_type) 4 = .ok (.istore_n 3, 1) := by decide +kernel
theorem d_X5_type_5 : decode (bc mX5_type) 5 = .ok (.iload_n 3, 1) := by decide +kernel
theorem d_X5_type_6 : decode (bc mX5_type) 6 = .ok (.ifCond .ne 6, 3) := by decide +kernel
theorem d_X5_type_9 : decode (bc mX5_type) 9 = .ok (.bipush (-2), 2) := by decide +kernel
theorem d_X5_type_11 : decode (bc mX5_type) 11 = .ok (.ireturn, 1) := by decide +kernel
theorem d_X5_type_12 : decode (bc mX5_type) 12 = .ok (.iload_n 3, 1) := by decide +kernel
theorem d_X5_type_13 : decode (bc mX5_type) 13 = .ok (.bipush 60, 2) := by decide +kernel
theorem d_X5_type_15 : decode (bc mX5_type) 15 = .ok (.aload_n 0, 1) := by decide +kernel
theorem d_X5_type_16 : decode (bc mX5_type) 16 = .ok (.getfield 100, 3) := by decide +kernel
theorem d_X5_type_19 : decode (bc mX5_type) 19 = .ok (.isub, 1) := by decide +kernel
theorem d_X5_type_20 : decode (bc mX5_type) 20 = .ok (.if_icmp .le 6, 3) := by decide +kernel
theorem d_X5_type_23 : decode (bc mX5_type) 23 = .ok (.bipush (-4), 2) := by decide +kernel
theorem d_X5_type_25 : decode (bc mX5_type) 25 = .ok (.ireturn, 1) := by decide +kernel
theorem d_X5_type_26 : decode (bc mX5_type) 26 = .ok (.iload_n 3, 1) := by decide +kernel
theorem d_X5_type_27 : decode (bc mX5_type) 27 = .ok (.iconst 1, 1) := by decide +kernel
theorem d_X5_type_28 : decode (bc mX5_type) 28 = .ok (.isub, 1) := by decide +kernel
theorem d_X5_type_29 : decode (bc mX5_type) 29 = .ok (.istore 4, 2) := by decide +kernel
theorem d_X5_type_31 : decode (bc mX5_type) 31 = .ok (.iload 4, 2) := by decide +kernel
theorem d_X5_type_33 : decode (bc mX5_type) 33 = .ok (.ifCond .lt 40, 3) := by decide +kernel
theorem d_X5_type_36 : decode (bc mX5_type) 36 = .ok (.aload_n 0, 1) := by decide +kernel
theorem d_X5_type_37 : decode (bc mX5_type) 37 = .ok (.getfield 9, 3) := by decide +kernel
theorem d_X5_type_40 : decode (bc mX5_type) 40 = .ok (.aload_n 0, 1) := by decide +kernel
theorem d_X5_type_41 : decode (bc mX5_type) 41 = .ok (.getfield 100, 3) := by decide +kernel
theorem d_X5_type_44 : decode (bc mX5_type) 44 = .ok (.lload_n 1, 1) := by decide +kernel
theorem d_X5_type_45 : decode (bc mX5_type) 45 = .ok (.bipush 8, 2) := by decide +kernel
theorem d_X5_type_47 : decode (bc mX5_type) 47 = .ok (.iload 4, 2) := by decide +kernel
theorem d_X5_type_49 : decode (bc mX5_type) 49 = .ok (.imul, 1) := by decide +kernel
theorem d_X5_type_50 : decode (bc mX5_type) 50 = .ok (.lushr, 1) := by decide +kernel
theorem d_X5_type_51 : decode (bc mX5_type) 51 = .ok (.ldc2_w 103, 3) := by decide +kernel
theorem d_X5_type_54 : decode (bc mX5_type) 54 = .ok (.land, 1) := by decide +kernel
theorem d_X5_type_55 : decode (bc mX5_type) 55 = .ok (.l2i, 1) := by decide +kernel
theorem d_X5_type_56 : decode (bc mX5_type) 56 = .ok (.iastore, 1) := by decide +kernel
theorem d_X5_type_57 : decode (bc mX5_type) 57 = .ok (.aload_n 0, 1) := by decide +kernel
theorem d_X5_type_58 : decode (bc mX5_type) 58 = .ok (.dup, 1) := by decide +kernel
theorem d_X5_type_59 : decode (bc mX5_type) 59 = .ok (.getfield 100, 3) := by decide +kernel
theorem d_X5_type_62 : decode (bc mX5_type) 62 = .ok (.iconst 1, 1) := by decide +kernel
theorem d_X5_type_63 : decode (bc mX5_type) 63 = .ok (.iadd, 1) := by decide +kernel
theorem d_X5_type_64 : decode (bc mX5_type) 64 = .ok (.putfield 100, 3) := by decide +kernel
theorem d_X5_type_67 : decode (bc mX5_type) 67 = .ok (.iinc 4 (-1), 3) := by decide +kernel
theorem d_X5_type_70 : decode (bc mX5_type) 70 = .ok (.goto (-39), 3) := by decide +kernel
theorem d_X5_type_73 : decode (bc mX5_type) 73 = .ok (.aload_n 0, 1) := by decide +kernel
theorem d_X5_type_74 : decode (bc mX5_type) 74 = .ok (.getfield 100, 3) := by decide +kernel
theorem d_X5_type_77 : decode (bc mX5_type) 77 = .ok (.ireturn, 1) := by decide +kernel
theorem d_X5_wipe_0 : decode (bc mX5_wipe) 0 = .ok (.aload_n 0, 1) := by decide +kernel
theorem d_X5_wipe_1 : decode (bc mX5_wipe) 1 = .ok (.getfield 100, 3) := by decide +kernel
theorem d_X5_wipe_4 : decode (bc mX5_wipe) 4 = .ok (.istore_n 1, 1) := by decide +kernel
theorem d_X5_wipe_5 : decode (bc mX5_wipe) 5 = .ok (.aload_n 0, 1) := by decide +kernel
theorem d_X5_wipe_6 : decode (bc mX5_wipe) 6 = .ok (.iconst 0, 1) := by decide +kernel
theorem d_X5_wipe_7 : decode (bc mX5_wipe) 7 = .ok (.putfield 100, 3) := by decide +kernel
theorem d_X5_wipe_10 : decode (bc mX5_wipe) 10 = .ok (.iload_n 1, 1) := by decide +kernel
theorem d_X5_wipe_11 : decode (bc mX5_wipe) 11 = .ok (.ireturn, 1) := by decide +kernel
theorem d_X5_fault_0 : decode (bc mX5_fault) 0 = .ok (.aload_n 0, 1) := by decide +kernel
theorem d_X5_fault_1 : decode (bc mX5_fault) 1 = .ok (.getfield 44, 3) := by decide +kernel
theorem d_X5_fault_4 : decode (bc mX5_fault) 4 = .ok (.aload_n 0, 1) := by decide +kernel
theorem d_X5_fault_5 : decode (bc mX5_fault) 5 = .ok (.getfield 9, 3) := by decide +kernel
theorem d_X5_fault_8 : decode (bc mX5_fault) 8 = .ok (.aload_n 0, 1) := by decide +kernel
theorem d_X5_fault_9 : decode (bc mX5_fault) 9 = .ok (.getfield 100, 3) := by decide +kernel
theorem d_X5_fault_12 : decode (bc mX5_fault) 12 = .ok (.invokevirtual 105, 3) := by decide +kernel
theorem d_X5_fault_15 : decode (bc mX5_fault) 15 = .ok (.ireturn, 1) := by decide +kernel
theorem d_X5_recipe_0 : decode (bc mX5_recipe) 0 = .ok (.iload_n 1, 1) := by decide +kernel
theorem d_X5_recipe_1 : decode (bc mX5_recipe) 1 = .ok (.invokestatic 79, 3) := by decide +kernel
theorem d_X5_recipe_4 : decode (bc mX5_recipe) 4 = .ok (.ifCond .ne 5, 3) := by decide +kernel
theorem d_X5_recipe_7 : decode (bc mX5_recipe) 7 = .ok (.iconst (-1), 1) := by decide +kernel
theorem d_X5_recipe_8 : decode (bc mX5_recipe) 8 = .ok (.ireturn, 1) := by decide +kernel
theorem d_X5_recipe_9 : decode (bc mX5_recipe) 9 = .ok (.aload_n 0, 1) := by decide +kernel
theorem d_X5_recipe_10 : decode (bc mX5_recipe) 10 = .ok (.getfield 44, 3) := by decide +kernel
theorem d_X5_recipe_13 : decode (bc mX5_recipe) 13 = .ok (.aload_n 0, 1) := by decide +kernel
theorem d_X5_recipe_14 : decode (bc mX5_recipe) 14 = .ok (.getfield 9, 3) := by decide +kernel
theorem d_X5_recipe_17 : decode (bc mX5_recipe) 17 = .ok (.aload_n 0, 1) := by decide +kernel
theorem d_X5_recipe_18 : decode (bc mX5_recipe) 18 = .ok (.getfield 100, 3) := by decide +kernel
theorem d_X5_recipe_21 : decode (bc mX5_recipe) 21 = .ok (.invokevirtual 105, 3) := by decide +kernel
theorem d_X5_recipe_24 : decode (bc mX5_recipe) 24 = .ok (.bipush (-6), 2) := by decide +kernel
theorem d_X5_recipe_26 : decode (bc mX5_recipe) 26 = .ok (.if_icmp .eq 6, 3) := by decide +kernel
theorem d_X5_recipe_29 : decode (bc mX5_recipe) 29 = .ok (.bipush (-3), 2) := by decide +kernel
theorem d_X5_recipe_31 : decode (bc mX5_recipe) 31 = .ok (.ireturn, 1) := by decide +kernel
theorem d_X5_recipe_32 : decode (bc mX5_recipe) 32 = .ok (.aload_n 0, 1) := by decide +kernel
theorem d_X5_recipe_33 : decode (bc mX5_recipe) 33 = .ok (.getfield 44, 3) := by decide +kernel
theorem d_X5_recipe_36 : decode (bc mX5_recipe) 36 = .ok (.getfield 109, 3) := by decide +kernel
theorem d_X5_recipe_39 : decode (bc mX5_recipe) 39 = .ok (.iload_n 1, 1) := by decide +kernel
theorem d_X5_recipe_40 : decode (bc mX5_recipe) 40 = .ok (.iushr, 1) := by decide +kernel
theorem d_X5_recipe_41 : decode (bc mX5_recipe) 41 = .ok (.ifCond .eq 6, 3) := by decide +kernel
theorem d_X5_recipe_44 : decode (bc mX5_recipe) 44 = .ok (.bipush (-5), 2) := by decide +kernel
theorem d_X5_recipe_46 : decode (bc mX5_recipe) 46 = .ok (.ireturn, 1) := by decide +kernel
theorem d_X5_recipe_47 : decode (bc mX5_recipe) 47 = .ok (.aload_n 0, 1) := by decide +kernel
theorem d_X5_recipe_48 : decode (bc mX5_recipe) 48 = .ok (.invokevirtual 52, 3) := by decide +kernel
theorem d_X5_recipe_51 : decode (bc mX5_recipe) 51 = .ok (.aload_n 0, 1) := by decide +kernel
theorem d_X5_recipe_52 : decode (bc mX5_recipe) 52 = .ok (.getfield 44, 3) := by decide +kernel
theorem d_X5_recipe_55 : decode (bc mX5_recipe) 55 = .ok (.invokevirtual 112, 3) := by decide +kernel
theorem d_X5_recipe_58 : decode (bc mX5_recipe) 58 = .ok (.astore_n 2, 1) := by decide +kernel
theorem d_X5_recipe_59 : decode (bc mX5_recipe) 59 = .ok (.aload_n 0, 1) := by decide +kernel
theorem d_X5_recipe_60 : decode (bc mX5_recipe) 60 = .ok (.getfield 16, 3) := by decide +kernel
theorem d_X5_recipe_63 : decode (bc mX5_recipe) 63 = .ok (.getfield 116, 3) := by decide +kernel
theorem d_X5_recipe_66 : decode (bc mX5_recipe) 66 = .ok (.iload_n 1, 1) := by decide +kernel
theorem d_X5_recipe_67 : decode (bc mX5_recipe) 67 = .ok (.aload_n 2, 1) := by decide +kernel
theorem d_X5_recipe_68 : decode (bc mX5_recipe) 68 = .ok (.aastore, 1) := by decide +kernel
theorem d_X5_recipe_69 : decode (bc mX5_recipe) 69 = .ok (.aload_n 0, 1) := by decide +kernel
theorem d_X5_recipe_70 : decode (bc mX5_recipe) 70 = .ok (.getfield 16, 3) := by decide +kernel
theorem d_X5_recipe_73 : decode (bc mX5_recipe) 73 = .ok (.iload_n 1, 1) := by decide +kernel
theorem d_X5_recipe_74 : decode (bc mX5_recipe) 74 = .ok (.invokevirtual 120, 3) := by decide +kernel
theorem d_X5_recipe_77 : decode (bc mX5_recipe) 77 = .ok (.aload_n 0, 1) := by decide +kernel
theorem d_X5_recipe_78 : decode (bc mX5_recipe) 78 = .ok (.iconst 0, 1) := by decide +kernel
theorem d_X5_recipe_79 : decode (bc mX5_recipe) 79 = .ok (.putfield 100, 3) := by decide +kernel
theorem d_X5_recipe_82 : decode (bc mX5_recipe) 82 = .ok (.aload_n 2, 1) := by decide +kernel
theorem d_X5_recipe_83 : decode (bc mX5_recipe) 83 = .ok (.getfield 123, 3) := by decide +kernel
theorem d_X5_recipe_86 : decode (bc mX5_recipe) 86 = .ok (.ireturn, 1) := by decide +kernel
theorem d_X5_ofShelf_0 : decode (bc mX5_ofShelf) 0 = .ok (.iload_n 1, 1) := by decide +kernel
theorem d_X5_ofShelf_1 : decode (bc mX5_ofShelf) 1 = .ok (.invokestatic 61, 3) := by decide +kernel
theorem d_X5_ofShelf_4 : decode (bc mX5_ofShelf) 4 = .ok (.ifCond .ne 5, 3) := by decide +kernel
theorem d_X5_ofShelf_7 : decode (bc mX5_ofShelf) 7 = .ok (.iconst (-1), 1) := by decide +kernel
theorem d_X5_ofShelf_8 : decode (bc mX5_ofShelf) 8 = .ok (.ireturn, 1) := by decide +kernel
theorem d_X5_ofShelf_9 : decode (bc mX5_ofShelf) 9 = .ok (.iload_n 2, 1) := by decide +kernel
theorem d_X5_ofShelf_10 : decode (bc mX5_ofShelf) 10 = .ok (.tableswitch 57 0 2 #[26, 36, 48], 26) := by decide +kernel
theorem d_X5_ofShelf_36 : decode (bc mX5_ofShelf) 36 = .ok (.aload_n 0, 1) := by decide +kernel
theorem d_X5_ofShelf_37 : decode (bc mX5_ofShelf) 37 = .ok (.getfield 16, 3) := by decide +kernel
theorem d_X5_ofShelf_40 : decode (bc mX5_ofShelf) 40 = .ok (.getfield 68, 3) := by decide +kernel
theorem d_X5_ofShelf_43 : decode (bc mX5_ofShelf) 43 = .ok (.iload_n 1, 1) := by decide +kernel
theorem d_X5_ofShelf_44 : decode (bc mX5_ofShelf) 44 = .ok (.iaload, 1) := by decide +kernel
theorem d_X5_ofShelf_45 : decode (bc mX5_ofShelf) 45 = .ok (.ireturn, 1) := by decide +kernel
theorem d_X5_ofShelf_46 : decode (bc mX5_ofShelf) 46 = .ok (.aload_n 0, 1) := by decide +kernel
theorem d_X5_ofShelf_47 : decode (bc mX5_ofShelf) 47 = .ok (.getfield 16, 3) := by decide +kernel
theorem d_X5_ofShelf_50 : decode (bc mX5_ofShelf) 50 = .ok (.getfield 71, 3) := by decide +kernel
theorem d_X5_ofShelf_53 : decode (bc mX5_ofShelf) 53 = .ok (.iload_n 1, 1) := by decide +kernel
theorem d_X5_ofShelf_54 : decode (bc mX5_ofShelf) 54 = .ok (.invokestatic 75, 3) := by decide +kernel
theorem d_X5_ofShelf_57 : decode (bc mX5_ofShelf) 57 = .ok (.ireturn, 1) := by decide +kernel
theorem d_X5_ofShelf_58 : decode (bc mX5_ofShelf) 58 = .ok (.aload_n 0, 1) := by decide +kernel
theorem d_X5_ofShelf_59 : decode (bc mX5_ofShelf) 59 = .ok (.getfield 16, 3) := by decide +kernel
theorem d_X5_ofShelf_62 : decode (bc mX5_ofShelf) 62 = .ok (.iload_n 1, 1) := by decide +kernel
theorem d_X5_ofShelf_63 : decode (bc mX5_ofShelf) 63 = .ok (.invokevirtual 128, 3) := by decide +kernel
theorem d_X5_ofShelf_66 : decode (bc mX5_ofShelf) 66 = .ok (.ireturn, 1) := by decide +kernel
theorem d_X5_ofShelf_67 : decode (bc mX5_ofShelf) 67 = .ok (.bipush (-2), 2) := by decide +kernel
theorem d_X5_ofShelf_69 : decode (bc mX5_ofShelf) 69 = .ok (.ireturn, 1) := by decide +kernel
theorem d_X5_ofLoaf_0 : decode (bc mX5_ofLoaf) 0 = .ok (.iload_n 1, 1) := by decide +kernel
theorem d_X5_ofLoaf_1 : decode (bc mX5_ofLoaf) 1 = .ok (.invokestatic 79, 3) := by decide +kernel
theorem d_X5_ofLoaf_4 : decode (bc mX5_ofLoaf) 4 = .ok (.ifCond .ne 5, 3) := by decide +kernel
theorem d_X5_ofLoaf_7 : decode (bc mX5_ofLoaf) 7 = .ok (.iconst (-1), 1) := by decide +kernel
theorem d_X5_ofLoaf_8 : decode (bc mX5_ofLoaf) 8 = .ok (.ireturn, 1) := by decide +kernel
theorem d_X5_ofLoaf_9 : decode (bc mX5_ofLoaf) 9 = .ok (.aload_n 0, 1) := by decide +kernel
theorem d_X5_ofLoaf_10 : decode (bc mX5_ofLoaf) 10 = .ok (.getfield 16, 3) := by decide +kernel
theorem d_X5_ofLoaf_13 : decode (bc mX5_ofLoaf) 13 = .ok (.getfield 116, 3) := by decide +kernel
theorem d_X5_ofLoaf_16 : decode (bc mX5_ofLoaf) 16 = .ok (.iload_n 1, 1) := by decide +kernel
theorem d_X5_ofLoaf_17 : decode (bc mX5_ofLoaf) 17 = .ok (.aaload, 1) := by decide +kernel
theorem d_X5_ofLoaf_18 : decode (bc mX5_ofLoaf) 18 = .ok (.astore_n 3, 1) := by decide +kernel
theorem d_X5_ofLoaf_19 : decode (bc mX5_ofLoaf) 19 = .ok (.iload_n 2, 1) := by decide +kernel
theorem d_X5_ofLoaf_20 : decode (bc mX5_ofLoaf) 20 = .ok (.tableswitch 105 0 5 #[40, 50, 63, 76, 86, 96], 40) := by decide +kernel
theorem d_X5_ofLoaf_60 : decode (bc mX5_ofLoaf) 60 = .ok (.aload_n 3, 1) := by decide +kernel
theorem d_X5_ofLoaf_61 : decode (bc mX5_ofLoaf) 61 = .ok (.ifnonnull 7, 3) := by decide +kernel
theorem d_X5_ofLoaf_64 : decode (bc mX5_ofLoaf) 64 = .ok (.iconst 0, 1) := by decide +kernel
theorem d_X5_ofLoaf_65 : decode (bc mX5_ofLoaf) 65 = .ok (.goto 4, 3) := by decide +kernel
theorem d_X5_ofLoaf_68 : decode (bc mX5_ofLoaf) 68 = .ok (.iconst 1, 1) := by decide +kernel
theorem d_X5_ofLoaf_69 : decode (bc mX5_ofLoaf) 69 = .ok (.ireturn, 1) := by decide +kernel
theorem d_X5_ofLoaf_70 : decode (bc mX5_ofLoaf) 70 = .ok (.aload_n 3, 1) := by decide +kernel
theorem d_X5_ofLoaf_71 : decode (bc mX5_ofLoaf) 71 = .ok (.ifnonnull 7, 3) := by decide +kernel
theorem d_X5_ofLoaf_74 : decode (bc mX5_ofLoaf) 74 = .ok (.iconst 0, 1) := by decide +kernel
theorem d_X5_ofLoaf_75 : decode (bc mX5_ofLoaf) 75 = .ok (.goto 7, 3) := by decide +kernel
theorem d_X5_ofLoaf_78 : decode (bc mX5_ofLoaf) 78 = .ok (.aload_n 3, 1) := by decide +kernel
theorem d_X5_ofLoaf_79 : decode (bc mX5_ofLoaf) 79 = .ok (.getfield 132, 3) := by decide +kernel
theorem d_X5_ofLoaf_82 : decode (bc mX5_ofLoaf) 82 = .ok (.ireturn, 1) := by decide +kernel
theorem d_X5_ofLoaf_83 : decode (bc mX5_ofLoaf) 83 = .ok (.aload_n 3, 1) := by decide +kernel
theorem d_X5_ofLoaf_84 : decode (bc mX5_ofLoaf) 84 = .ok (.ifnonnull 7, 3) := by decide +kernel
theorem d_X5_ofLoaf_87 : decode (bc mX5_ofLoaf) 87 = .ok (.iconst 0, 1) := by decide +kernel
theorem d_X5_ofLoaf_88 : decode (bc mX5_ofLoaf) 88 = .ok (.goto 7, 3) := by decide +kernel
theorem d_X5_ofLoaf_91 : decode (bc mX5_ofLoaf) 91 = .ok (.aload_n 3, 1) := by decide +kernel
theorem d_X5_ofLoaf_92 : decode (bc mX5_ofLoaf) 92 = .ok (.getfield 135, 3) := by decide +kernel
theorem d_X5_ofLoaf_95 : decode (bc mX5_ofLoaf) 95 = .ok (.ireturn, 1) := by decide +kernel
theorem d_X5_ofLoaf_96 : decode (bc mX5_ofLoaf) 96 = .ok (.aload_n 0, 1) := by decide +kernel
theorem d_X5_ofLoaf_97 : decode (bc mX5_ofLoaf) 97 = .ok (.getfield 16, 3) := by decide +kernel
theorem d_X5_ofLoaf_100 : decode (bc mX5_ofLoaf) 100 = .ok (.getfield 136, 3) := by decide +kernel
theorem d_X5_ofLoaf_103 : decode (bc mX5_ofLoaf) 103 = .ok (.iload_n 1, 1) := by decide +kernel
theorem d_X5_ofLoaf_104 : decode (bc mX5_ofLoaf) 104 = .ok (.iaload, 1) := by decide +kernel
theorem d_X5_ofLoaf_105 : decode (bc mX5_ofLoaf) 105 = .ok (.ireturn, 1) := by decide +kernel
theorem d_X5_ofLoaf_106 : decode (bc mX5_ofLoaf) 106 = .ok (.aload_n 0, 1) := by decide +kernel
theorem d_X5_ofLoaf_107 : decode (bc mX5_ofLoaf) 107 = .ok (.getfield 16, 3) := by decide +kernel
theorem d_X5_ofLoaf_110 : decode (bc mX5_ofLoaf) 110 = .ok (.getfield 139, 3) := by decide +kernel
theorem d_X5_ofLoaf_113 : decode (bc mX5_ofLoaf) 113 = .ok (.iload_n 1, 1) := by decide +kernel
theorem d_X5_ofLoaf_114 : decode (bc mX5_ofLoaf) 114 = .ok (.iaload, 1) := by decide +kernel
theorem d_X5_ofLoaf_115 : decode (bc mX5_ofLoaf) 115 = .ok (.ireturn, 1) := by decide +kernel
theorem d_X5_ofLoaf_116 : decode (bc mX5_ofLoaf) 116 = .ok (.aload_n 0, 1) := by decide +kernel
theorem d_X5_ofLoaf_117 : decode (bc mX5_ofLoaf) 117 = .ok (.getfield 16, 3) := by decide +kernel
theorem d_X5_ofLoaf_120 : decode (bc mX5_ofLoaf) 120 = .ok (.iload_n 1, 1) := by decide +kernel
theorem d_X5_ofLoaf_121 : decode (bc mX5_ofLoaf) 121 = .ok (.invokevirtual 142, 3) := by decide +kernel
theorem d_X5_ofLoaf_124 : decode (bc mX5_ofLoaf) 124 = .ok (.ireturn, 1) := by decide +kernel
theorem d_X5_ofLoaf_125 : decode (bc mX5_ofLoaf) 125 = .ok (.bipush (-2), 2) := by decide +kernel
theorem d_X5_ofLoaf_127 : decode (bc mX5_ofLoaf) 127 = .ok (.ireturn, 1) := by decide +kernel
theorem d_X5_ofMemory_0 : decode (bc mX5_ofMemory) 0 = .ok (.aload_n 0, 1) := by decide +kernel
theorem d_X5_ofMemory_1 : decode (bc mX5_ofMemory) 1 = .ok (.iload_n 1, 1) := by decide +kernel
theorem d_X5_ofMemory_2 : decode (bc mX5_ofMemory) 2 = .ok (.invokevirtual 86, 3) := by decide +kernel
theorem d_X5_ofMemory_5 : decode (bc mX5_ofMemory) 5 = .ok (.ifCond .ne 5, 3) := by decide +kernel
theorem d_X5_ofMemory_8 : decode (bc mX5_ofMemory) 8 = .ok (.iconst (-1), 1) := by decide +kernel
theorem d_X5_ofMemory_9 : decode (bc mX5_ofMemory) 9 = .ok (.ireturn, 1) := by decide +kernel
theorem d_X5_ofMemory_10 : decode (bc mX5_ofMemory) 10 = .ok (.aload_n 0, 1) := by decide +kernel
theorem d_X5_ofMemory_11 : decode (bc mX5_ofMemory) 11 = .ok (.getfield 16, 3) := by decide +kernel
theorem d_X5_ofMemory_14 : decode (bc mX5_ofMemory) 14 = .ok (.getfield 145, 3) := by decide +kernel
theorem d_X5_ofMemory_17 : decode (bc mX5_ofMemory) 17 = .ok (.iload_n 1, 1) := by decide +kernel
theorem d_X5_ofMemory_18 : decode (bc mX5_ofMemory) 18 = .ok (.aaload, 1) := by decide +kernel
theorem d_X5_ofMemory_19 : decode (bc mX5_ofMemory) 19 = .ok (.astore_n 3, 1) := by decide +kernel
theorem d_X5_ofMemory_20 : decode (bc mX5_ofMemory) 20 = .ok (.iload_n 2, 1) := by decide +kernel
theorem d_X5_ofMemory_21 : decode (bc mX5_ofMemory) 21 = .ok (.tableswitch 60 0 4 #[35, 40, 45, 50, 55], 35) := by decide +kernel
theorem d_X5_ofMemory_56 : decode (bc mX5_ofMemory) 56 = .ok (.aload_n 3, 1) := by decide +kernel
theorem d_X5_ofMemory_57 : decode (bc mX5_ofMemory) 57 = .ok (.getfield 149, 3) := by decide +kernel
theorem d_X5_ofMemory_60 : decode (bc mX5_ofMemory) 60 = .ok (.ireturn, 1) := by decide +kernel
theorem d_X5_ofMemory_61 : decode (bc mX5_ofMemory) 61 = .ok (.aload_n 3, 1) := by decide +kernel
theorem d_X5_ofMemory_62 : decode (bc mX5_ofMemory) 62 = .ok (.getfield 154, 3) := by decide +kernel
theorem d_X5_ofMemory_65 : decode (bc mX5_ofMemory) 65 = .ok (.ireturn, 1) := by decide +kernel
theorem d_X5_ofMemory_66 : decode (bc mX5_ofMemory) 66 = .ok (.aload_n 3, 1) := by decide +kernel
theorem d_X5_ofMemory_67 : decode (bc mX5_ofMemory) 67 = .ok (.getfield 157, 3) := by decide +kernel
theorem d_X5_ofMemory_70 : decode (bc mX5_ofMemory) 70 = .ok (.ireturn, 1) := by decide +kernel
theorem d_X5_ofMemory_71 : decode (bc mX5_ofMemory) 71 = .ok (.aload_n 3, 1) := by decide +kernel
theorem d_X5_ofMemory_72 : decode (bc mX5_ofMemory) 72 = .ok (.getfield 160, 3) := by decide +kernel
theorem d_X5_ofMemory_75 : decode (bc mX5_ofMemory) 75 = .ok (.ireturn, 1) := by decide +kernel
theorem d_X5_ofMemory_76 : decode (bc mX5_ofMemory) 76 = .ok (.aload_n 3, 1) := by decide +kernel
theorem d_X5_ofMemory_77 : decode (bc mX5_ofMemory) 77 = .ok (.getfield 163, 3) := by decide +kernel
theorem d_X5_ofMemory_80 : decode (bc mX5_ofMemory) 80 = .ok (.ireturn, 1) := by decide +kernel
theorem d_X5_ofMemory_81 : decode (bc mX5_ofMemory) 81 = .ok (.bipush (-2), 2) := by decide +kernel
theorem d_X5_ofMemory_83 : decode (bc mX5_ofMemory) 83 = .ok (.ireturn, 1) := by decide +kernel
theorem d_X5_look_0 : decode (bc mX5_look) 0 = .ok (.aload_n 0, 1) := by decide +kernel
theorem d_X5_look_1 : decode (bc mX5_look) 1 = .ok (.iload_n 1, 1) := by decide +kernel
theorem d_X5_look_2 : decode (bc mX5_look) 2 = .ok (.invokevirtual 86, 3) := by decide +kernel
theorem d_X5_look_5 : decode (bc mX5_look) 5 = .ok (.ifCond .ne 5, 3) := by decide +kernel
theorem d_X5_look_8 : decode (bc mX5_look) 8 = .ok (.iconst (-1), 1) := by decide +kernel
theorem d_X5_look_9 : decode (bc mX5_look) 9 = .ok (.ireturn, 1) := by decide +kernel
theorem d_X5_look_10 : decode (bc mX5_look) 10 = .ok (.aload_n 0, 1) := by decide +kernel
theorem d_X5_look_11 : decode (bc mX5_look) 11 = .ok (.getfield 16, 3) := by decide +kernel
theorem d_X5_look_14 : decode (bc mX5_look) 14 = .ok (.getfield 145, 3) := by decide +kernel
theorem d_X5_look_17 : decode (bc mX5_look) 17 = .ok (.iload_n 1, 1) := by decide +kernel
theorem d_X5_look_18 : decode (bc mX5_look) 18 = .ok (.aaload, 1) := by decide +kernel
theorem d_X5_look_19 : decode (bc mX5_look) 19 = .ok (.astore 4, 2) := by decide +kernel
theorem d_X5_look_21 : decode (bc mX5_look) 21 = .ok (.iload_n 2, 1) := by decide +kernel
theorem d_X5_look_22 : decode (bc mX5_look) 22 = .ok (.ifCond .lt 12, 3) := by decide +kernel
theorem d_X5_look_25 : decode (bc mX5_look) 25 = .ok (.iload_n 2, 1) := by decide +kernel
theorem d_X5_look_26 : decode (bc mX5_look) 26 = .ok (.aload 4, 2) := by decide +kernel
theorem d_X5_look_28 : decode (bc mX5_look) 28 = .ok (.getfield 157, 3) := by decide +kernel
theorem d_X5_look_31 : decode (bc mX5_look) 31 = .ok (.if_icmp .lt 5, 3) := by decide +kernel
theorem d_X5_look_34 : decode (bc mX5_look) 34 = .ok (.iconst (-1), 1) := by decide +kernel
theorem d_X5_look_35 : decode (bc mX5_look) 35 = .ok (.ireturn, 1) := by decide +kernel
theorem d_X5_look_36 : decode (bc mX5_look) 36 = .ok (.iload_n 3, 1) := by decide +kernel
theorem d_X5_look_37 : decode (bc mX5_look) 37 = .ok (.lookupswitch 43 #[(0, 27), (1, 35)], 27) := by decide +kernel
theorem d_X5_look_64 : decode (bc mX5_look) 64 = .ok (.aload 4, 2) := by decide +kernel
theorem d_X5_look_66 : decode (bc mX5_look) 66 = .ok (.getfield 166, 3) := by decide +kernel
theorem d_X5_look_69 : decode (bc mX5_look) 69 = .ok (.iload_n 2, 1) := by decide +kernel
theorem d_X5_look_70 : decode (bc mX5_look) 70 = .ok (.iaload, 1) := by decide +kernel
theorem d_X5_look_71 : decode (bc mX5_look) 71 = .ok (.ireturn, 1) := by decide +kernel
theorem d_X5_look_72 : decode (bc mX5_look) 72 = .ok (.aload 4, 2) := by decide +kernel
theorem d_X5_look_74 : decode (bc mX5_look) 74 = .ok (.getfield 169, 3) := by decide +kernel
theorem d_X5_look_77 : decode (bc mX5_look) 77 = .ok (.iload_n 2, 1) := by decide +kernel
theorem d_X5_look_78 : decode (bc mX5_look) 78 = .ok (.iaload, 1) := by decide +kernel
theorem d_X5_look_79 : decode (bc mX5_look) 79 = .ok (.ireturn, 1) := by decide +kernel
theorem d_X5_look_80 : decode (bc mX5_look) 80 = .ok (.bipush (-2), 2) := by decide +kernel
theorem d_X5_look_82 : decode (bc mX5_look) 82 = .ok (.ireturn, 1) := by decide +kernel
theorem d_X5_count_0 : decode (bc mX5_count) 0 = .ok (.iload_n 1, 1) := by decide +kernel
theorem d_X5_count_1 : decode (bc mX5_count) 1 = .ok (.tableswitch 109 0 7 #[47, 55, 63, 71, 76, 81, 91, 101], 47) := by decide +kernel
theorem d_X5_count_48 : decode (bc mX5_count) 48 = .ok (.aload_n 0, 1) := by decide +kernel
theorem d_X5_count_49 : decode (bc mX5_count) 49 = .ok (.getfield 16, 3) := by decide +kernel
theorem d_X5_count_52 : decode (bc mX5_count) 52 = .ok (.getfield 93, 3) := by decide +kernel
theorem d_X5_count_55 : decode (bc mX5_count) 55 = .ok (.ireturn, 1) := by decide +kernel
theorem d_X5_count_56 : decode (bc mX5_count) 56 = .ok (.aload_n 0, 1) := by decide +kernel
theorem d_X5_count_57 : decode (bc mX5_count) 57 = .ok (.getfield 16, 3) := by decide +kernel
theorem d_X5_count_60 : decode (bc mX5_count) 60 = .ok (.getfield 172, 3) := by decide +kernel
theorem d_X5_count_63 : decode (bc mX5_count) 63 = .ok (.ireturn, 1) := by decide +kernel
theorem d_X5_count_64 : decode (bc mX5_count) 64 = .ok (.aload_n 0, 1) := by decide +kernel
theorem d_X5_count_65 : decode (bc mX5_count) 65 = .ok (.getfield 16, 3) := by decide +kernel
theorem d_X5_count_68 : decode (bc mX5_count) 68 = .ok (.getfield 175, 3) := by decide +kernel
theorem d_X5_count_71 : decode (bc mX5_count) 71 = .ok (.ireturn, 1) := by decide +kernel
theorem d_X5_count_72 : decode (bc mX5_count) 72 = .ok (.aload_n 0, 1) := by decide +kernel
theorem d_X5_count_73 : decode (bc mX5_count) 73 = .ok (.getfield 100, 3) := by decide +kernel
theorem d_X5_count_76 : decode (bc mX5_count) 76 = .ok (.ireturn, 1) := by decide +kernel
theorem d_X5_count_77 : decode (bc mX5_count) 77 = .ok (.aload_n 0, 1) := by decide +kernel
theorem d_X5_count_78 : decode (bc mX5_count) 78 = .ok (.getfield 178, 3) := by decide +kernel
theorem d_X5_count_81 : decode (bc mX5_count) 81 = .ok (.ireturn, 1) := by decide +kernel
theorem d_X5_count_82 : decode (bc mX5_count) 82 = .ok (.aload_n 0, 1) := by decide +kernel
theorem d_X5_count_83 : decode (bc mX5_count) 83 = .ok (.getfield 16, 3) := by decide +kernel
theorem d_X5_count_86 : decode (bc mX5_count) 86 = .ok (.getfield 55, 3) := by decide +kernel
theorem d_X5_count_89 : decode (bc mX5_count) 89 = .ok (.iconst 0, 1) := by decide +kernel
theorem d_X5_count_90 : decode (bc mX5_count) 90 = .ok (.iaload, 1) := by decide +kernel
theorem d_X5_count_91 : decode (bc mX5_count) 91 = .ok (.ireturn, 1) := by decide +kernel
theorem d_X5_count_92 : decode (bc mX5_count) 92 = .ok (.aload_n 0, 1) := by decide +kernel
theorem d_X5_count_93 : decode (bc mX5_count) 93 = .ok (.getfield 16, 3) := by decide +kernel
theorem d_X5_count_96 : decode (bc mX5_count) 96 = .ok (.getfield 55, 3) := by decide +kernel
theorem d_X5_count_99 : decode (bc mX5_count) 99 = .ok (.iconst 1, 1) := by decide +kernel
theorem d_X5_count_100 : decode (bc mX5_count) 100 = .ok (.iaload, 1) := by decide +kernel
theorem d_X5_count_101 : decode (bc mX5_count) 101 = .ok (.ireturn, 1) := by decide +kernel
theorem d_X5_count_102 : decode (bc mX5_count) 102 = .ok (.aload_n 0, 1) := by decide +kernel
theorem d_X5_count_103 : decode (bc mX5_count) 103 = .ok (.getfield 16, 3) := by decide +kernel
theorem d_X5_count_106 : decode (bc mX5_count) 106 = .ok (.invokevirtual 181, 3) := by decide +kernel
theorem d_X5_count_109 : decode (bc mX5_count) 109 = .ok (.ireturn, 1) := by decide +kernel
theorem d_X5_count_110 : decode (bc mX5_count) 110 = .ok (.bipush (-2), 2) := by decide +kernel
theorem d_X5_count_112 : decode (bc mX5_count) 112 = .ok (.ireturn, 1) := by decide +kernel
theorem d_X5_fresh_0 : decode (bc mX5_fresh) 0 = .ok (.iload_n 1, 1) := by decide +kernel
theorem d_X5_fresh_1 : decode (bc mX5_fresh) 1 = .ok (.invokestatic 79, 3) := by decide +kernel
theorem d_X5_fresh_4 : decode (bc mX5_fresh) 4 = .ok (.ifCond .eq 18, 3) := by decide +kernel
theorem d_X5_fresh_7 : decode (bc mX5_fresh) 7 = .ok (.aload_n 0, 1) := by decide +kernel
theorem d_X5_fresh_8 : decode (bc mX5_fresh) 8 = .ok (.getfield 37, 3) := by decide +kernel
theorem d_X5_fresh_11 : decode (bc mX5_fresh) 11 = .ok (.aload_n 0, 1) := by decide +kernel
theorem d_X5_fresh_12 : decode (bc mX5_fresh) 12 = .ok (.getfield 16, 3) := by decide +kernel
theorem d_X5_fresh_15 : decode (bc mX5_fresh) 15 = .ok (.iload_n 1, 1) := by decide +kernel
theorem d_X5_fresh_16 : decode (bc mX5_fresh) 16 = .ok (.invokevirtual 185, 3) := by decide +kernel
theorem d_X5_fresh_19 : decode (bc mX5_fresh) 19 = .ok (.goto 4, 3) := by decide +kernel
theorem d_X5_fresh_22 : decode (bc mX5_fresh) 22 = .ok (.iconst (-1), 1) := by decide +kernel
theorem d_X5_fresh_23 : decode (bc mX5_fresh) 23 = .ok (.ireturn, 1) := by decide +kernel
theorem d_X5_fits_0 : decode (bc mX5_fits) 0 = .ok (.iload_n 1, 1) := by decide +kernel
theorem d_X5_fits_1 : decode (bc mX5_fits) 1 = .ok (.invokestatic 79, 3) := by decide +kernel
theorem d_X5_fits_4 : decode (bc mX5_fits) 4 = .ok (.ifCond .eq 18, 3) := by decide +kernel
theorem d_X5_fits_7 : decode (bc mX5_fits) 7 = .ok (.aload_n 0, 1) := by decide +kernel
theorem d_X5_fits_8 : decode (bc mX5_fits) 8 = .ok (.getfield 37, 3) := by decide +kernel
theorem d_X5_fits_11 : decode (bc mX5_fits) 11 = .ok (.aload_n 0, 1) := by decide +kernel
theorem d_X5_fits_12 : decode (bc mX5_fits) 12 = .ok (.getfield 16, 3) := by decide +kernel
theorem d_X5_fits_15 : decode (bc mX5_fits) 15 = .ok (.iload_n 1, 1) := by decide +kernel
theorem d_X5_fits_16 : decode (bc mX5_fits) 16 = .ok (.invokevirtual 188, 3) := by decide +kernel
theorem d_X5_fits_19 : decode (bc mX5_fits) 19 = .ok (.goto 4, 3) := by decide +kernel
theorem d_X5_fits_22 : decode (bc mX5_fits) 22 = .ok (.iconst (-1), 1) := by decide +kernel
theorem d_X5_fits_23 : decode (bc mX5_fits) 23 = .ok (.ireturn, 1) := by decide +kernel
theorem d_X5_looksAt_0 : decode (bc mX5_looksAt) 0 = .ok (.iload_n 1, 1) := by decide +kernel
theorem d_X5_looksAt_1 : decode (bc mX5_looksAt) 1 = .ok (.invokestatic 79, 3) := by decide +kernel
theorem d_X5_looksAt_4 : decode (bc mX5_looksAt) 4 = .ok (.ifCond .eq 18, 3) := by decide +kernel
theorem d_X5_looksAt_7 : decode (bc mX5_looksAt) 7 = .ok (.aload_n 0, 1) := by decide +kernel
theorem d_X5_looksAt_8 : decode (bc mX5_looksAt) 8 = .ok (.getfield 37, 3) := by decide +kernel
theorem d_X5_looksAt_11 : decode (bc mX5_looksAt) 11 = .ok (.aload_n 0, 1) := by decide +kernel
theorem d_X5_looksAt_12 : decode (bc mX5_looksAt) 12 = .ok (.getfield 16, 3) := by decide +kernel
theorem d_X5_looksAt_15 : decode (bc mX5_looksAt) 15 = .ok (.iload_n 1, 1) := by decide +kernel
theorem d_X5_looksAt_16 : decode (bc mX5_looksAt) 16 = .ok (.invokevirtual 191, 3) := by decide +kernel
theorem d_X5_looksAt_19 : decode (bc mX5_looksAt) 19 = .ok (.goto 4, 3) := by decide +kernel
theorem d_X5_looksAt_22 : decode (bc mX5_looksAt) 22 = .ok (.iconst (-1), 1) := by decide +kernel
theorem d_X5_looksAt_23 : decode (bc mX5_looksAt) 23 = .ok (.ireturn, 1) := by decide +kernel
theorem d_X5_changes_0 : decode (bc mX5_changes) 0 = .ok (.iload_n 1, 1) := by decide +kernel
theorem d_X5_changes_1 : decode (bc mX5_changes) 1 = .ok (.invokestatic 61, 3) := by decide +kernel
theorem d_X5_changes_4 : decode (bc mX5_changes) 4 = .ok (.ifCond .ne 5, 3) := by decide +kernel
theorem d_X5_changes_7 : decode (bc mX5_changes) 7 = .ok (.iconst (-1), 1) := by decide +kernel
theorem d_X5_changes_8 : decode (bc mX5_changes) 8 = .ok (.ireturn, 1) := by decide +kernel
theorem d_X5_changes_9 : decode (bc mX5_changes) 9 = .ok (.iload_n 2, 1) := by decide +kernel
theorem d_X5_changes_10 : decode (bc mX5_changes) 10 = .ok (.invokestatic 65, 3) := by decide +kernel
theorem d_X5_changes_13 : decode (bc mX5_changes) 13 = .ok (.ifCond .ne 6, 3) := by decide +kernel
theorem d_X5_changes_16 : decode (bc mX5_changes) 16 = .ok (.bipush (-2), 2) := by decide +kernel
theorem d_X5_changes_18 : decode (bc mX5_changes) 18 = .ok (.ireturn, 1) := by decide +kernel
theorem d_X5_changes_19 : decode (bc mX5_changes) 19 = .ok (.aload_n 0, 1) := by decide +kernel
theorem d_X5_changes_20 : decode (bc mX5_changes) 20 = .ok (.getfield 31, 3) := by decide +kernel
theorem d_X5_changes_23 : decode (bc mX5_changes) 23 = .ok (.aload_n 0, 1) := by decide +kernel
theorem d_X5_changes_24 : decode (bc mX5_changes) 24 = .ok (.getfield 16, 3) := by decide +kernel
theorem d_X5_changes_27 : decode (bc mX5_changes) 27 = .ok (.invokevirtual 194, 3) := by decide +kernel
theorem d_X5_changes_30 : decode (bc mX5_changes) 30 = .ok (.aload_n 0, 1) := by decide +kernel
theorem d_X5_changes_31 : decode (bc mX5_changes) 31 = .ok (.getfield 31, 3) := by decide +kernel
theorem d_X5_changes_34 : decode (bc mX5_changes) 34 = .ok (.getfield 68, 3) := by decide +kernel
theorem d_X5_changes_37 : decode (bc mX5_changes) 37 = .ok (.iload_n 1, 1) := by decide +kernel
theorem d_X5_changes_38 : decode (bc mX5_changes) 38 = .ok (.iload_n 2, 1) := by decide +kernel
theorem d_X5_changes_39 : decode (bc mX5_changes) 39 = .ok (.iastore, 1) := by decide +kernel
theorem d_X5_changes_40 : decode (bc mX5_changes) 40 = .ok (.iconst 0, 1) := by decide +kernel
theorem d_X5_changes_41 : decode (bc mX5_changes) 41 = .ok (.istore_n 3, 1) := by decide +kernel
theorem d_X5_changes_42 : decode (bc mX5_changes) 42 = .ok (.iconst 0, 1) := by decide +kernel
theorem d_X5_changes_43 : decode (bc mX5_changes) 43 = .ok (.istore 4, 2) := by decide +kernel
theorem d_X5_changes_45 : decode (bc mX5_changes) 45 = .ok (.iload 4, 2) := by decide +kernel
theorem d_X5_changes_47 : decode (bc mX5_changes) 47 = .ok (.bipush 6, 2) := by decide +kernel
theorem d_X5_changes_49 : decode (bc mX5_changes) 49 = .ok (.if_icmp .ge 45, 3) := by decide +kernel
theorem d_X5_changes_52 : decode (bc mX5_changes) 52 = .ok (.aload_n 0, 1) := by decide +kernel
theorem d_X5_changes_53 : decode (bc mX5_changes) 53 = .ok (.getfield 37, 3) := by decide +kernel
theorem d_X5_changes_56 : decode (bc mX5_changes) 56 = .ok (.aload_n 0, 1) := by decide +kernel
theorem d_X5_changes_57 : decode (bc mX5_changes) 57 = .ok (.getfield 16, 3) := by decide +kernel
theorem d_X5_changes_60 : decode (bc mX5_changes) 60 = .ok (.iload 4, 2) := by decide +kernel
theorem d_X5_changes_62 : decode (bc mX5_changes) 62 = .ok (.invokevirtual 185, 3) := by decide +kernel
theorem d_X5_changes_65 : decode (bc mX5_changes) 65 = .ok (.aload_n 0, 1) := by decide +kernel
theorem d_X5_changes_66 : decode (bc mX5_changes) 66 = .ok (.getfield 37, 3) := by decide +kernel
theorem d_X5_changes_69 : decode (bc mX5_changes) 69 = .ok (.aload_n 0, 1) := by decide +kernel
theorem d_X5_changes_70 : decode (bc mX5_changes) 70 = .ok (.getfield 31, 3) := by decide +kernel
theorem d_X5_changes_73 : decode (bc mX5_changes) 73 = .ok (.iload 4, 2) := by decide +kernel
theorem d_X5_changes_75 : decode (bc mX5_changes) 75 = .ok (.invokevirtual 185, 3) := by decide +kernel
theorem d_X5_changes_78 : decode (bc mX5_changes) 78 = .ok (.if_icmp .eq 10, 3) := by decide +kernel
theorem d_X5_changes_81 : decode (bc mX5_changes) 81 = .ok (.iload_n 3, 1) := by decide +kernel
theorem d_X5_changes_82 : decode (bc mX5_changes) 82 = .ok (.iconst 1, 1) := by decide +kernel
theorem d_X5_changes_83 : decode (bc mX5_changes) 83 = .ok (.iload 4, 2) := by decide +kernel
theorem d_X5_changes_85 : decode (bc mX5_changes) 85 = .ok (.ishl, 1) := by decide +kernel
theorem d_X5_changes_86 : decode (bc mX5_changes) 86 = .ok (.ior, 1) := by decide +kernel
theorem d_X5_changes_87 : decode (bc mX5_changes) 87 = .ok (.istore_n 3, 1) := by decide +kernel
theorem d_X5_changes_88 : decode (bc mX5_changes) 88 = .ok (.iinc 4 1, 3) := by decide +kernel
theorem d_X5_changes_91 : decode (bc mX5_changes) 91 = .ok (.goto (-46), 3) := by decide +kernel
theorem d_X5_changes_94 : decode (bc mX5_changes) 94 = .ok (.iload_n 3, 1) := by decide +kernel
theorem d_X5_changes_95 : decode (bc mX5_changes) 95 = .ok (.ireturn, 1) := by decide +kernel
theorem d_X5_numberFor_0 : decode (bc mX5_numberFor) 0 = .ok (.iload_n 1, 1) := by decide +kernel
theorem d_X5_numberFor_1 : decode (bc mX5_numberFor) 1 = .ok (.invokestatic 61, 3) := by decide +kernel
theorem d_X5_numberFor_4 : decode (bc mX5_numberFor) 4 = .ok (.ifCond .eq 10, 3) := by decide +kernel
theorem d_X5_numberFor_7 : decode (bc mX5_numberFor) 7 = .ok (.iload_n 2, 1) := by decide +kernel
theorem d_X5_numberFor_8 : decode (bc mX5_numberFor) 8 = .ok (.invokestatic 79, 3) := by decide +kernel
theorem d_X5_numberFor_11 : decode (bc mX5_numberFor) 11 = .ok (.ifCond .ne 5, 3) := by decide +kernel
theorem d_X5_numberFor_14 : decode (bc mX5_numberFor) 14 = .ok (.iconst (-1), 1) := by decide +kernel
theorem d_X5_numberFor_15 : decode (bc mX5_numberFor) 15 = .ok (.ireturn, 1) := by decide +kernel
theorem d_X5_numberFor_16 : decode (bc mX5_numberFor) 16 = .ok (.iload_n 3, 1) := by decide +kernel
theorem d_X5_numberFor_17 : decode (bc mX5_numberFor) 17 = .ok (.invokestatic 65, 3) := by decide +kernel
theorem d_X5_numberFor_20 : decode (bc mX5_numberFor) 20 = .ok (.ifCond .ne 12, 3) := by decide +kernel
theorem d_X5_numberFor_23 : decode (bc mX5_numberFor) 23 = .ok (.iload_n 3, 1) := by decide +kernel
theorem d_X5_numberFor_24 : decode (bc mX5_numberFor) 24 = .ok (.bipush 100, 2) := by decide +kernel
theorem d_X5_numberFor_26 : decode (bc mX5_numberFor) 26 = .ok (.if_icmp .eq 6, 3) := by decide +kernel
theorem d_X5_numberFor_29 : decode (bc mX5_numberFor) 29 = .ok (.bipush (-2), 2) := by decide +kernel
theorem d_X5_numberFor_31 : decode (bc mX5_numberFor) 31 = .ok (.ireturn, 1) := by decide +kernel
theorem d_X5_numberFor_32 : decode (bc mX5_numberFor) 32 = .ok (.aload_n 0, 1) := by decide +kernel
theorem d_X5_numberFor_33 : decode (bc mX5_numberFor) 33 = .ok (.getfield 31, 3) := by decide +kernel
theorem d_X5_numberFor_36 : decode (bc mX5_numberFor) 36 = .ok (.aload_n 0, 1) := by decide +kernel
theorem d_X5_numberFor_37 : decode (bc mX5_numberFor) 37 = .ok (.getfield 16, 3) := by decide +kernel
theorem d_X5_numberFor_40 : decode (bc mX5_numberFor) 40 = .ok (.invokevirtual 194, 3) := by decide +kernel
theorem d_X5_numberFor_43 : decode (bc mX5_numberFor) 43 = .ok (.iconst 0, 1) := by decide +kernel
theorem d_X5_numberFor_44 : decode (bc mX5_numberFor) 44 = .ok (.istore 4, 2) := by decide +kernel
theorem d_X5_numberFor_46 : decode (bc mX5_numberFor) 46 = .ok (.iload 4, 2) := by decide +kernel
theorem d_X5_numberFor_48 : decode (bc mX5_numberFor) 48 = .ok (.bipush 100, 2) := by decide +kernel
theorem d_X5_numberFor_50 : decode (bc mX5_numberFor) 50 = .ok (.if_icmp .ge 39, 3) := by decide +kernel
theorem d_X5_numberFor_53 : decode (bc mX5_numberFor) 53 = .ok (.aload_n 0, 1) := by decide +kernel
theorem d_X5_numberFor_54 : decode (bc mX5_numberFor) 54 = .ok (.getfield 31, 3) := by decide +kernel
theorem d_X5_numberFor_57 : decode (bc mX5_numberFor) 57 = .ok (.getfield 68, 3) := by decide +kernel
theorem d_X5_numberFor_60 : decode (bc mX5_numberFor) 60 = .ok (.iload_n 1, 1) := by decide +kernel
theorem d_X5_numberFor_61 : decode (bc mX5_numberFor) 61 = .ok (.iload 4, 2) := by decide +kernel
theorem d_X5_numberFor_63 : decode (bc mX5_numberFor) 63 = .ok (.iastore, 1) := by decide +kernel
theorem d_X5_numberFor_64 : decode (bc mX5_numberFor) 64 = .ok (.aload_n 0, 1) := by decide +kernel
theorem d_X5_numberFor_65 : decode (bc mX5_numberFor) 65 = .ok (.getfield 37, 3) := by decide +kernel
theorem d_X5_numberFor_68 : decode (bc mX5_numberFor) 68 = .ok (.aload_n 0, 1) := by decide +kernel
theorem d_X5_numberFor_69 : decode (bc mX5_numberFor) 69 = .ok (.getfield 31, 3) := by decide +kernel
theorem d_X5_numberFor_72 : decode (bc mX5_numberFor) 72 = .ok (.iload_n 2, 1) := by decide +kernel
theorem d_X5_numberFor_73 : decode (bc mX5_numberFor) 73 = .ok (.invokevirtual 185, 3) := by decide +kernel
theorem d_X5_numberFor_76 : decode (bc mX5_numberFor) 76 = .ok (.iload_n 3, 1) := by decide +kernel
theorem d_X5_numberFor_77 : decode (bc mX5_numberFor) 77 = .ok (.if_icmp .ne 6, 3) := by decide +kernel
theorem d_X5_numberFor_80 : decode (bc mX5_numberFor) 80 = .ok (.iload 4, 2) := by decide +kernel
theorem d_X5_numberFor_82 : decode (bc mX5_numberFor) 82 = .ok (.ireturn, 1) := by decide +kernel
theorem d_X5_numberFor_83 : decode (bc mX5_numberFor) 83 = .ok (.iinc 4 1, 3) := by decide +kernel
theorem d_X5_numberFor_86 : decode (bc mX5_numberFor) 86 = .ok (.goto (-40), 3) := by decide +kernel
theorem d_X5_numberFor_89 : decode (bc mX5_numberFor) 89 = .ok (.bipush (-6), 2) := by decide +kernel
theorem d_X5_numberFor_91 : decode (bc mX5_numberFor) 91 = .ok (.ireturn, 1) := by decide +kernel
theorem d_X5_stepsFor_0 : decode (bc mX5_stepsFor) 0 = .ok (.iload_n 1, 1) := by decide +kernel
theorem d_X5_stepsFor_1 : decode (bc mX5_stepsFor) 1 = .ok (.invokestatic 79, 3) := by decide +kernel
theorem d_X5_stepsFor_4 : decode (bc mX5_stepsFor) 4 = .ok (.ifCond .ne 5, 3) := by decide +kernel
theorem d_X5_stepsFor_7 : decode (bc mX5_stepsFor) 7 = .ok (.iconst (-1), 1) := by decide +kernel
end
section
theorem d_X5_stepsFor_8 : decode (bc mX5_stepsFor) 8 = .ok (.ireturn, 1) := by decide +kernel
theorem d_X5_stepsFor_9 : decode (bc mX5_stepsFor) 9 = .ok (.aload_n 0, 1) := by decide +kernel
theorem d_X5_stepsFor_10 : decode (bc mX5_stepsFor) 10 = .ok (.getfield 31, 3) := by decide +kernel
theorem d_X5_stepsFor_13 : decode (bc mX5_stepsFor) 13 = .ok (.aload_n 0, 1) := by decide +kernel
theorem d_X5_stepsFor_14 : decode (bc mX5_stepsFor) 14 = .ok (.getfield 16, 3) := by decide +kernel
theorem d_X5_stepsFor_17 : decode (bc mX5_stepsFor) 17 = .ok (.invokevirtual 194, 3) := by decide +kernel
theorem d_X5_stepsFor_20 : decode (bc mX5_stepsFor) 20 = .ok (.aload_n 0, 1) := by decide +kernel
theorem d_X5_stepsFor_21 : decode (bc mX5_stepsFor) 21 = .ok (.getfield 37, 3) := by decide +kernel
theorem d_X5_stepsFor_24 : decode (bc mX5_stepsFor) 24 = .ok (.aload_n 0, 1) := by decide +kernel
theorem d_X5_stepsFor_25 : decode (bc mX5_stepsFor) 25 = .ok (.getfield 31, 3) := by decide +kernel
theorem d_X5_stepsFor_28 : decode (bc mX5_stepsFor) 28 = .ok (.iload_n 1, 1) := by decide +kernel
theorem d_X5_stepsFor_29 : decode (bc mX5_stepsFor) 29 = .ok (.invokevirtual 82, 3) := by decide +kernel
theorem d_X5_stepsFor_32 : decode (bc mX5_stepsFor) 32 = .ok (.pop, 1) := by decide +kernel
theorem d_X5_stepsFor_33 : decode (bc mX5_stepsFor) 33 = .ok (.aload_n 0, 1) := by decide +kernel
theorem d_X5_stepsFor_34 : decode (bc mX5_stepsFor) 34 = .ok (.getfield 31, 3) := by decide +kernel
theorem d_X5_stepsFor_37 : decode (bc mX5_stepsFor) 37 = .ok (.getfield 172, 3) := by decide +kernel
theorem d_X5_stepsFor_40 : decode (bc mX5_stepsFor) 40 = .ok (.aload_n 0, 1) := by decide +kernel
theorem d_X5_stepsFor_41 : decode (bc mX5_stepsFor) 41 = .ok (.getfield 16, 3) := by decide +kernel
theorem d_X5_stepsFor_44 : decode (bc mX5_stepsFor) 44 = .ok (.getfield 172, 3) := by decide +kernel
theorem d_X5_stepsFor_47 : decode (bc mX5_stepsFor) 47 = .ok (.isub, 1) := by decide +kernel
theorem d_X5_stepsFor_48 : decode (bc mX5_stepsFor) 48 = .ok (.ireturn, 1) := by decide +kernel
theorem d_X5_undo_0 : decode (bc mX5_undo) 0 = .ok (.aload_n 0, 1) := by decide +kernel
theorem d_X5_undo_1 : decode (bc mX5_undo) 1 = .ok (.getfield 178, 3) := by decide +kernel
theorem d_X5_undo_4 : decode (bc mX5_undo) 4 = .ok (.ifCond .ne 6, 3) := by decide +kernel
theorem d_X5_undo_7 : decode (bc mX5_undo) 7 = .ok (.bipush (-5), 2) := by decide +kernel
theorem d_X5_undo_9 : decode (bc mX5_undo) 9 = .ok (.ireturn, 1) := by decide +kernel
theorem d_X5_undo_10 : decode (bc mX5_undo) 10 = .ok (.aload_n 0, 1) := by decide +kernel
theorem d_X5_undo_11 : decode (bc mX5_undo) 11 = .ok (.dup, 1) := by decide +kernel
theorem d_X5_undo_12 : decode (bc mX5_undo) 12 = .ok (.getfield 178, 3) := by decide +kernel
theorem d_X5_undo_15 : decode (bc mX5_undo) 15 = .ok (.iconst 1, 1) := by decide +kernel
theorem d_X5_undo_16 : decode (bc mX5_undo) 16 = .ok (.isub, 1) := by decide +kernel
theorem d_X5_undo_17 : decode (bc mX5_undo) 17 = .ok (.putfield 178, 3) := by decide +kernel
theorem d_X5_undo_20 : decode (bc mX5_undo) 20 = .ok (.aload_n 0, 1) := by decide +kernel
theorem d_X5_undo_21 : decode (bc mX5_undo) 21 = .ok (.getfield 20, 3) := by decide +kernel
theorem d_X5_undo_24 : decode (bc mX5_undo) 24 = .ok (.aload_n 0, 1) := by decide +kernel
theorem d_X5_undo_25 : decode (bc mX5_undo) 25 = .ok (.getfield 178, 3) := by decide +kernel
theorem d_X5_undo_28 : decode (bc mX5_undo) 28 = .ok (.aaload, 1) := by decide +kernel
theorem d_X5_undo_29 : decode (bc mX5_undo) 29 = .ok (.astore_n 1, 1) := by decide +kernel
theorem d_X5_undo_30 : decode (bc mX5_undo) 30 = .ok (.aload_n 0, 1) := by decide +kernel
theorem d_X5_undo_31 : decode (bc mX5_undo) 31 = .ok (.getfield 20, 3) := by decide +kernel
theorem d_X5_undo_34 : decode (bc mX5_undo) 34 = .ok (.aload_n 0, 1) := by decide +kernel
theorem d_X5_undo_35 : decode (bc mX5_undo) 35 = .ok (.getfield 178, 3) := by decide +kernel
theorem d_X5_undo_38 : decode (bc mX5_undo) 38 = .ok (.aload_n 0, 1) := by decide +kernel
theorem d_X5_undo_39 : decode (bc mX5_undo) 39 = .ok (.getfield 16, 3) := by decide +kernel
theorem d_X5_undo_42 : decode (bc mX5_undo) 42 = .ok (.aastore, 1) := by decide +kernel
theorem d_X5_undo_43 : decode (bc mX5_undo) 43 = .ok (.aload_n 0, 1) := by decide +kernel
theorem d_X5_undo_44 : decode (bc mX5_undo) 44 = .ok (.aload_n 1, 1) := by decide +kernel
theorem d_X5_undo_45 : decode (bc mX5_undo) 45 = .ok (.putfield 16, 3) := by decide +kernel
theorem d_X5_undo_48 : decode (bc mX5_undo) 48 = .ok (.aload_n 0, 1) := by decide +kernel
theorem d_X5_undo_49 : decode (bc mX5_undo) 49 = .ok (.getfield 178, 3) := by decide +kernel
theorem d_X5_undo_52 : decode (bc mX5_undo) 52 = .ok (.ireturn, 1) := by decide +kernel
theorem d_X5_save_0 : decode (bc mX5_save) 0 = .ok (.iload_n 1, 1) := by decide +kernel
theorem d_X5_save_1 : decode (bc mX5_save) 1 = .ok (.invokestatic 198, 3) := by decide +kernel
theorem d_X5_save_4 : decode (bc mX5_save) 4 = .ok (.ifCond .ne 6, 3) := by decide +kernel
theorem d_X5_save_7 : decode (bc mX5_save) 7 = .ok (.bipush (-2), 2) := by decide +kernel
theorem d_X5_save_9 : decode (bc mX5_save) 9 = .ok (.ireturn, 1) := by decide +kernel
theorem d_X5_save_10 : decode (bc mX5_save) 10 = .ok (.aload_n 0, 1) := by decide +kernel
theorem d_X5_save_11 : decode (bc mX5_save) 11 = .ok (.getfield 24, 3) := by decide +kernel
theorem d_X5_save_14 : decode (bc mX5_save) 14 = .ok (.iload_n 1, 1) := by decide +kernel
theorem d_X5_save_15 : decode (bc mX5_save) 15 = .ok (.aaload, 1) := by decide +kernel
theorem d_X5_save_16 : decode (bc mX5_save) 16 = .ok (.aload_n 0, 1) := by decide +kernel
theorem d_X5_save_17 : decode (bc mX5_save) 17 = .ok (.getfield 16, 3) := by decide +kernel
theorem d_X5_save_20 : decode (bc mX5_save) 20 = .ok (.invokevirtual 194, 3) := by decide +kernel
theorem d_X5_save_23 : decode (bc mX5_save) 23 = .ok (.aload_n 0, 1) := by decide +kernel
theorem d_X5_save_24 : decode (bc mX5_save) 24 = .ok (.getfield 27, 3) := by decide +kernel
theorem d_X5_save_27 : decode (bc mX5_save) 27 = .ok (.iload_n 1, 1) := by decide +kernel
theorem d_X5_save_28 : decode (bc mX5_save) 28 = .ok (.iconst 1, 1) := by decide +kernel
theorem d_X5_save_29 : decode (bc mX5_save) 29 = .ok (.bastore, 1) := by decide +kernel
theorem d_X5_save_30 : decode (bc mX5_save) 30 = .ok (.aload_n 0, 1) := by decide +kernel
theorem d_X5_save_31 : decode (bc mX5_save) 31 = .ok (.getfield 16, 3) := by decide +kernel
theorem d_X5_save_34 : decode (bc mX5_save) 34 = .ok (.getfield 93, 3) := by decide +kernel
theorem d_X5_save_37 : decode (bc mX5_save) 37 = .ok (.ireturn, 1) := by decide +kernel
theorem d_X5_restore_0 : decode (bc mX5_restore) 0 = .ok (.iload_n 1, 1) := by decide +kernel
theorem d_X5_restore_1 : decode (bc mX5_restore) 1 = .ok (.invokestatic 198, 3) := by decide +kernel
theorem d_X5_restore_4 : decode (bc mX5_restore) 4 = .ok (.ifCond .ne 6, 3) := by decide +kernel
theorem d_X5_restore_7 : decode (bc mX5_restore) 7 = .ok (.bipush (-2), 2) := by decide +kernel
theorem d_X5_restore_9 : decode (bc mX5_restore) 9 = .ok (.ireturn, 1) := by decide +kernel
theorem d_X5_restore_10 : decode (bc mX5_restore) 10 = .ok (.aload_n 0, 1) := by decide +kernel
theorem d_X5_restore_11 : decode (bc mX5_restore) 11 = .ok (.getfield 27, 3) := by decide +kernel
theorem d_X5_restore_14 : decode (bc mX5_restore) 14 = .ok (.iload_n 1, 1) := by decide +kernel
theorem d_X5_restore_15 : decode (bc mX5_restore) 15 = .ok (.baload, 1) := by decide +kernel
theorem d_X5_restore_16 : decode (bc mX5_restore) 16 = .ok (.ifCond .ne 6, 3) := by decide +kernel
theorem d_X5_restore_19 : decode (bc mX5_restore) 19 = .ok (.bipush (-5), 2) := by decide +kernel
theorem d_X5_restore_21 : decode (bc mX5_restore) 21 = .ok (.ireturn, 1) := by decide +kernel
theorem d_X5_restore_22 : decode (bc mX5_restore) 22 = .ok (.aload_n 0, 1) := by decide +kernel
theorem d_X5_restore_23 : decode (bc mX5_restore) 23 = .ok (.invokevirtual 52, 3) := by decide +kernel
theorem d_X5_restore_26 : decode (bc mX5_restore) 26 = .ok (.aload_n 0, 1) := by decide +kernel
theorem d_X5_restore_27 : decode (bc mX5_restore) 27 = .ok (.getfield 16, 3) := by decide +kernel
theorem d_X5_restore_30 : decode (bc mX5_restore) 30 = .ok (.aload_n 0, 1) := by decide +kernel
theorem d_X5_restore_31 : decode (bc mX5_restore) 31 = .ok (.getfield 24, 3) := by decide +kernel
theorem d_X5_restore_34 : decode (bc mX5_restore) 34 = .ok (.iload_n 1, 1) := by decide +kernel
theorem d_X5_restore_35 : decode (bc mX5_restore) 35 = .ok (.aaload, 1) := by decide +kernel
theorem d_X5_restore_36 : decode (bc mX5_restore) 36 = .ok (.invokevirtual 194, 3) := by decide +kernel
theorem d_X5_restore_39 : decode (bc mX5_restore) 39 = .ok (.aload_n 0, 1) := by decide +kernel
theorem d_X5_restore_40 : decode (bc mX5_restore) 40 = .ok (.getfield 16, 3) := by decide +kernel
theorem d_X5_restore_43 : decode (bc mX5_restore) 43 = .ok (.getfield 93, 3) := by decide +kernel
theorem d_X5_restore_46 : decode (bc mX5_restore) 46 = .ok (.ireturn, 1) := by decide +kernel
theorem d_X5_recordChange_0 : decode (bc mX5_recordChange) 0 = .ok (.aload_n 0, 1) := by decide +kernel
theorem d_X5_recordChange_1 : decode (bc mX5_recordChange) 1 = .ok (.getfield 178, 3) := by decide +kernel
theorem d_X5_recordChange_4 : decode (bc mX5_recordChange) 4 = .ok (.bipush 6, 2) := by decide +kernel
theorem d_X5_recordChange_6 : decode (bc mX5_recordChange) 6 = .ok (.if_icmp .ne 7, 3) := by decide +kernel
theorem d_X5_recordChange_9 : decode (bc mX5_recordChange) 9 = .ok (.aload_n 0, 1) := by decide +kernel
theorem d_X5_recordChange_10 : decode (bc mX5_recordChange) 10 = .ok (.invokevirtual 201, 3) := by decide +kernel
theorem d_X5_recordChange_13 : decode (bc mX5_recordChange) 13 = .ok (.aload_n 0, 1) := by decide +kernel
theorem d_X5_recordChange_14 : decode (bc mX5_recordChange) 14 = .ok (.getfield 20, 3) := by decide +kernel
theorem d_X5_recordChange_17 : decode (bc mX5_recordChange) 17 = .ok (.aload_n 0, 1) := by decide +kernel
theorem d_X5_recordChange_18 : decode (bc mX5_recordChange) 18 = .ok (.getfield 178, 3) := by decide +kernel
theorem d_X5_recordChange_21 : decode (bc mX5_recordChange) 21 = .ok (.aaload, 1) := by decide +kernel
theorem d_X5_recordChange_22 : decode (bc mX5_recordChange) 22 = .ok (.aload_n 0, 1) := by decide +kernel
theorem d_X5_recordChange_23 : decode (bc mX5_recordChange) 23 = .ok (.getfield 16, 3) := by decide +kernel
theorem d_X5_recordChange_26 : decode (bc mX5_recordChange) 26 = .ok (.invokevirtual 194, 3) := by decide +kernel
theorem d_X5_recordChange_29 : decode (bc mX5_recordChange) 29 = .ok (.aload_n 0, 1) := by decide +kernel
theorem d_X5_recordChange_30 : decode (bc mX5_recordChange) 30 = .ok (.dup, 1) := by decide +kernel
theorem d_X5_recordChange_31 : decode (bc mX5_recordChange) 31 = .ok (.getfield 178, 3) := by decide +kernel
theorem d_X5_recordChange_34 : decode (bc mX5_recordChange) 34 = .ok (.iconst 1, 1) := by decide +kernel
theorem d_X5_recordChange_35 : decode (bc mX5_recordChange) 35 = .ok (.iadd, 1) := by decide +kernel
theorem d_X5_recordChange_36 : decode (bc mX5_recordChange) 36 = .ok (.putfield 178, 3) := by decide +kernel
theorem d_X5_recordChange_39 : decode (bc mX5_recordChange) 39 = .ok (.return_, 1) := by decide +kernel
theorem d_X5_dropOldestChange_0 : decode (bc mX5_dropOldestChange) 0 = .ok (.aload_n 0, 1) := by decide +kernel
theorem d_X5_dropOldestChange_1 : decode (bc mX5_dropOldestChange) 1 = .ok (.getfield 20, 3) := by decide +kernel
theorem d_X5_dropOldestChange_4 : decode (bc mX5_dropOldestChange) 4 = .ok (.iconst 0, 1) := by decide +kernel
theorem d_X5_dropOldestChange_5 : decode (bc mX5_dropOldestChange) 5 = .ok (.aaload, 1) := by decide +kernel
theorem d_X5_dropOldestChange_6 : decode (bc mX5_dropOldestChange) 6 = .ok (.astore_n 1, 1) := by decide +kernel
theorem d_X5_dropOldestChange_7 : decode (bc mX5_dropOldestChange) 7 = .ok (.iconst 1, 1) := by decide +kernel
theorem d_X5_dropOldestChange_8 : decode (bc mX5_dropOldestChange) 8 = .ok (.istore_n 2, 1) := by decide +kernel
theorem d_X5_dropOldestChange_9 : decode (bc mX5_dropOldestChange) 9 = .ok (.iload_n 2, 1) := by decide +kernel
theorem d_X5_dropOldestChange_10 : decode (bc mX5_dropOldestChange) 10 = .ok (.bipush 6, 2) := by decide +kernel
theorem d_X5_dropOldestChange_12 : decode (bc mX5_dropOldestChange) 12 = .ok (.if_icmp .ge 23, 3) := by decide +kernel
theorem d_X5_dropOldestChange_15 : decode (bc mX5_dropOldestChange) 15 = .ok (.aload_n 0, 1) := by decide +kernel
theorem d_X5_dropOldestChange_16 : decode (bc mX5_dropOldestChange) 16 = .ok (.getfield 20, 3) := by decide +kernel
theorem d_X5_dropOldestChange_19 : decode (bc mX5_dropOldestChange) 19 = .ok (.iload_n 2, 1) := by decide +kernel
theorem d_X5_dropOldestChange_20 : decode (bc mX5_dropOldestChange) 20 = .ok (.iconst 1, 1) := by decide +kernel
theorem d_X5_dropOldestChange_21 : decode (bc mX5_dropOldestChange) 21 = .ok (.isub, 1) := by decide +kernel
theorem d_X5_dropOldestChange_22 : decode (bc mX5_dropOldestChange) 22 = .ok (.aload_n 0, 1) := by decide +kernel
theorem d_X5_dropOldestChange_23 : decode (bc mX5_dropOldestChange) 23 = .ok (.getfield 20, 3) := by decide +kernel
theorem d_X5_dropOldestChange_26 : decode (bc mX5_dropOldestChange) 26 = .ok (.iload_n 2, 1) := by decide +kernel
theorem d_X5_dropOldestChange_27 : decode (bc mX5_dropOldestChange) 27 = .ok (.aaload, 1) := by decide +kernel
theorem d_X5_dropOldestChange_28 : decode (bc mX5_dropOldestChange) 28 = .ok (.aastore, 1) := by decide +kernel
theorem d_X5_dropOldestChange_29 : decode (bc mX5_dropOldestChange) 29 = .ok (.iinc 2 1, 3) := by decide +kernel
theorem d_X5_dropOldestChange_32 : decode (bc mX5_dropOldestChange) 32 = .ok (.goto (-23), 3) := by decide +kernel
theorem d_X5_dropOldestChange_35 : decode (bc mX5_dropOldestChange) 35 = .ok (.aload_n 0, 1) := by decide +kernel
theorem d_X5_dropOldestChange_36 : decode (bc mX5_dropOldestChange) 36 = .ok (.getfield 20, 3) := by decide +kernel
theorem d_X5_dropOldestChange_39 : decode (bc mX5_dropOldestChange) 39 = .ok (.iconst 5, 1) := by decide +kernel
theorem d_X5_dropOldestChange_40 : decode (bc mX5_dropOldestChange) 40 = .ok (.aload_n 1, 1) := by decide +kernel
theorem d_X5_dropOldestChange_41 : decode (bc mX5_dropOldestChange) 41 = .ok (.aastore, 1) := by decide +kernel
theorem d_X5_dropOldestChange_42 : decode (bc mX5_dropOldestChange) 42 = .ok (.aload_n 0, 1) := by decide +kernel
theorem d_X5_dropOldestChange_43 : decode (bc mX5_dropOldestChange) 43 = .ok (.iconst 5, 1) := by decide +kernel
theorem d_X5_dropOldestChange_44 : decode (bc mX5_dropOldestChange) 44 = .ok (.putfield 178, 3) := by decide +kernel
theorem d_X5_dropOldestChange_47 : decode (bc mX5_dropOldestChange) 47 = .ok (.return_, 1) := by decide +kernel
theorem d_X5_isMemory_0 : decode (bc mX5_isMemory) 0 = .ok (.iload_n 1, 1) := by decide +kernel
theorem d_X5_isMemory_1 : decode (bc mX5_isMemory) 1 = .ok (.ifCond .lt 18, 3) := by decide +kernel
theorem d_X5_isMemory_4 : decode (bc mX5_isMemory) 4 = .ok (.iload_n 1, 1) := by decide +kernel
theorem d_X5_isMemory_5 : decode (bc mX5_isMemory) 5 = .ok (.aload_n 0, 1) := by decide +kernel
theorem d_X5_isMemory_6 : decode (bc mX5_isMemory) 6 = .ok (.getfield 16, 3) := by decide +kernel
theorem d_X5_isMemory_9 : decode (bc mX5_isMemory) 9 = .ok (.getfield 93, 3) := by decide +kernel
theorem d_X5_isMemory_12 : decode (bc mX5_isMemory) 12 = .ok (.if_icmp .ge 7, 3) := by decide +kernel
theorem d_X5_isMemory_15 : decode (bc mX5_isMemory) 15 = .ok (.iconst 1, 1) := by decide +kernel
theorem d_X5_isMemory_16 : decode (bc mX5_isMemory) 16 = .ok (.goto 4, 3) := by decide +kernel
theorem d_X5_isMemory_19 : decode (bc mX5_isMemory) 19 = .ok (.iconst 0, 1) := by decide +kernel
theorem d_X5_isMemory_20 : decode (bc mX5_isMemory) 20 = .ok (.ireturn, 1) := by decide +kernel
theorem d_X5_isShelf_0 : decode (bc mX5_isShelf) 0 = .ok (.iload_n 0, 1) := by decide +kernel
theorem d_X5_isShelf_1 : decode (bc mX5_isShelf) 1 = .ok (.ifCond .lt 13, 3) := by decide +kernel
theorem d_X5_isShelf_4 : decode (bc mX5_isShelf) 4 = .ok (.iload_n 0, 1) := by decide +kernel
theorem d_X5_isShelf_5 : decode (bc mX5_isShelf) 5 = .ok (.bipush 12, 2) := by decide +kernel
theorem d_X5_isShelf_7 : decode (bc mX5_isShelf) 7 = .ok (.if_icmp .ge 7, 3) := by decide +kernel
theorem d_X5_isShelf_10 : decode (bc mX5_isShelf) 10 = .ok (.iconst 1, 1) := by decide +kernel
theorem d_X5_isShelf_11 : decode (bc mX5_isShelf) 11 = .ok (.goto 4, 3) := by decide +kernel
theorem d_X5_isShelf_14 : decode (bc mX5_isShelf) 14 = .ok (.iconst 0, 1) := by decide +kernel
theorem d_X5_isShelf_15 : decode (bc mX5_isShelf) 15 = .ok (.ireturn, 1) := by decide +kernel
theorem d_X5_isLoaf_0 : decode (bc mX5_isLoaf) 0 = .ok (.iload_n 0, 1) := by decide +kernel
theorem d_X5_isLoaf_1 : decode (bc mX5_isLoaf) 1 = .ok (.ifCond .lt 13, 3) := by decide +kernel
theorem d_X5_isLoaf_4 : decode (bc mX5_isLoaf) 4 = .ok (.iload_n 0, 1) := by decide +kernel
theorem d_X5_isLoaf_5 : decode (bc mX5_isLoaf) 5 = .ok (.bipush 6, 2) := by decide +kernel
theorem d_X5_isLoaf_7 : decode (bc mX5_isLoaf) 7 = .ok (.if_icmp .ge 7, 3) := by decide +kernel
theorem d_X5_isLoaf_10 : decode (bc mX5_isLoaf) 10 = .ok (.iconst 1, 1) := by decide +kernel
theorem d_X5_isLoaf_11 : decode (bc mX5_isLoaf) 11 = .ok (.goto 4, 3) := by decide +kernel
theorem d_X5_isLoaf_14 : decode (bc mX5_isLoaf) 14 = .ok (.iconst 0, 1) := by decide +kernel
theorem d_X5_isLoaf_15 : decode (bc mX5_isLoaf) 15 = .ok (.ireturn, 1) := by decide +kernel
theorem d_X5_isNumber_0 : decode (bc mX5_isNumber) 0 = .ok (.iload_n 0, 1) := by decide +kernel
theorem d_X5_isNumber_1 : decode (bc mX5_isNumber) 1 = .ok (.ifCond .lt 13, 3) := by decide +kernel
theorem d_X5_isNumber_4 : decode (bc mX5_isNumber) 4 = .ok (.iload_n 0, 1) := by decide +kernel
theorem d_X5_isNumber_5 : decode (bc mX5_isNumber) 5 = .ok (.bipush 100, 2) := by decide +kernel
theorem d_X5_isNumber_7 : decode (bc mX5_isNumber) 7 = .ok (.if_icmp .ge 7, 3) := by decide +kernel
theorem d_X5_isNumber_10 : decode (bc mX5_isNumber) 10 = .ok (.iconst 1, 1) := by decide +kernel
theorem d_X5_isNumber_11 : decode (bc mX5_isNumber) 11 = .ok (.goto 4, 3) := by decide +kernel
theorem d_X5_isNumber_14 : decode (bc mX5_isNumber) 14 = .ok (.iconst 0, 1) := by decide +kernel
theorem d_X5_isNumber_15 : decode (bc mX5_isNumber) 15 = .ok (.ireturn, 1) := by decide +kernel
theorem d_X5_isSlot_0 : decode (bc mX5_isSlot) 0 = .ok (.iload_n 0, 1) := by decide +kernel
theorem d_X5_isSlot_1 : decode (bc mX5_isSlot) 1 = .ok (.ifCond .lt 12, 3) := by decide +kernel
theorem d_X5_isSlot_4 : decode (bc mX5_isSlot) 4 = .ok (.iload_n 0, 1) := by decide +kernel
theorem d_X5_isSlot_5 : decode (bc mX5_isSlot) 5 = .ok (.iconst 2, 1) := by decide +kernel
theorem d_X5_isSlot_6 : decode (bc mX5_isSlot) 6 = .ok (.if_icmp .ge 7, 3) := by decide +kernel
theorem d_X5_isSlot_9 : decode (bc mX5_isSlot) 9 = .ok (.iconst 1, 1) := by decide +kernel
theorem d_X5_isSlot_10 : decode (bc mX5_isSlot) 10 = .ok (.goto 4, 3) := by decide +kernel
theorem d_X5_isSlot_13 : decode (bc mX5_isSlot) 13 = .ok (.iconst 0, 1) := by decide +kernel
theorem d_X5_isSlot_14 : decode (bc mX5_isSlot) 14 = .ok (.ireturn, 1) := by decide +kernel
theorem d_X5_isSettingValue_0 : decode (bc mX5_isSettingValue) 0 = .ok (.iload_n 0, 1) := by decide +kernel
theorem d_X5_isSettingValue_1 : decode (bc mX5_isSettingValue) 1 = .ok (.lookupswitch 59 #[(0, 27), (1, 44)], 27) := by decide +kernel
theorem d_X5_isSettingValue_28 : decode (bc mX5_isSettingValue) 28 = .ok (.iload_n 1, 1) := by decide +kernel
theorem d_X5_isSettingValue_29 : decode (bc mX5_isSettingValue) 29 = .ok (.iconst 1, 1) := by decide +kernel
theorem d_X5_isSettingValue_30 : decode (bc mX5_isSettingValue) 30 = .ok (.if_icmp .lt 13, 3) := by decide +kernel
theorem d_X5_isSettingValue_33 : decode (bc mX5_isSettingValue) 33 = .ok (.iload_n 1, 1) := by decide +kernel
theorem d_X5_isSettingValue_34 : decode (bc mX5_isSettingValue) 34 = .ok (.bipush 16, 2) := by decide +kernel
theorem d_X5_isSettingValue_36 : decode (bc mX5_isSettingValue) 36 = .ok (.if_icmp .gt 7, 3) := by decide +kernel
theorem d_X5_isSettingValue_39 : decode (bc mX5_isSettingValue) 39 = .ok (.iconst 1, 1) := by decide +kernel
theorem d_X5_isSettingValue_40 : decode (bc mX5_isSettingValue) 40 = .ok (.goto 4, 3) := by decide +kernel
theorem d_X5_isSettingValue_43 : decode (bc mX5_isSettingValue) 43 = .ok (.iconst 0, 1) := by decide +kernel
theorem d_X5_isSettingValue_44 : decode (bc mX5_isSettingValue) 44 = .ok (.ireturn, 1) := by decide +kernel
theorem d_X5_isSettingValue_45 : decode (bc mX5_isSettingValue) 45 = .ok (.iload_n 1, 1) := by decide +kernel
theorem d_X5_isSettingValue_46 : decode (bc mX5_isSettingValue) 46 = .ok (.ifCond .eq 8, 3) := by decide +kernel
theorem d_X5_isSettingValue_49 : decode (bc mX5_isSettingValue) 49 = .ok (.iload_n 1, 1) := by decide +kernel
theorem d_X5_isSettingValue_50 : decode (bc mX5_isSettingValue) 50 = .ok (.iconst 1, 1) := by decide +kernel
theorem d_X5_isSettingValue_51 : decode (bc mX5_isSettingValue) 51 = .ok (.if_icmp .ne 7, 3) := by decide +kernel
theorem d_X5_isSettingValue_54 : decode (bc mX5_isSettingValue) 54 = .ok (.iconst 1, 1) := by decide +kernel
theorem d_X5_isSettingValue_55 : decode (bc mX5_isSettingValue) 55 = .ok (.goto 4, 3) := by decide +kernel
theorem d_X5_isSettingValue_58 : decode (bc mX5_isSettingValue) 58 = .ok (.iconst 0, 1) := by decide +kernel
theorem d_X5_isSettingValue_59 : decode (bc mX5_isSettingValue) 59 = .ok (.ireturn, 1) := by decide +kernel
theorem d_X5_isSettingValue_60 : decode (bc mX5_isSettingValue) 60 = .ok (.iconst 0, 1) := by decide +kernel
theorem d_X5_isSettingValue_61 : decode (bc mX5_isSettingValue) 61 = .ok (.ireturn, 1) := by decide +kernel
theorem d_X5_bitOf_0 : decode (bc mX5_bitOf) 0 = .ok (.iload_n 0, 1) := by decide +kernel
theorem d_X5_bitOf_1 : decode (bc mX5_bitOf) 1 = .ok (.iload_n 1, 1) := by decide +kernel
theorem d_X5_bitOf_2 : decode (bc mX5_bitOf) 2 = .ok (.iushr, 1) := by decide +kernel
theorem d_X5_bitOf_3 : decode (bc mX5_bitOf) 3 = .ok (.iconst 1, 1) := by decide +kernel
theorem d_X5_bitOf_4 : decode (bc mX5_bitOf) 4 = .ok (.iand, 1) := by decide +kernel
theorem d_X5_bitOf_5 : decode (bc mX5_bitOf) 5 = .ok (.ireturn, 1) := by decide +kernel
theorem d_X5_lengthOfText_0 : decode (bc mX5_lengthOfText) 0 = .ok (.iconst 0, 1) := by decide +kernel
theorem d_X5_lengthOfText_1 : decode (bc mX5_lengthOfText) 1 = .ok (.istore_n 2, 1) := by decide +kernel
theorem d_X5_lengthOfText_2 : decode (bc mX5_lengthOfText) 2 = .ok (.lload_n 0, 1) := by decide +kernel
theorem d_X5_lengthOfText_3 : decode (bc mX5_lengthOfText) 3 = .ok (.lstore_n 3, 1) := by decide +kernel
theorem d_X5_lengthOfText_4 : decode (bc mX5_lengthOfText) 4 = .ok (.iload_n 2, 1) := by decide +kernel
theorem d_X5_lengthOfText_5 : decode (bc mX5_lengthOfText) 5 = .ok (.bipush 8, 2) := by decide +kernel
theorem d_X5_lengthOfText_7 : decode (bc mX5_lengthOfText) 7 = .ok (.if_icmp .ge 44, 3) := by decide +kernel
theorem d_X5_lengthOfText_10 : decode (bc mX5_lengthOfText) 10 = .ok (.lload_n 3, 1) := by decide +kernel
theorem d_X5_lengthOfText_11 : decode (bc mX5_lengthOfText) 11 = .ok (.lconst 0, 1) := by decide +kernel
theorem d_X5_lengthOfText_12 : decode (bc mX5_lengthOfText) 12 = .ok (.lcmp, 1) := by decide +kernel
theorem d_X5_lengthOfText_13 : decode (bc mX5_lengthOfText) 13 = .ok (.ifCond .eq 38, 3) := by decide +kernel
theorem d_X5_lengthOfText_16 : decode (bc mX5_lengthOfText) 16 = .ok (.lload_n 3, 1) := by decide +kernel
theorem d_X5_lengthOfText_17 : decode (bc mX5_lengthOfText) 17 = .ok (.ldc2_w 103, 3) := by decide +kernel
theorem d_X5_lengthOfText_20 : decode (bc mX5_lengthOfText) 20 = .ok (.land, 1) := by decide +kernel
theorem d_X5_lengthOfText_21 : decode (bc mX5_lengthOfText) 21 = .ok (.l2i, 1) := by decide +kernel
theorem d_X5_lengthOfText_22 : decode (bc mX5_lengthOfText) 22 = .ok (.istore 5, 2) := by decide +kernel
theorem d_X5_lengthOfText_24 : decode (bc mX5_lengthOfText) 24 = .ok (.iload 5, 2) := by decide +kernel
theorem d_X5_lengthOfText_26 : decode (bc mX5_lengthOfText) 26 = .ok (.bipush 33, 2) := by decide +kernel
theorem d_X5_lengthOfText_28 : decode (bc mX5_lengthOfText) 28 = .ok (.if_icmp .lt 10, 3) := by decide +kernel
theorem d_X5_lengthOfText_31 : decode (bc mX5_lengthOfText) 31 = .ok (.iload 5, 2) := by decide +kernel
theorem d_X5_lengthOfText_33 : decode (bc mX5_lengthOfText) 33 = .ok (.bipush 126, 2) := by decide +kernel
theorem d_X5_lengthOfText_35 : decode (bc mX5_lengthOfText) 35 = .ok (.if_icmp .le 5, 3) := by decide +kernel
theorem d_X5_lengthOfText_38 : decode (bc mX5_lengthOfText) 38 = .ok (.iconst 0, 1) := by decide +kernel
theorem d_X5_lengthOfText_39 : decode (bc mX5_lengthOfText) 39 = .ok (.ireturn, 1) := by decide +kernel
theorem d_X5_lengthOfText_40 : decode (bc mX5_lengthOfText) 40 = .ok (.iinc 2 1, 3) := by decide +kernel
theorem d_X5_lengthOfText_43 : decode (bc mX5_lengthOfText) 43 = .ok (.lload_n 3, 1) := by decide +kernel
theorem d_X5_lengthOfText_44 : decode (bc mX5_lengthOfText) 44 = .ok (.bipush 8, 2) := by decide +kernel
theorem d_X5_lengthOfText_46 : decode (bc mX5_lengthOfText) 46 = .ok (.lushr, 1) := by decide +kernel
theorem d_X5_lengthOfText_47 : decode (bc mX5_lengthOfText) 47 = .ok (.lstore_n 3, 1) := by decide +kernel
theorem d_X5_lengthOfText_48 : decode (bc mX5_lengthOfText) 48 = .ok (.goto (-44), 3) := by decide +kernel
theorem d_X5_lengthOfText_51 : decode (bc mX5_lengthOfText) 51 = .ok (.iload_n 2, 1) := by decide +kernel
theorem d_X5_lengthOfText_52 : decode (bc mX5_lengthOfText) 52 = .ok (.ireturn, 1) := by decide +kernel
theorem d_X6_init_0 : decode (bc mX6_init) 0 = .ok (.aload_n 0, 1) := by decide +kernel
theorem d_X6_init_1 : decode (bc mX6_init) 1 = .ok (.invokespecial 1, 3) := by decide +kernel
theorem d_X6_init_4 : decode (bc mX6_init) 4 = .ok (.aload_n 0, 1) := by decide +kernel
theorem d_X6_init_5 : decode (bc mX6_init) 5 = .ok (.sipush 1496, 3) := by decide +kernel
theorem d_X6_init_8 : decode (bc mX6_init) 8 = .ok (.newarray .int, 2) := by decide +kernel
theorem d_X6_init_10 : decode (bc mX6_init) 10 = .ok (.putfield 7, 3) := by decide +kernel
theorem d_X6_init_13 : decode (bc mX6_init) 13 = .ok (.aload_n 0, 1) := by decide +kernel
theorem d_X6_init_14 : decode (bc mX6_init) 14 = .ok (.sipush 1496, 3) := by decide +kernel
theorem d_X6_init_17 : decode (bc mX6_init) 17 = .ok (.newarray .int, 2) := by decide +kernel
theorem d_X6_init_19 : decode (bc mX6_init) 19 = .ok (.putfield 13, 3) := by decide +kernel
theorem d_X6_init_22 : decode (bc mX6_init) 22 = .ok (.aload_n 0, 1) := by decide +kernel
theorem d_X6_init_23 : decode (bc mX6_init) 23 = .ok (.sipush 8976, 3) := by decide +kernel
theorem d_X6_init_26 : decode (bc mX6_init) 26 = .ok (.newarray .int, 2) := by decide +kernel
theorem d_X6_init_28 : decode (bc mX6_init) 28 = .ok (.putfield 16, 3) := by decide +kernel
theorem d_X6_init_31 : decode (bc mX6_init) 31 = .ok (.aload_n 0, 1) := by decide +kernel
theorem d_X6_init_32 : decode (bc mX6_init) 32 = .ok (.sipush 2992, 3) := by decide +kernel
theorem d_X6_init_35 : decode (bc mX6_init) 35 = .ok (.newarray .int, 2) := by decide +kernel
theorem d_X6_init_37 : decode (bc mX6_init) 37 = .ok (.putfield 19, 3) := by decide +kernel
theorem d_X6_init_40 : decode (bc mX6_init) 40 = .ok (.aload_n 0, 1) := by decide +kernel
theorem d_X6_init_41 : decode (bc mX6_init) 41 = .ok (.iconst 2, 1) := by decide +kernel
theorem d_X6_init_42 : decode (bc mX6_init) 42 = .ok (.newarray .boolean, 2) := by decide +kernel
theorem d_X6_init_44 : decode (bc mX6_init) 44 = .ok (.putfield 22, 3) := by decide +kernel
theorem d_X6_init_47 : decode (bc mX6_init) 47 = .ok (.aload_n 0, 1) := by decide +kernel
theorem d_X6_init_48 : decode (bc mX6_init) 48 = .ok (.bipush 60, 2) := by decide +kernel
theorem d_X6_init_50 : decode (bc mX6_init) 50 = .ok (.newarray .int, 2) := by decide +kernel
theorem d_X6_init_52 : decode (bc mX6_init) 52 = .ok (.putfield 26, 3) := by decide +kernel
theorem d_X6_init_55 : decode (bc mX6_init) 55 = .ok (.aload_n 0, 1) := by decide +kernel
theorem d_X6_init_56 : decode (bc mX6_init) 56 = .ok (.bipush 64, 2) := by decide +kernel
theorem d_X6_init_58 : decode (bc mX6_init) 58 = .ok (.newarray .int, 2) := by decide +kernel
theorem d_X6_init_60 : decode (bc mX6_init) 60 = .ok (.putfield 29, 3) := by decide +kernel
theorem d_X6_init_63 : decode (bc mX6_init) 63 = .ok (.aload_n 0, 1) := by decide +kernel
theorem d_X6_init_64 : decode (bc mX6_init) 64 = .ok (.bipush 64, 2) := by decide +kernel
theorem d_X6_init_66 : decode (bc mX6_init) 66 = .ok (.newarray .int, 2) := by decide +kernel
theorem d_X6_init_68 : decode (bc mX6_init) 68 = .ok (.putfield 32, 3) := by decide +kernel
theorem d_X6_init_71 : decode (bc mX6_init) 71 = .ok (.aload_n 0, 1) := by decide +kernel
theorem d_X6_init_72 : decode (bc mX6_init) 72 = .ok (.bipush 64, 2) := by decide +kernel
theorem d_X6_init_74 : decode (bc mX6_init) 74 = .ok (.newarray .int, 2) := by decide +kernel
theorem d_X6_init_76 : decode (bc mX6_init) 76 = .ok (.putfield 35, 3) := by decide +kernel
theorem d_X6_init_79 : decode (bc mX6_init) 79 = .ok (.aload_n 0, 1) := by decide +kernel
theorem d_X6_init_80 : decode (bc mX6_init) 80 = .ok (.bipush 64, 2) := by decide +kernel
theorem d_X6_init_82 : decode (bc mX6_init) 82 = .ok (.newarray .int, 2) := by decide +kernel
theorem d_X6_init_84 : decode (bc mX6_init) 84 = .ok (.putfield 38, 3) := by decide +kernel
theorem d_X6_init_87 : decode (bc mX6_init) 87 = .ok (.aload_n 0, 1) := by decide +kernel
theorem d_X6_init_88 : decode (bc mX6_init) 88 = .ok (.bipush 40, 2) := by decide +kernel
theorem d_X6_init_90 : decode (bc mX6_init) 90 = .ok (.newarray .int, 2) := by decide +kernel
theorem d_X6_init_92 : decode (bc mX6_init) 92 = .ok (.putfield 41, 3) := by decide +kernel
theorem d_X6_init_95 : decode (bc mX6_init) 95 = .ok (.aload_n 0, 1) := by decide +kernel
theorem d_X6_init_96 : decode (bc mX6_init) 96 = .ok (.bipush 6, 2) := by decide +kernel
theorem d_X6_init_98 : decode (bc mX6_init) 98 = .ok (.newarray .int, 2) := by decide +kernel
theorem d_X6_init_100 : decode (bc mX6_init) 100 = .ok (.putfield 44, 3) := by decide +kernel
theorem d_X6_init_103 : decode (bc mX6_init) 103 = .ok (.aload_n 0, 1) := by decide +kernel
theorem d_X6_init_104 : decode (bc mX6_init) 104 = .ok (.bipush 6, 2) := by decide +kernel
theorem d_X6_init_106 : decode (bc mX6_init) 106 = .ok (.newarray .int, 2) := by decide +kernel
theorem d_X6_init_108 : decode (bc mX6_init) 108 = .ok (.putfield 47, 3) := by decide +kernel
theorem d_X6_init_111 : decode (bc mX6_init) 111 = .ok (.aload_n 0, 1) := by decide +kernel
theorem d_X6_init_112 : decode (bc mX6_init) 112 = .ok (.bipush 96, 2) := by decide +kernel
theorem d_X6_init_114 : decode (bc mX6_init) 114 = .ok (.newarray .int, 2) := by decide +kernel
theorem d_X6_init_116 : decode (bc mX6_init) 116 = .ok (.putfield 50, 3) := by decide +kernel
theorem d_X6_init_119 : decode (bc mX6_init) 119 = .ok (.aload_n 0, 1) := by decide +kernel
theorem d_X6_init_120 : decode (bc mX6_init) 120 = .ok (.bipush 6, 2) := by decide +kernel
theorem d_X6_init_122 : decode (bc mX6_init) 122 = .ok (.newarray .int, 2) := by decide +kernel
theorem d_X6_init_124 : decode (bc mX6_init) 124 = .ok (.putfield 53, 3) := by decide +kernel
theorem d_X6_init_127 : decode (bc mX6_init) 127 = .ok (.aload_n 0, 1) := by decide +kernel
theorem d_X6_init_128 : decode (bc mX6_init) 128 = .ok (.bipush 6, 2) := by decide +kernel
theorem d_X6_init_130 : decode (bc mX6_init) 130 = .ok (.newarray .int, 2) := by decide +kernel
theorem d_X6_init_132 : decode (bc mX6_init) 132 = .ok (.putfield 56, 3) := by decide +kernel
theorem d_X6_init_135 : decode (bc mX6_init) 135 = .ok (.aload_n 0, 1) := by decide +kernel
theorem d_X6_init_136 : decode (bc mX6_init) 136 = .ok (.bipush 6, 2) := by decide +kernel
theorem d_X6_init_138 : decode (bc mX6_init) 138 = .ok (.newarray .int, 2) := by decide +kernel
theorem d_X6_init_140 : decode (bc mX6_init) 140 = .ok (.putfield 59, 3) := by decide +kernel
theorem d_X6_init_143 : decode (bc mX6_init) 143 = .ok (.aload_n 0, 1) := by decide +kernel
theorem d_X6_init_144 : decode (bc mX6_init) 144 = .ok (.bipush 6, 2) := by decide +kernel
theorem d_X6_init_146 : decode (bc mX6_init) 146 = .ok (.newarray .int, 2) := by decide +kernel
theorem d_X6_init_148 : decode (bc mX6_init) 148 = .ok (.putfield 62, 3) := by decide +kernel
theorem d_X6_init_151 : decode (bc mX6_init) 151 = .ok (.aload_n 0, 1) := by decide +kernel
theorem d_X6_init_152 : decode (bc mX6_init) 152 = .ok (.sipush 240, 3) := by decide +kernel
theorem d_X6_init_155 : decode (bc mX6_init) 155 = .ok (.newarray .int, 2) := by decide +kernel
theorem d_X6_init_157 : decode (bc mX6_init) 157 = .ok (.putfield 65, 3) := by decide +kernel
theorem d_X6_init_160 : decode (bc mX6_init) 160 = .ok (.aload_n 0, 1) := by decide +kernel
theorem d_X6_init_161 : decode (bc mX6_init) 161 = .ok (.bipush 6, 2) := by decide +kernel
theorem d_X6_init_163 : decode (bc mX6_init) 163 = .ok (.newarray .int, 2) := by decide +kernel
theorem d_X6_init_165 : decode (bc mX6_init) 165 = .ok (.putfield 68, 3) := by decide +kernel
theorem d_X6_init_168 : decode (bc mX6_init) 168 = .ok (.aload_n 0, 1) := by decide +kernel
theorem d_X6_init_169 : decode (bc mX6_init) 169 = .ok (.bipush 102, 2) := by decide +kernel
theorem d_X6_init_171 : decode (bc mX6_init) 171 = .ok (.newarray .int, 2) := by decide +kernel
theorem d_X6_init_173 : decode (bc mX6_init) 173 = .ok (.putfield 71, 3) := by decide +kernel
theorem d_X6_init_176 : decode (bc mX6_init) 176 = .ok (.aload_n 0, 1) := by decide +kernel
theorem d_X6_init_177 : decode (bc mX6_init) 177 = .ok (.bipush 102, 2) := by decide +kernel
theorem d_X6_init_179 : decode (bc mX6_init) 179 = .ok (.newarray .int, 2) := by decide +kernel
theorem d_X6_init_181 : decode (bc mX6_init) 181 = .ok (.putfield 74, 3) := by decide +kernel
theorem d_X6_init_184 : decode (bc mX6_init) 184 = .ok (.aload_n 0, 1) := by decide +kernel
theorem d_X6_init_185 : decode (bc mX6_init) 185 = .ok (.bipush 6, 2) := by decide +kernel
theorem d_X6_init_187 : decode (bc mX6_init) 187 = .ok (.newarray .int, 2) := by decide +kernel
theorem d_X6_init_189 : decode (bc mX6_init) 189 = .ok (.putfield 77, 3) := by decide +kernel
theorem d_X6_init_192 : decode (bc mX6_init) 192 = .ok (.aload_n 0, 1) := by decide +kernel
theorem d_X6_init_193 : decode (bc mX6_init) 193 = .ok (.bipush 6, 2) := by decide +kernel
theorem d_X6_init_195 : decode (bc mX6_init) 195 = .ok (.newarray .int, 2) := by decide +kernel
theorem d_X6_init_197 : decode (bc mX6_init) 197 = .ok (.putfield 80, 3) := by decide +kernel
theorem d_X6_init_200 : decode (bc mX6_init) 200 = .ok (.aload_n 0, 1) := by decide +kernel
theorem d_X6_init_201 : decode (bc mX6_init) 201 = .ok (.bipush 6, 2) := by decide +kernel
theorem d_X6_init_203 : decode (bc mX6_init) 203 = .ok (.newarray .int, 2) := by decide +kernel
theorem d_X6_init_205 : decode (bc mX6_init) 205 = .ok (.putfield 83, 3) := by decide +kernel
theorem d_X6_init_208 : decode (bc mX6_init) 208 = .ok (.aload_n 0, 1) := by decide +kernel
theorem d_X6_init_209 : decode (bc mX6_init) 209 = .ok (.bipush 6, 2) := by decide +kernel
theorem d_X6_init_211 : decode (bc mX6_init) 211 = .ok (.newarray .int, 2) := by decide +kernel
theorem d_X6_init_213 : decode (bc mX6_init) 213 = .ok (.putfield 86, 3) := by decide +kernel
theorem d_X6_init_216 : decode (bc mX6_init) 216 = .ok (.aload_n 0, 1) := by decide +kernel
theorem d_X6_init_217 : decode (bc mX6_init) 217 = .ok (.getfield 7, 3) := by decide +kernel
theorem d_X6_init_220 : decode (bc mX6_init) 220 = .ok (.iconst 0, 1) := by decide +kernel
theorem d_X6_init_221 : decode (bc mX6_init) 221 = .ok (.bipush 8, 2) := by decide +kernel
theorem d_X6_init_223 : decode (bc mX6_init) 223 = .ok (.iastore, 1) := by decide +kernel
theorem d_X6_init_224 : decode (bc mX6_init) 224 = .ok (.aload_n 0, 1) := by decide +kernel
theorem d_X6_init_225 : decode (bc mX6_init) 225 = .ok (.getfield 7, 3) := by decide +kernel
theorem d_X6_init_228 : decode (bc mX6_init) 228 = .ok (.iconst 1, 1) := by decide +kernel
theorem d_X6_init_229 : decode (bc mX6_init) 229 = .ok (.iconst 1, 1) := by decide +kernel
theorem d_X6_init_230 : decode (bc mX6_init) 230 = .ok (.iastore, 1) := by decide +kernel
theorem d_X6_init_231 : decode (bc mX6_init) 231 = .ok (.return_, 1) := by decide +kernel
theorem d_X6_in_0 : decode (bc mX6_in) 0 = .ok (.lload_n 0, 1) := by decide +kernel
theorem d_X6_in_1 : decode (bc mX6_in) 1 = .ok (.lload_n 2, 1) := by decide +kernel
theorem d_X6_in_2 : decode (bc mX6_in) 2 = .ok (.lcmp, 1) := by decide +kernel
theorem d_X6_in_3 : decode (bc mX6_in) 3 = .ok (.ifCond .lt 14, 3) := by decide +kernel
theorem d_X6_in_6 : decode (bc mX6_in) 6 = .ok (.lload_n 0, 1) := by decide +kernel
theorem d_X6_in_7 : decode (bc mX6_in) 7 = .ok (.lload 4, 2) := by decide +kernel
theorem d_X6_in_9 : decode (bc mX6_in) 9 = .ok (.lcmp, 1) := by decide +kernel
theorem d_X6_in_10 : decode (bc mX6_in) 10 = .ok (.ifCond .gt 7, 3) := by decide +kernel
theorem d_X6_in_13 : decode (bc mX6_in) 13 = .ok (.iconst 1, 1) := by decide +kernel
theorem d_X6_in_14 : decode (bc mX6_in) 14 = .ok (.goto 4, 3) := by decide +kernel
theorem d_X6_in_17 : decode (bc mX6_in) 17 = .ok (.iconst 0, 1) := by decide +kernel
theorem d_X6_in_18 : decode (bc mX6_in) 18 = .ok (.ireturn, 1) := by decide +kernel
theorem d_X6_copyState_0 : decode (bc mX6_copyState) 0 = .ok (.iconst 0, 1) := by decide +kernel
theorem d_X6_copyState_1 : decode (bc mX6_copyState) 1 = .ok (.istore 4, 2) := by decide +kernel
theorem d_X6_copyState_3 : decode (bc mX6_copyState) 3 = .ok (.iload 4, 2) := by decide +kernel
theorem d_X6_copyState_5 : decode (bc mX6_copyState) 5 = .ok (.sipush 1496, 3) := by decide +kernel
theorem d_X6_copyState_8 : decode (bc mX6_copyState) 8 = .ok (.if_icmp .ge 21, 3) := by decide +kernel
theorem d_X6_copyState_11 : decode (bc mX6_copyState) 11 = .ok (.aload_n 2, 1) := by decide +kernel
theorem d_X6_copyState_12 : decode (bc mX6_copyState) 12 = .ok (.iload_n 3, 1) := by decide +kernel
theorem d_X6_copyState_13 : decode (bc mX6_copyState) 13 = .ok (.iload 4, 2) := by decide +kernel
theorem d_X6_copyState_15 : decode (bc mX6_copyState) 15 = .ok (.iadd, 1) := by decide +kernel
theorem d_X6_copyState_16 : decode (bc mX6_copyState) 16 = .ok (.aload_n 0, 1) := by decide +kernel
theorem d_X6_copyState_17 : decode (bc mX6_copyState) 17 = .ok (.iload_n 1, 1) := by decide +kernel
theorem d_X6_copyState_18 : decode (bc mX6_copyState) 18 = .ok (.iload 4, 2) := by decide +kernel
theorem d_X6_copyState_20 : decode (bc mX6_copyState) 20 = .ok (.iadd, 1) := by decide +kernel
theorem d_X6_copyState_21 : decode (bc mX6_copyState) 21 = .ok (.iaload, 1) := by decide +kernel
theorem d_X6_copyState_22 : decode (bc mX6_copyState) 22 = .ok (.iastore, 1) := by decide +kernel
theorem d_X6_copyState_23 : decode (bc mX6_copyState) 23 = .ok (.iinc 4 1, 3) := by decide +kernel
theorem d_X6_copyState_26 : decode (bc mX6_copyState) 26 = .ok (.goto (-23), 3) := by decide +kernel
theorem d_X6_copyState_29 : decode (bc mX6_copyState) 29 = .ok (.return_, 1) := by decide +kernel
theorem d_X6_isShelf_0 : decode (bc mX6_isShelf) 0 = .ok (.iload_n 0, 1) := by decide +kernel
theorem d_X6_isShelf_1 : decode (bc mX6_isShelf) 1 = .ok (.i2l, 1) := by decide +kernel
theorem d_X6_isShelf_2 : decode (bc mX6_isShelf) 2 = .ok (.lconst 0, 1) := by decide +kernel
theorem d_X6_isShelf_3 : decode (bc mX6_isShelf) 3 = .ok (.ldc2_w 89, 3) := by decide +kernel
theorem d_X6_isShelf_6 : decode (bc mX6_isShelf) 6 = .ok (.invokestatic 91, 3) := by decide +kernel
theorem d_X6_isShelf_9 : decode (bc mX6_isShelf) 9 = .ok (.ireturn, 1) := by decide +kernel
theorem d_X6_isLoaf_0 : decode (bc mX6_isLoaf) 0 = .ok (.iload_n 0, 1) := by decide +kernel
theorem d_X6_isLoaf_1 : decode (bc mX6_isLoaf) 1 = .ok (.i2l, 1) := by decide +kernel
theorem d_X6_isLoaf_2 : decode (bc mX6_isLoaf) 2 = .ok (.lconst 0, 1) := by decide +kernel
theorem d_X6_isLoaf_3 : decode (bc mX6_isLoaf) 3 = .ok (.ldc2_w 95, 3) := by decide +kernel
theorem d_X6_isLoaf_6 : decode (bc mX6_isLoaf) 6 = .ok (.invokestatic 91, 3) := by decide +kernel
theorem d_X6_isLoaf_9 : decode (bc mX6_isLoaf) 9 = .ok (.ireturn, 1) := by decide +kernel
theorem d_X6_memoryAt_0 : decode (bc mX6_memoryAt) 0 = .ok (.sipush 816, 3) := by decide +kernel
theorem d_X6_memoryAt_3 : decode (bc mX6_memoryAt) 3 = .ok (.bipush 40, 2) := by decide +kernel
theorem d_X6_memoryAt_5 : decode (bc mX6_memoryAt) 5 = .ok (.iload_n 0, 1) := by decide +kernel
theorem d_X6_memoryAt_6 : decode (bc mX6_memoryAt) 6 = .ok (.imul, 1) := by decide +kernel
theorem d_X6_memoryAt_7 : decode (bc mX6_memoryAt) 7 = .ok (.iadd, 1) := by decide +kernel
theorem d_X6_memoryAt_8 : decode (bc mX6_memoryAt) 8 = .ok (.ireturn, 1) := by decide +kernel
theorem d_X6_valueOfShelf_0 : decode (bc mX6_valueOfShelf) 0 = .ok (.aload_n 0, 1) := by decide +kernel
theorem d_X6_valueOfShelf_1 : decode (bc mX6_valueOfShelf) 1 = .ok (.bipush 14, 2) := by decide +kernel
theorem d_X6_valueOfShelf_3 : decode (bc mX6_valueOfShelf) 3 = .ok (.iload_n 1, 1) := by decide +kernel
theorem d_X6_valueOfShelf_4 : decode (bc mX6_valueOfShelf) 4 = .ok (.iadd, 1) := by decide +kernel
theorem d_X6_valueOfShelf_5 : decode (bc mX6_valueOfShelf) 5 = .ok (.iaload, 1) := by decide +kernel
theorem d_X6_valueOfShelf_6 : decode (bc mX6_valueOfShelf) 6 = .ok (.iconst 1, 1) := by decide +kernel
theorem d_X6_valueOfShelf_7 : decode (bc mX6_valueOfShelf) 7 = .ok (.if_icmp .ne 8, 3) := by decide +kernel
theorem d_X6_valueOfShelf_10 : decode (bc mX6_valueOfShelf) 10 = .ok (.bipush 100, 2) := by decide +kernel
theorem d_X6_valueOfShelf_12 : decode (bc mX6_valueOfShelf) 12 = .ok (.goto 8, 3) := by decide +kernel
theorem d_X6_valueOfShelf_15 : decode (bc mX6_valueOfShelf) 15 = .ok (.aload_n 0, 1) := by decide +kernel
theorem d_X6_valueOfShelf_16 : decode (bc mX6_valueOfShelf) 16 = .ok (.iconst 2, 1) := by decide +kernel
theorem d_X6_valueOfShelf_17 : decode (bc mX6_valueOfShelf) 17 = .ok (.iload_n 1, 1) := by decide +kernel
theorem d_X6_valueOfShelf_18 : decode (bc mX6_valueOfShelf) 18 = .ok (.iadd, 1) := by decide +kernel
theorem d_X6_valueOfShelf_19 : decode (bc mX6_valueOfShelf) 19 = .ok (.iaload, 1) := by decide +kernel
theorem d_X6_valueOfShelf_20 : decode (bc mX6_valueOfShelf) 20 = .ok (.ireturn, 1) := by decide +kernel
theorem d_X6_sign_0 : decode (bc mX6_sign) 0 = .ok (.aload_n 0, 1) := by decide +kernel
theorem d_X6_sign_1 : decode (bc mX6_sign) 1 = .ok (.getfield 97, 3) := by decide +kernel
theorem d_X6_sign_4 : decode (bc mX6_sign) 4 = .ok (.aload_n 0, 1) := by decide +kernel
theorem d_X6_sign_5 : decode (bc mX6_sign) 5 = .ok (.getfield 101, 3) := by decide +kernel
theorem d_X6_sign_8 : decode (bc mX6_sign) 8 = .ok (.if_icmp .ge 15, 3) := by decide +kernel
theorem d_X6_sign_11 : decode (bc mX6_sign) 11 = .ok (.aload_n 0, 1) := by decide +kernel
theorem d_X6_sign_12 : decode (bc mX6_sign) 12 = .ok (.getfield 26, 3) := by decide +kernel
theorem d_X6_sign_15 : decode (bc mX6_sign) 15 = .ok (.aload_n 0, 1) := by decide +kernel
theorem d_X6_sign_16 : decode (bc mX6_sign) 16 = .ok (.getfield 97, 3) := by decide +kernel
theorem d_X6_sign_19 : decode (bc mX6_sign) 19 = .ok (.iaload, 1) := by decide +kernel
theorem d_X6_sign_20 : decode (bc mX6_sign) 20 = .ok (.goto 5, 3) := by decide +kernel
theorem d_X6_sign_23 : decode (bc mX6_sign) 23 = .ok (.bipush (-6), 2) := by decide +kernel
theorem d_X6_sign_25 : decode (bc mX6_sign) 25 = .ok (.ireturn, 1) := by decide +kernel
theorem d_X6_lay_0 : decode (bc mX6_lay) 0 = .ok (.aload_n 0, 1) := by decide +kernel
theorem d_X6_lay_1 : decode (bc mX6_lay) 1 = .ok (.getfield 29, 3) := by decide +kernel
theorem d_X6_lay_4 : decode (bc mX6_lay) 4 = .ok (.aload_n 0, 1) := by decide +kernel
theorem d_X6_lay_5 : decode (bc mX6_lay) 5 = .ok (.getfield 104, 3) := by decide +kernel
theorem d_X6_lay_8 : decode (bc mX6_lay) 8 = .ok (.iload_n 1, 1) := by decide +kernel
theorem d_X6_lay_9 : decode (bc mX6_lay) 9 = .ok (.iastore, 1) := by decide +kernel
theorem d_X6_lay_10 : decode (bc mX6_lay) 10 = .ok (.aload_n 0, 1) := by decide +kernel
theorem d_X6_lay_11 : decode (bc mX6_lay) 11 = .ok (.getfield 32, 3) := by decide +kernel
theorem d_X6_lay_14 : decode (bc mX6_lay) 14 = .ok (.aload_n 0, 1) := by decide +kernel
theorem d_X6_lay_15 : decode (bc mX6_lay) 15 = .ok (.getfield 104, 3) := by decide +kernel
theorem d_X6_lay_18 : decode (bc mX6_lay) 18 = .ok (.iload_n 2, 1) := by decide +kernel
theorem d_X6_lay_19 : decode (bc mX6_lay) 19 = .ok (.iastore, 1) := by decide +kernel
theorem d_X6_lay_20 : decode (bc mX6_lay) 20 = .ok (.aload_n 0, 1) := by decide +kernel
theorem d_X6_lay_21 : decode (bc mX6_lay) 21 = .ok (.dup, 1) := by decide +kernel
theorem d_X6_lay_22 : decode (bc mX6_lay) 22 = .ok (.getfield 104, 3) := by decide +kernel
theorem d_X6_lay_25 : decode (bc mX6_lay) 25 = .ok (.iconst 1, 1) := by decide +kernel
theorem d_X6_lay_26 : decode (bc mX6_lay) 26 = .ok (.iadd, 1) := by decide +kernel
theorem d_X6_lay_27 : decode (bc mX6_lay) 27 = .ok (.putfield 104, 3) := by decide +kernel
theorem d_X6_lay_30 : decode (bc mX6_lay) 30 = .ok (.return_, 1) := by decide +kernel
theorem d_X6_expect_0 : decode (bc mX6_expect) 0 = .ok (.aload_n 0, 1) := by decide +kernel
theorem d_X6_expect_1 : decode (bc mX6_expect) 1 = .ok (.getfield 35, 3) := by decide +kernel
theorem d_X6_expect_4 : decode (bc mX6_expect) 4 = .ok (.aload_n 0, 1) := by decide +kernel
theorem d_X6_expect_5 : decode (bc mX6_expect) 5 = .ok (.getfield 107, 3) := by decide +kernel
theorem d_X6_expect_8 : decode (bc mX6_expect) 8 = .ok (.iload_n 1, 1) := by decide +kernel
theorem d_X6_expect_9 : decode (bc mX6_expect) 9 = .ok (.iastore, 1) := by decide +kernel
theorem d_X6_expect_10 : decode (bc mX6_expect) 10 = .ok (.aload_n 0, 1) := by decide +kernel
theorem d_X6_expect_11 : decode (bc mX6_expect) 11 = .ok (.getfield 38, 3) := by decide +kernel
theorem d_X6_expect_14 : decode (bc mX6_expect) 14 = .ok (.aload_n 0, 1) := by decide +kernel
theorem d_X6_expect_15 : decode (bc mX6_expect) 15 = .ok (.getfield 107, 3) := by decide +kernel
theorem d_X6_expect_18 : decode (bc mX6_expect) 18 = .ok (.iload_n 2, 1) := by decide +kernel
theorem d_X6_expect_19 : decode (bc mX6_expect) 19 = .ok (.iastore, 1) := by decide +kernel
theorem d_X6_expect_20 : decode (bc mX6_expect) 20 = .ok (.aload_n 0, 1) := by decide +kernel
theorem d_X6_expect_21 : decode (bc mX6_expect) 21 = .ok (.dup, 1) := by decide +kernel
theorem d_X6_expect_22 : decode (bc mX6_expect) 22 = .ok (.getfield 107, 3) := by decide +kernel
theorem d_X6_expect_25 : decode (bc mX6_expect) 25 = .ok (.iconst 1, 1) := by decide +kernel
theorem d_X6_expect_26 : decode (bc mX6_expect) 26 = .ok (.iadd, 1) := by decide +kernel
theorem d_X6_expect_27 : decode (bc mX6_expect) 27 = .ok (.putfield 107, 3) := by decide +kernel
theorem d_X6_expect_30 : decode (bc mX6_expect) 30 = .ok (.return_, 1) := by decide +kernel
theorem d_X6_readSimple_0 : decode (bc mX6_readSimple) 0 = .ok (.aload_n 0, 1) := by decide +kernel
theorem d_X6_readSimple_1 : decode (bc mX6_readSimple) 1 = .ok (.invokevirtual 110, 3) := by decide +kernel
theorem d_X6_readSimple_4 : decode (bc mX6_readSimple) 4 = .ok (.bipush 40, 2) := by decide +kernel
theorem d_X6_readSimple_6 : decode (bc mX6_readSimple) 6 = .ok (.if_icmp .eq 12, 3) := by decide +kernel
theorem d_X6_readSimple_9 : decode (bc mX6_readSimple) 9 = .ok (.aload_n 0, 1) := by decide +kernel
theorem d_X6_readSimple_10 : decode (bc mX6_readSimple) 10 = .ok (.invokevirtual 110, 3) := by decide +kernel
theorem d_X6_readSimple_13 : decode (bc mX6_readSimple) 13 = .ok (.bipush 123, 2) := by decide +kernel
theorem d_X6_readSimple_15 : decode (bc mX6_readSimple) 15 = .ok (.if_icmp .ne 37, 3) := by decide +kernel
theorem d_X6_readSimple_18 : decode (bc mX6_readSimple) 18 = .ok (.aload_n 0, 1) := by decide +kernel
theorem d_X6_readSimple_19 : decode (bc mX6_readSimple) 19 = .ok (.aload_n 0, 1) := by decide +kernel
theorem d_X6_readSimple_20 : decode (bc mX6_readSimple) 20 = .ok (.invokevirtual 110, 3) := by decide +kernel
theorem d_X6_readSimple_23 : decode (bc mX6_readSimple) 23 = .ok (.bipush 40, 2) := by decide +kernel
theorem d_X6_readSimple_25 : decode (bc mX6_readSimple) 25 = .ok (.if_icmp .ne 8, 3) := by decide +kernel
theorem d_X6_readSimple_28 : decode (bc mX6_readSimple) 28 = .ok (.bipush 43, 2) := by decide +kernel
theorem d_X6_readSimple_30 : decode (bc mX6_readSimple) 30 = .ok (.goto 5, 3) := by decide +kernel
theorem d_X6_readSimple_33 : decode (bc mX6_readSimple) 33 = .ok (.bipush 63, 2) := by decide +kernel
theorem d_X6_readSimple_35 : decode (bc mX6_readSimple) 35 = .ok (.iconst 0, 1) := by decide +kernel
theorem d_X6_readSimple_36 : decode (bc mX6_readSimple) 36 = .ok (.invokevirtual 114, 3) := by decide +kernel
theorem d_X6_readSimple_39 : decode (bc mX6_readSimple) 39 = .ok (.aload_n 0, 1) := by decide +kernel
theorem d_X6_readSimple_40 : decode (bc mX6_readSimple) 40 = .ok (.dup, 1) := by decide +kernel
theorem d_X6_readSimple_41 : decode (bc mX6_readSimple) 41 = .ok (.getfield 97, 3) := by decide +kernel
theorem d_X6_readSimple_44 : decode (bc mX6_readSimple) 44 = .ok (.iconst 1, 1) := by decide +kernel
theorem d_X6_readSimple_45 : decode (bc mX6_readSimple) 45 = .ok (.iadd, 1) := by decide +kernel
theorem d_X6_readSimple_46 : decode (bc mX6_readSimple) 46 = .ok (.putfield 97, 3) := by decide +kernel
theorem d_X6_readSimple_49 : decode (bc mX6_readSimple) 49 = .ok (.goto (-49), 3) := by decide +kernel
theorem d_X6_readSimple_52 : decode (bc mX6_readSimple) 52 = .ok (.aload_n 0, 1) := by decide +kernel
theorem d_X6_readSimple_53 : decode (bc mX6_readSimple) 53 = .ok (.invokevirtual 110, 3) := by decide +kernel
theorem d_X6_readSimple_56 : decode (bc mX6_readSimple) 56 = .ok (.istore_n 1, 1) := by decide +kernel
theorem d_X6_readSimple_57 : decode (bc mX6_readSimple) 57 = .ok (.iload_n 1, 1) := by decide +kernel
theorem d_X6_readSimple_58 : decode (bc mX6_readSimple) 58 = .ok (.i2l, 1) := by decide +kernel
theorem d_X6_readSimple_59 : decode (bc mX6_readSimple) 59 = .ok (.ldc2_w 118, 3) := by decide +kernel
theorem d_X6_readSimple_62 : decode (bc mX6_readSimple) 62 = .ok (.ldc2_w 120, 3) := by decide +kernel
theorem d_X6_readSimple_65 : decode (bc mX6_readSimple) 65 = .ok (.invokestatic 91, 3) := by decide +kernel
theorem d_X6_readSimple_68 : decode (bc mX6_readSimple) 68 = .ok (.ifCond .eq 24, 3) := by decide +kernel
theorem d_X6_readSimple_71 : decode (bc mX6_readSimple) 71 = .ok (.aload_n 0, 1) := by decide +kernel
theorem d_X6_readSimple_72 : decode (bc mX6_readSimple) 72 = .ok (.iconst 0, 1) := by decide +kernel
theorem d_X6_readSimple_73 : decode (bc mX6_readSimple) 73 = .ok (.iload_n 1, 1) := by decide +kernel
theorem d_X6_readSimple_74 : decode (bc mX6_readSimple) 74 = .ok (.bipush 97, 2) := by decide +kernel
theorem d_X6_readSimple_76 : decode (bc mX6_readSimple) 76 = .ok (.isub, 1) := by decide +kernel
theorem d_X6_readSimple_77 : decode (bc mX6_readSimple) 77 = .ok (.invokevirtual 122, 3) := by decide +kernel
theorem d_X6_readSimple_80 : decode (bc mX6_readSimple) 80 = .ok (.aload_n 0, 1) := by decide +kernel
theorem d_X6_readSimple_81 : decode (bc mX6_readSimple) 81 = .ok (.dup, 1) := by decide +kernel
theorem d_X6_readSimple_82 : decode (bc mX6_readSimple) 82 = .ok (.getfield 97, 3) := by decide +kernel
theorem d_X6_readSimple_85 : decode (bc mX6_readSimple) 85 = .ok (.iconst 1, 1) := by decide +kernel
theorem d_X6_readSimple_86 : decode (bc mX6_readSimple) 86 = .ok (.iadd, 1) := by decide +kernel
theorem d_X6_readSimple_87 : decode (bc mX6_readSimple) 87 = .ok (.putfield 97, 3) := by decide +kernel
theorem d_X6_readSimple_90 : decode (bc mX6_readSimple) 90 = .ok (.iconst 1, 1) := by decide +kernel
theorem d_X6_readSimple_91 : decode (bc mX6_readSimple) 91 = .ok (.ireturn, 1) := by decide +kernel
theorem d_X6_readSimple_92 : decode (bc mX6_readSimple) 92 = .ok (.iload_n 1, 1) := by decide +kernel
theorem d_X6_readSimple_93 : decode (bc mX6_readSimple) 93 = .ok (.bipush 35, 2) := by decide +kernel
theorem d_X6_readSimple_95 : decode (bc mX6_readSimple) 95 = .ok (.if_icmp .ne 56, 3) := by decide +kernel
theorem d_X6_readSimple_98 : decode (bc mX6_readSimple) 98 = .ok (.aload_n 0, 1) := by decide +kernel
theorem d_X6_readSimple_99 : decode (bc mX6_readSimple) 99 = .ok (.dup, 1) := by decide +kernel
theorem d_X6_readSimple_100 : decode (bc mX6_readSimple) 100 = .ok (.getfield 97, 3) := by decide +kernel
theorem d_X6_readSimple_103 : decode (bc mX6_readSimple) 103 = .ok (.iconst 1, 1) := by decide +kernel
theorem d_X6_readSimple_104 : decode (bc mX6_readSimple) 104 = .ok (.iadd, 1) := by decide +kernel
theorem d_X6_readSimple_105 : decode (bc mX6_readSimple) 105 = .ok (.putfield 97, 3) := by decide +kernel
theorem d_X6_readSimple_108 : decode (bc mX6_readSimple) 108 = .ok (.aload_n 0, 1) := by decide +kernel
theorem d_X6_readSimple_109 : decode (bc mX6_readSimple) 109 = .ok (.invokevirtual 110, 3) := by decide +kernel
theorem d_X6_readSimple_112 : decode (bc mX6_readSimple) 112 = .ok (.i2l, 1) := by decide +kernel
theorem d_X6_readSimple_113 : decode (bc mX6_readSimple) 113 = .ok (.ldc2_w 125, 3) := by decide +kernel
theorem d_X6_readSimple_116 : decode (bc mX6_readSimple) 116 = .ok (.ldc2_w 127, 3) := by decide +kernel
theorem d_X6_readSimple_119 : decode (bc mX6_readSimple) 119 = .ok (.invokestatic 91, 3) := by decide +kernel
theorem d_X6_readSimple_122 : decode (bc mX6_readSimple) 122 = .ok (.ifCond .ne 5, 3) := by decide +kernel
theorem d_X6_readSimple_125 : decode (bc mX6_readSimple) 125 = .ok (.iconst 0, 1) := by decide +kernel
theorem d_X6_readSimple_126 : decode (bc mX6_readSimple) 126 = .ok (.ireturn, 1) := by decide +kernel
theorem d_X6_readSimple_127 : decode (bc mX6_readSimple) 127 = .ok (.aload_n 0, 1) := by decide +kernel
theorem d_X6_readSimple_128 : decode (bc mX6_readSimple) 128 = .ok (.iconst 1, 1) := by decide +kernel
theorem d_X6_readSimple_129 : decode (bc mX6_readSimple) 129 = .ok (.aload_n 0, 1) := by decide +kernel
theorem d_X6_readSimple_130 : decode (bc mX6_readSimple) 130 = .ok (.invokevirtual 110, 3) := by decide +kernel
theorem d_X6_readSimple_133 : decode (bc mX6_readSimple) 133 = .ok (.bipush 48, 2) := by decide +kernel
theorem d_X6_readSimple_135 : decode (bc mX6_readSimple) 135 = .ok (.isub, 1) := by decide +kernel
theorem d_X6_readSimple_136 : decode (bc mX6_readSimple) 136 = .ok (.invokevirtual 122, 3) := by decide +kernel
theorem d_X6_readSimple_139 : decode (bc mX6_readSimple) 139 = .ok (.aload_n 0, 1) := by decide +kernel
theorem d_X6_readSimple_140 : decode (bc mX6_readSimple) 140 = .ok (.dup, 1) := by decide +kernel
theorem d_X6_readSimple_141 : decode (bc mX6_readSimple) 141 = .ok (.getfield 97, 3) := by decide +kernel
theorem d_X6_readSimple_144 : decode (bc mX6_readSimple) 144 = .ok (.iconst 1, 1) := by decide +kernel
theorem d_X6_readSimple_145 : decode (bc mX6_readSimple) 145 = .ok (.iadd, 1) := by decide +kernel
theorem d_X6_readSimple_146 : decode (bc mX6_readSimple) 146 = .ok (.putfield 97, 3) := by decide +kernel
theorem d_X6_readSimple_149 : decode (bc mX6_readSimple) 149 = .ok (.iconst 1, 1) := by decide +kernel
theorem d_X6_readSimple_150 : decode (bc mX6_readSimple) 150 = .ok (.ireturn, 1) := by decide +kernel
theorem d_X6_readSimple_151 : decode (bc mX6_readSimple) 151 = .ok (.iload_n 1, 1) := by decide +kernel
theorem d_X6_readSimple_152 : decode (bc mX6_readSimple) 152 = .ok (.i2l, 1) := by decide +kernel
theorem d_X6_readSimple_153 : decode (bc mX6_readSimple) 153 = .ok (.ldc2_w 125, 3) := by decide +kernel
theorem d_X6_readSimple_156 : decode (bc mX6_readSimple) 156 = .ok (.ldc2_w 129, 3) := by decide +kernel
theorem d_X6_readSimple_159 : decode (bc mX6_readSimple) 159 = .ok (.invokestatic 91, 3) := by decide +kernel
theorem d_X6_readSimple_162 : decode (bc mX6_readSimple) 162 = .ok (.ifCond .ne 5, 3) := by decide +kernel
theorem d_X6_readSimple_165 : decode (bc mX6_readSimple) 165 = .ok (.iconst 0, 1) := by decide +kernel
theorem d_X6_readSimple_166 : decode (bc mX6_readSimple) 166 = .ok (.ireturn, 1) := by decide +kernel
theorem d_X6_readSimple_167 : decode (bc mX6_readSimple) 167 = .ok (.iload_n 1, 1) := by decide +kernel
theorem d_X6_readSimple_168 : decode (bc mX6_readSimple) 168 = .ok (.bipush 48, 2) := by decide +kernel
theorem d_X6_readSimple_170 : decode (bc mX6_readSimple) 170 = .ok (.isub, 1) := by decide +kernel
theorem d_X6_readSimple_171 : decode (bc mX6_readSimple) 171 = .ok (.istore_n 2, 1) := by decide +kernel
theorem d_X6_readSimple_172 : decode (bc mX6_readSimple) 172 = .ok (.aload_n 0, 1) := by decide +kernel
theorem d_X6_readSimple_173 : decode (bc mX6_readSimple) 173 = .ok (.dup, 1) := by decide +kernel
theorem d_X6_readSimple_174 : decode (bc mX6_readSimple) 174 = .ok (.getfield 97, 3) := by decide +kernel
theorem d_X6_readSimple_177 : decode (bc mX6_readSimple) 177 = .ok (.iconst 1, 1) := by decide +kernel
theorem d_X6_readSimple_178 : decode (bc mX6_readSimple) 178 = .ok (.iadd, 1) := by decide +kernel
theorem d_X6_readSimple_179 : decode (bc mX6_readSimple) 179 = .ok (.putfield 97, 3) := by decide +kernel
theorem d_X6_readSimple_182 : decode (bc mX6_readSimple) 182 = .ok (.iload_n 2, 1) := by decide +kernel
theorem d_X6_readSimple_183 : decode (bc mX6_readSimple) 183 = .ok (.ifCond .le 43, 3) := by decide +kernel
theorem d_X6_readSimple_186 : decode (bc mX6_readSimple) 186 = .ok (.aload_n 0, 1) := by decide +kernel
theorem d_X6_readSimple_187 : decode (bc mX6_readSimple) 187 = .ok (.invokevirtual 110, 3) := by decide +kernel
theorem d_X6_readSimple_190 : decode (bc mX6_readSimple) 190 = .ok (.i2l, 1) := by decide +kernel
theorem d_X6_readSimple_191 : decode (bc mX6_readSimple) 191 = .ok (.ldc2_w 125, 3) := by decide +kernel
theorem d_X6_readSimple_194 : decode (bc mX6_readSimple) 194 = .ok (.ldc2_w 129, 3) := by decide +kernel
theorem d_X6_readSimple_197 : decode (bc mX6_readSimple) 197 = .ok (.invokestatic 91, 3) := by decide +kernel
theorem d_X6_readSimple_200 : decode (bc mX6_readSimple) 200 = .ok (.ifCond .eq 26, 3) := by decide +kernel
theorem d_X6_readSimple_203 : decode (bc mX6_readSimple) 203 = .ok (.bipush 10, 2) := by decide +kernel
theorem d_X6_readSimple_205 : decode (bc mX6_readSimple) 205 = .ok (.iload_n 2, 1) := by decide +kernel
theorem d_X6_readSimple_206 : decode (bc mX6_readSimple) 206 = .ok (.imul, 1) := by decide +kernel
theorem d_X6_readSimple_207 : decode (bc mX6_readSimple) 207 = .ok (.aload_n 0, 1) := by decide +kernel
theorem d_X6_readSimple_208 : decode (bc mX6_readSimple) 208 = .ok (.invokevirtual 110, 3) := by decide +kernel
theorem d_X6_readSimple_211 : decode (bc mX6_readSimple) 211 = .ok (.iadd, 1) := by decide +kernel
theorem d_X6_readSimple_212 : decode (bc mX6_readSimple) 212 = .ok (.bipush 48, 2) := by decide +kernel
theorem d_X6_readSimple_214 : decode (bc mX6_readSimple) 214 = .ok (.isub, 1) := by decide +kernel
theorem d_X6_readSimple_215 : decode (bc mX6_readSimple) 215 = .ok (.istore_n 2, 1) := by decide +kernel
theorem d_X6_readSimple_216 : decode (bc mX6_readSimple) 216 = .ok (.aload_n 0, 1) := by decide +kernel
theorem d_X6_readSimple_217 : decode (bc mX6_readSimple) 217 = .ok (.dup, 1) := by decide +kernel
theorem d_X6_readSimple_218 : decode (bc mX6_readSimple) 218 = .ok (.getfield 97, 3) := by decide +kernel
theorem d_X6_readSimple_221 : decode (bc mX6_readSimple) 221 = .ok (.iconst 1, 1) := by decide +kernel
theorem d_X6_readSimple_222 : decode (bc mX6_readSimple) 222 = .ok (.iadd, 1) := by decide +kernel
theorem d_X6_readSimple_223 : decode (bc mX6_readSimple) 223 = .ok (.putfield 97, 3) := by decide +kernel
theorem d_X6_readSimple_226 : decode (bc mX6_readSimple) 226 = .ok (.aload_n 0, 1) := by decide +kernel
theorem d_X6_readSimple_227 : decode (bc mX6_readSimple) 227 = .ok (.iconst 2, 1) := by decide +kernel
theorem d_X6_readSimple_228 : decode (bc mX6_readSimple) 228 = .ok (.iload_n 2, 1) := by decide +kernel
theorem d_X6_readSimple_229 : decode (bc mX6_readSimple) 229 = .ok (.invokevirtual 122, 3) := by decide +kernel
theorem d_X6_readSimple_232 : decode (bc mX6_readSimple) 232 = .ok (.iconst 1, 1) := by decide +kernel
theorem d_X6_readSimple_233 : decode (bc mX6_readSimple) 233 = .ok (.ireturn, 1) := by decide +kernel
theorem d_X6_goOut_0 : decode (bc mX6_goOut) 0 = .ok (.aload_n 0, 1) := by decide +kernel
theorem d_X6_goOut_1 : decode (bc mX6_goOut) 1 = .ok (.getfield 107, 3) := by decide +kernel
theorem d_X6_goOut_4 : decode (bc mX6_goOut) 4 = .ok (.ifCond .le 266, 3) := by decide +kernel
theorem d_X6_goOut_7 : decode (bc mX6_goOut) 7 = .ok (.aload_n 0, 1) := by decide +kernel
theorem d_X6_goOut_8 : decode (bc mX6_goOut) 8 = .ok (.invokevirtual 110, 3) := by decide +kernel
theorem d_X6_goOut_11 : decode (bc mX6_goOut) 11 = .ok (.istore_n 1, 1) := by decide +kernel
theorem d_X6_goOut_12 : decode (bc mX6_goOut) 12 = .ok (.aload_n 0, 1) := by decide +kernel
theorem d_X6_goOut_13 : decode (bc mX6_goOut) 13 = .ok (.getfield 35, 3) := by decide +kernel
theorem d_X6_goOut_16 : decode (bc mX6_goOut) 16 = .ok (.aload_n 0, 1) := by decide +kernel
theorem d_X6_goOut_17 : decode (bc mX6_goOut) 17 = .ok (.getfield 107, 3) := by decide +kernel
theorem d_X6_goOut_20 : decode (bc mX6_goOut) 20 = .ok (.iconst 1, 1) := by decide +kernel
theorem d_X6_goOut_21 : decode (bc mX6_goOut) 21 = .ok (.isub, 1) := by decide +kernel
theorem d_X6_goOut_22 : decode (bc mX6_goOut) 22 = .ok (.iaload, 1) := by decide +kernel
theorem d_X6_goOut_23 : decode (bc mX6_goOut) 23 = .ok (.istore_n 2, 1) := by decide +kernel
theorem d_X6_goOut_24 : decode (bc mX6_goOut) 24 = .ok (.aload_n 0, 1) := by decide +kernel
theorem d_X6_goOut_25 : decode (bc mX6_goOut) 25 = .ok (.getfield 38, 3) := by decide +kernel
theorem d_X6_goOut_28 : decode (bc mX6_goOut) 28 = .ok (.aload_n 0, 1) := by decide +kernel
theorem d_X6_goOut_29 : decode (bc mX6_goOut) 29 = .ok (.getfield 107, 3) := by decide +kernel
theorem d_X6_goOut_32 : decode (bc mX6_goOut) 32 = .ok (.iconst 1, 1) := by decide +kernel
theorem d_X6_goOut_33 : decode (bc mX6_goOut) 33 = .ok (.isub, 1) := by decide +kernel
theorem d_X6_goOut_34 : decode (bc mX6_goOut) 34 = .ok (.iaload, 1) := by decide +kernel
theorem d_X6_goOut_35 : decode (bc mX6_goOut) 35 = .ok (.istore_n 3, 1) := by decide +kernel
theorem d_X6_goOut_36 : decode (bc mX6_goOut) 36 = .ok (.iload_n 2, 1) := by decide +kernel
theorem d_X6_goOut_37 : decode (bc mX6_goOut) 37 = .ok (.bipush 43, 2) := by decide +kernel
theorem d_X6_goOut_39 : decode (bc mX6_goOut) 39 = .ok (.if_icmp .ne 80, 3) := by decide +kernel
theorem d_X6_goOut_42 : decode (bc mX6_goOut) 42 = .ok (.iload_n 1, 1) := by decide +kernel
theorem d_X6_goOut_43 : decode (bc mX6_goOut) 43 = .ok (.bipush 43, 2) := by decide +kernel
theorem d_X6_goOut_45 : decode (bc mX6_goOut) 45 = .ok (.if_icmp .eq 17, 3) := by decide +kernel
theorem d_X6_goOut_48 : decode (bc mX6_goOut) 48 = .ok (.iload_n 1, 1) := by decide +kernel
theorem d_X6_goOut_49 : decode (bc mX6_goOut) 49 = .ok (.bipush 45, 2) := by decide +kernel
theorem d_X6_goOut_51 : decode (bc mX6_goOut) 51 = .ok (.if_icmp .eq 11, 3) := by decide +kernel
theorem d_X6_goOut_54 : decode (bc mX6_goOut) 54 = .ok (.iload_n 1, 1) := by decide +kernel
theorem d_X6_goOut_55 : decode (bc mX6_goOut) 55 = .ok (.bipush 42, 2) := by decide +kernel
theorem d_X6_goOut_57 : decode (bc mX6_goOut) 57 = .ok (.if_icmp .eq 5, 3) := by decide +kernel
theorem d_X6_goOut_60 : decode (bc mX6_goOut) 60 = .ok (.iconst 0, 1) := by decide +kernel
theorem d_X6_goOut_61 : decode (bc mX6_goOut) 61 = .ok (.ireturn, 1) := by decide +kernel
theorem d_X6_goOut_62 : decode (bc mX6_goOut) 62 = .ok (.aload_n 0, 1) := by decide +kernel
theorem d_X6_goOut_63 : decode (bc mX6_goOut) 63 = .ok (.dup, 1) := by decide +kernel
theorem d_X6_goOut_64 : decode (bc mX6_goOut) 64 = .ok (.getfield 97, 3) := by decide +kernel
theorem d_X6_goOut_67 : decode (bc mX6_goOut) 67 = .ok (.iconst 1, 1) := by decide +kernel
theorem d_X6_goOut_68 : decode (bc mX6_goOut) 68 = .ok (.iadd, 1) := by decide +kernel
theorem d_X6_goOut_69 : decode (bc mX6_goOut) 69 = .ok (.putfield 97, 3) := by decide +kernel
theorem d_X6_goOut_72 : decode (bc mX6_goOut) 72 = .ok (.aload_n 0, 1) := by decide +kernel
theorem d_X6_goOut_73 : decode (bc mX6_goOut) 73 = .ok (.getfield 35, 3) := by decide +kernel
theorem d_X6_goOut_76 : decode (bc mX6_goOut) 76 = .ok (.aload_n 0, 1) := by decide +kernel
theorem d_X6_goOut_77 : decode (bc mX6_goOut) 77 = .ok (.getfield 107, 3) := by decide +kernel
theorem d_X6_goOut_80 : decode (bc mX6_goOut) 80 = .ok (.iconst 1, 1) := by decide +kernel
theorem d_X6_goOut_81 : decode (bc mX6_goOut) 81 = .ok (.isub, 1) := by decide +kernel
theorem d_X6_goOut_82 : decode (bc mX6_goOut) 82 = .ok (.bipush 41, 2) := by decide +kernel
theorem d_X6_goOut_84 : decode (bc mX6_goOut) 84 = .ok (.iastore, 1) := by decide +kernel
theorem d_X6_goOut_85 : decode (bc mX6_goOut) 85 = .ok (.aload_n 0, 1) := by decide +kernel
theorem d_X6_goOut_86 : decode (bc mX6_goOut) 86 = .ok (.getfield 38, 3) := by decide +kernel
theorem d_X6_goOut_89 : decode (bc mX6_goOut) 89 = .ok (.aload_n 0, 1) := by decide +kernel
theorem d_X6_goOut_90 : decode (bc mX6_goOut) 90 = .ok (.getfield 107, 3) := by decide +kernel
theorem d_X6_goOut_93 : decode (bc mX6_goOut) 93 = .ok (.iconst 1, 1) := by decide +kernel
theorem d_X6_goOut_94 : decode (bc mX6_goOut) 94 = .ok (.isub, 1) := by decide +kernel
theorem d_X6_goOut_95 : decode (bc mX6_goOut) 95 = .ok (.iload_n 1, 1) := by decide +kernel
theorem d_X6_goOut_96 : decode (bc mX6_goOut) 96 = .ok (.bipush 43, 2) := by decide +kernel
theorem d_X6_goOut_98 : decode (bc mX6_goOut) 98 = .ok (.if_icmp .ne 7, 3) := by decide +kernel
theorem d_X6_goOut_101 : decode (bc mX6_goOut) 101 = .ok (.iconst 3, 1) := by decide +kernel
theorem d_X6_goOut_102 : decode (bc mX6_goOut) 102 = .ok (.goto 14, 3) := by decide +kernel
theorem d_X6_goOut_105 : decode (bc mX6_goOut) 105 = .ok (.iload_n 1, 1) := by decide +kernel
theorem d_X6_goOut_106 : decode (bc mX6_goOut) 106 = .ok (.bipush 45, 2) := by decide +kernel
theorem d_X6_goOut_108 : decode (bc mX6_goOut) 108 = .ok (.if_icmp .ne 7, 3) := by decide +kernel
theorem d_X6_goOut_111 : decode (bc mX6_goOut) 111 = .ok (.iconst 4, 1) := by decide +kernel
theorem d_X6_goOut_112 : decode (bc mX6_goOut) 112 = .ok (.goto 4, 3) := by decide +kernel
theorem d_X6_goOut_115 : decode (bc mX6_goOut) 115 = .ok (.iconst 5, 1) := by decide +kernel
theorem d_X6_goOut_116 : decode (bc mX6_goOut) 116 = .ok (.iastore, 1) := by decide +kernel
theorem d_X6_goOut_117 : decode (bc mX6_goOut) 117 = .ok (.iconst 1, 1) := by decide +kernel
theorem d_X6_goOut_118 : decode (bc mX6_goOut) 118 = .ok (.ireturn, 1) := by decide +kernel
theorem d_X6_goOut_119 : decode (bc mX6_goOut) 119 = .ok (.iload_n 1, 1) := by decide +kernel
theorem d_X6_goOut_120 : decode (bc mX6_goOut) 120 = .ok (.iload_n 2, 1) := by decide +kernel
theorem d_X6_goOut_121 : decode (bc mX6_goOut) 121 = .ok (.if_icmp .eq 5, 3) := by decide +kernel
theorem d_X6_goOut_124 : decode (bc mX6_goOut) 124 = .ok (.iconst 0, 1) := by decide +kernel
theorem d_X6_goOut_125 : decode (bc mX6_goOut) 125 = .ok (.ireturn, 1) := by decide +kernel
theorem d_X6_goOut_126 : decode (bc mX6_goOut) 126 = .ok (.aload_n 0, 1) := by decide +kernel
theorem d_X6_goOut_127 : decode (bc mX6_goOut) 127 = .ok (.dup, 1) := by decide +kernel
theorem d_X6_goOut_128 : decode (bc mX6_goOut) 128 = .ok (.getfield 97, 3) := by decide +kernel
theorem d_X6_goOut_131 : decode (bc mX6_goOut) 131 = .ok (.iconst 1, 1) := by decide +kernel
theorem d_X6_goOut_132 : decode (bc mX6_goOut) 132 = .ok (.iadd, 1) := by decide +kernel
theorem d_X6_goOut_133 : decode (bc mX6_goOut) 133 = .ok (.putfield 97, 3) := by decide +kernel
theorem d_X6_goOut_136 : decode (bc mX6_goOut) 136 = .ok (.iload_n 2, 1) := by decide +kernel
theorem d_X6_goOut_137 : decode (bc mX6_goOut) 137 = .ok (.bipush 41, 2) := by decide +kernel
theorem d_X6_goOut_139 : decode (bc mX6_goOut) 139 = .ok (.if_icmp .ne 22, 3) := by decide +kernel
theorem d_X6_goOut_142 : decode (bc mX6_goOut) 142 = .ok (.aload_n 0, 1) := by decide +kernel
theorem d_X6_goOut_143 : decode (bc mX6_goOut) 143 = .ok (.iload_n 3, 1) := by decide +kernel
theorem d_X6_goOut_144 : decode (bc mX6_goOut) 144 = .ok (.iconst 0, 1) := by decide +kernel
theorem d_X6_goOut_145 : decode (bc mX6_goOut) 145 = .ok (.invokevirtual 122, 3) := by decide +kernel
theorem d_X6_goOut_148 : decode (bc mX6_goOut) 148 = .ok (.aload_n 0, 1) := by decide +kernel
theorem d_X6_goOut_149 : decode (bc mX6_goOut) 149 = .ok (.dup, 1) := by decide +kernel
theorem d_X6_goOut_150 : decode (bc mX6_goOut) 150 = .ok (.getfield 107, 3) := by decide +kernel
theorem d_X6_goOut_153 : decode (bc mX6_goOut) 153 = .ok (.iconst 1, 1) := by decide +kernel
theorem d_X6_goOut_154 : decode (bc mX6_goOut) 154 = .ok (.isub, 1) := by decide +kernel
theorem d_X6_goOut_155 : decode (bc mX6_goOut) 155 = .ok (.putfield 107, 3) := by decide +kernel
theorem d_X6_goOut_158 : decode (bc mX6_goOut) 158 = .ok (.goto 109, 3) := by decide +kernel
theorem d_X6_goOut_161 : decode (bc mX6_goOut) 161 = .ok (.iload_n 2, 1) := by decide +kernel
theorem d_X6_goOut_162 : decode (bc mX6_goOut) 162 = .ok (.bipush 125, 2) := by decide +kernel
theorem d_X6_goOut_164 : decode (bc mX6_goOut) 164 = .ok (.if_icmp .ne 26, 3) := by decide +kernel
theorem d_X6_goOut_167 : decode (bc mX6_goOut) 167 = .ok (.aload_n 0, 1) := by decide +kernel
theorem d_X6_goOut_168 : decode (bc mX6_goOut) 168 = .ok (.getfield 32, 3) := by decide +kernel
theorem d_X6_goOut_171 : decode (bc mX6_goOut) 171 = .ok (.iload_n 3, 1) := by decide +kernel
theorem d_X6_goOut_172 : decode (bc mX6_goOut) 172 = .ok (.aload_n 0, 1) := by decide +kernel
theorem d_X6_goOut_173 : decode (bc mX6_goOut) 173 = .ok (.getfield 104, 3) := by decide +kernel
theorem d_X6_goOut_176 : decode (bc mX6_goOut) 176 = .ok (.iastore, 1) := by decide +kernel
theorem d_X6_goOut_177 : decode (bc mX6_goOut) 177 = .ok (.aload_n 0, 1) := by decide +kernel
theorem d_X6_goOut_178 : decode (bc mX6_goOut) 178 = .ok (.dup, 1) := by decide +kernel
theorem d_X6_goOut_179 : decode (bc mX6_goOut) 179 = .ok (.getfield 107, 3) := by decide +kernel
theorem d_X6_goOut_182 : decode (bc mX6_goOut) 182 = .ok (.iconst 1, 1) := by decide +kernel
theorem d_X6_goOut_183 : decode (bc mX6_goOut) 183 = .ok (.isub, 1) := by decide +kernel
theorem d_X6_goOut_184 : decode (bc mX6_goOut) 184 = .ok (.putfield 107, 3) := by decide +kernel
theorem d_X6_goOut_187 : decode (bc mX6_goOut) 187 = .ok (.goto 80, 3) := by decide +kernel
theorem d_X6_goOut_190 : decode (bc mX6_goOut) 190 = .ok (.iload_n 2, 1) := by decide +kernel
theorem d_X6_goOut_191 : decode (bc mX6_goOut) 191 = .ok (.bipush 58, 2) := by decide +kernel
theorem d_X6_goOut_193 : decode (bc mX6_goOut) 193 = .ok (.if_icmp .ne 15, 3) := by decide +kernel
theorem d_X6_goOut_196 : decode (bc mX6_goOut) 196 = .ok (.aload_n 0, 1) := by decide +kernel
theorem d_X6_goOut_197 : decode (bc mX6_goOut) 197 = .ok (.getfield 32, 3) := by decide +kernel
theorem d_X6_goOut_200 : decode (bc mX6_goOut) 200 = .ok (.iload_n 3, 1) := by decide +kernel
theorem d_X6_goOut_201 : decode (bc mX6_goOut) 201 = .ok (.aload_n 0, 1) := by decide +kernel
theorem d_X6_goOut_202 : decode (bc mX6_goOut) 202 = .ok (.getfield 104, 3) := by decide +kernel
theorem d_X6_goOut_205 : decode (bc mX6_goOut) 205 = .ok (.iconst 1, 1) := by decide +kernel
theorem d_X6_goOut_206 : decode (bc mX6_goOut) 206 = .ok (.iadd, 1) := by decide +kernel
theorem d_X6_goOut_207 : decode (bc mX6_goOut) 207 = .ok (.iastore, 1) := by decide +kernel
theorem d_X6_goOut_208 : decode (bc mX6_goOut) 208 = .ok (.aload_n 0, 1) := by decide +kernel
theorem d_X6_goOut_209 : decode (bc mX6_goOut) 209 = .ok (.getfield 35, 3) := by decide +kernel
theorem d_X6_goOut_212 : decode (bc mX6_goOut) 212 = .ok (.aload_n 0, 1) := by decide +kernel
theorem d_X6_goOut_213 : decode (bc mX6_goOut) 213 = .ok (.getfield 107, 3) := by decide +kernel
theorem d_X6_goOut_216 : decode (bc mX6_goOut) 216 = .ok (.iconst 1, 1) := by decide +kernel
theorem d_X6_goOut_217 : decode (bc mX6_goOut) 217 = .ok (.isub, 1) := by decide +kernel
theorem d_X6_goOut_218 : decode (bc mX6_goOut) 218 = .ok (.iload_n 2, 1) := by decide +kernel
theorem d_X6_goOut_219 : decode (bc mX6_goOut) 219 = .ok (.bipush 63, 2) := by decide +kernel
theorem d_X6_goOut_221 : decode (bc mX6_goOut) 221 = .ok (.if_icmp .ne 8, 3) := by decide +kernel
theorem d_X6_goOut_224 : decode (bc mX6_goOut) 224 = .ok (.bipush 58, 2) := by decide +kernel
theorem d_X6_goOut_226 : decode (bc mX6_goOut) 226 = .ok (.goto 5, 3) := by decide +kernel
theorem d_X6_goOut_229 : decode (bc mX6_goOut) 229 = .ok (.bipush 125, 2) := by decide +kernel
theorem d_X6_goOut_231 : decode (bc mX6_goOut) 231 = .ok (.iastore, 1) := by decide +kernel
theorem d_X6_goOut_232 : decode (bc mX6_goOut) 232 = .ok (.aload_n 0, 1) := by decide +kernel
theorem d_X6_goOut_233 : decode (bc mX6_goOut) 233 = .ok (.getfield 38, 3) := by decide +kernel
theorem d_X6_goOut_236 : decode (bc mX6_goOut) 236 = .ok (.aload_n 0, 1) := by decide +kernel
theorem d_X6_goOut_237 : decode (bc mX6_goOut) 237 = .ok (.getfield 107, 3) := by decide +kernel
theorem d_X6_goOut_240 : decode (bc mX6_goOut) 240 = .ok (.iconst 1, 1) := by decide +kernel
theorem d_X6_goOut_241 : decode (bc mX6_goOut) 241 = .ok (.isub, 1) := by decide +kernel
theorem d_X6_goOut_242 : decode (bc mX6_goOut) 242 = .ok (.aload_n 0, 1) := by decide +kernel
theorem d_X6_goOut_243 : decode (bc mX6_goOut) 243 = .ok (.getfield 104, 3) := by decide +kernel
theorem d_X6_goOut_246 : decode (bc mX6_goOut) 246 = .ok (.iastore, 1) := by decide +kernel
theorem d_X6_goOut_247 : decode (bc mX6_goOut) 247 = .ok (.aload_n 0, 1) := by decide +kernel
theorem d_X6_goOut_248 : decode (bc mX6_goOut) 248 = .ok (.iload_n 2, 1) := by decide +kernel
theorem d_X6_goOut_249 : decode (bc mX6_goOut) 249 = .ok (.bipush 63, 2) := by decide +kernel
theorem d_X6_goOut_251 : decode (bc mX6_goOut) 251 = .ok (.if_icmp .ne 8, 3) := by decide +kernel
theorem d_X6_goOut_254 : decode (bc mX6_goOut) 254 = .ok (.bipush 6, 2) := by decide +kernel
theorem d_X6_goOut_256 : decode (bc mX6_goOut) 256 = .ok (.goto 5, 3) := by decide +kernel
theorem d_X6_goOut_259 : decode (bc mX6_goOut) 259 = .ok (.bipush 7, 2) := by decide +kernel
theorem d_X6_goOut_261 : decode (bc mX6_goOut) 261 = .ok (.iconst 0, 1) := by decide +kernel
theorem d_X6_goOut_262 : decode (bc mX6_goOut) 262 = .ok (.invokevirtual 122, 3) := by decide +kernel
theorem d_X6_goOut_265 : decode (bc mX6_goOut) 265 = .ok (.iconst 1, 1) := by decide +kernel
theorem d_X6_goOut_266 : decode (bc mX6_goOut) 266 = .ok (.ireturn, 1) := by decide +kernel
theorem d_X6_goOut_267 : decode (bc mX6_goOut) 267 = .ok (.goto (-267), 3) := by decide +kernel
theorem d_X6_goOut_270 : decode (bc mX6_goOut) 270 = .ok (.iconst 2, 1) := by decide +kernel
theorem d_X6_goOut_271 : decode (bc mX6_goOut) 271 = .ok (.ireturn, 1) := by decide +kernel
theorem d_X6_compile_0 : decode (bc mX6_compile) 0 = .ok (.aload_n 0, 1) := by decide +kernel
theorem d_X6_compile_1 : decode (bc mX6_compile) 1 = .ok (.iconst 0, 1) := by decide +kernel
theorem d_X6_compile_2 : decode (bc mX6_compile) 2 = .ok (.putfield 97, 3) := by decide +kernel
theorem d_X6_compile_5 : decode (bc mX6_compile) 5 = .ok (.aload_n 0, 1) := by decide +kernel
theorem d_X6_compile_6 : decode (bc mX6_compile) 6 = .ok (.iconst 0, 1) := by decide +kernel
theorem d_X6_compile_7 : decode (bc mX6_compile) 7 = .ok (.putfield 107, 3) := by decide +kernel
theorem d_X6_compile_10 : decode (bc mX6_compile) 10 = .ok (.aload_n 0, 1) := by decide +kernel
theorem d_X6_compile_11 : decode (bc mX6_compile) 11 = .ok (.iconst 0, 1) := by decide +kernel
theorem d_X6_compile_12 : decode (bc mX6_compile) 12 = .ok (.putfield 104, 3) := by decide +kernel
theorem d_X6_compile_15 : decode (bc mX6_compile) 15 = .ok (.iconst 1, 1) := by decide +kernel
theorem d_X6_compile_16 : decode (bc mX6_compile) 16 = .ok (.istore_n 1, 1) := by decide +kernel
theorem d_X6_compile_17 : decode (bc mX6_compile) 17 = .ok (.iload_n 1, 1) := by decide +kernel
theorem d_X6_compile_18 : decode (bc mX6_compile) 18 = .ok (.iconst 1, 1) := by decide +kernel
theorem d_X6_compile_19 : decode (bc mX6_compile) 19 = .ok (.if_icmp .ne 23, 3) := by decide +kernel
theorem d_X6_compile_22 : decode (bc mX6_compile) 22 = .ok (.aload_n 0, 1) := by decide +kernel
theorem d_X6_compile_23 : decode (bc mX6_compile) 23 = .ok (.invokevirtual 131, 3) := by decide +kernel
theorem d_X6_compile_26 : decode (bc mX6_compile) 26 = .ok (.ifCond .ne 8, 3) := by decide +kernel
theorem d_X6_compile_29 : decode (bc mX6_compile) 29 = .ok (.aload_n 0, 1) := by decide +kernel
theorem d_X6_compile_30 : decode (bc mX6_compile) 30 = .ok (.getfield 97, 3) := by decide +kernel
theorem d_X6_compile_33 : decode (bc mX6_compile) 33 = .ok (.ireturn, 1) := by decide +kernel
theorem d_X6_compile_34 : decode (bc mX6_compile) 34 = .ok (.aload_n 0, 1) := by decide +kernel
theorem d_X6_compile_35 : decode (bc mX6_compile) 35 = .ok (.invokevirtual 135, 3) := by decide +kernel
theorem d_X6_compile_38 : decode (bc mX6_compile) 38 = .ok (.istore_n 1, 1) := by decide +kernel
theorem d_X6_compile_39 : decode (bc mX6_compile) 39 = .ok (.goto (-22), 3) := by decide +kernel
theorem d_X6_compile_42 : decode (bc mX6_compile) 42 = .ok (.iload_n 1, 1) := by decide +kernel
theorem d_X6_compile_43 : decode (bc mX6_compile) 43 = .ok (.ifCond .eq 14, 3) := by decide +kernel
theorem d_X6_compile_46 : decode (bc mX6_compile) 46 = .ok (.aload_n 0, 1) := by decide +kernel
theorem d_X6_compile_47 : decode (bc mX6_compile) 47 = .ok (.getfield 97, 3) := by decide +kernel
theorem d_X6_compile_50 : decode (bc mX6_compile) 50 = .ok (.aload_n 0, 1) := by decide +kernel
theorem d_X6_compile_51 : decode (bc mX6_compile) 51 = .ok (.getfield 101, 3) := by decide +kernel
theorem d_X6_compile_54 : decode (bc mX6_compile) 54 = .ok (.if_icmp .ge 10, 3) := by decide +kernel
theorem d_X6_compile_57 : decode (bc mX6_compile) 57 = .ok (.aload_n 0, 1) := by decide +kernel
theorem d_X6_compile_58 : decode (bc mX6_compile) 58 = .ok (.getfield 97, 3) := by decide +kernel
theorem d_X6_compile_61 : decode (bc mX6_compile) 61 = .ok (.goto 5, 3) := by decide +kernel
theorem d_X6_compile_64 : decode (bc mX6_compile) 64 = .ok (.bipush (-6), 2) := by decide +kernel
theorem d_X6_compile_66 : decode (bc mX6_compile) 66 = .ok (.ireturn, 1) := by decide +kernel
theorem d_X6_type_0 : decode (bc mX6_type) 0 = .ok (.iconst 0, 1) := by decide +kernel
theorem d_X6_type_1 : decode (bc mX6_type) 1 = .ok (.istore_n 3, 1) := by decide +kernel
theorem d_X6_type_2 : decode (bc mX6_type) 2 = .ok (.lload_n 1, 1) := by decide +kernel
theorem d_X6_type_3 : decode (bc mX6_type) 3 = .ok (.lstore 4, 2) := by decide +kernel
theorem d_X6_type_5 : decode (bc mX6_type) 5 = .ok (.iload_n 3, 1) := by decide +kernel
theorem d_X6_type_6 : decode (bc mX6_type) 6 = .ok (.bipush 8, 2) := by decide +kernel
theorem d_X6_type_8 : decode (bc mX6_type) 8 = .ok (.if_icmp .ge 48, 3) := by decide +kernel
theorem d_X6_type_11 : decode (bc mX6_type) 11 = .ok (.lload 4, 2) := by decide +kernel
theorem d_X6_type_13 : decode (bc mX6_type) 13 = .ok (.ldc2_w 138, 3) := by decide +kernel
theorem d_X6_type_16 : decode (bc mX6_type) 16 = .ok (.land, 1) := by decide +kernel
theorem d_X6_type_17 : decode (bc mX6_type) 17 = .ok (.lconst 0, 1) := by decide +kernel
theorem d_X6_type_18 : decode (bc mX6_type) 18 = .ok (.lcmp, 1) := by decide +kernel
theorem d_X6_type_19 : decode (bc mX6_type) 19 = .ok (.ifCond .eq 37, 3) := by decide +kernel
theorem d_X6_type_22 : decode (bc mX6_type) 22 = .ok (.lload 4, 2) := by decide +kernel
theorem d_X6_type_24 : decode (bc mX6_type) 24 = .ok (.ldc2_w 138, 3) := by decide +kernel
theorem d_X6_type_27 : decode (bc mX6_type) 27 = .ok (.land, 1) := by decide +kernel
theorem d_X6_type_28 : decode (bc mX6_type) 28 = .ok (.ldc2_w 140, 3) := by decide +kernel
theorem d_X6_type_31 : decode (bc mX6_type) 31 = .ok (.ldc2_w 142, 3) := by decide +kernel
theorem d_X6_type_34 : decode (bc mX6_type) 34 = .ok (.invokestatic 91, 3) := by decide +kernel
theorem d_X6_type_37 : decode (bc mX6_type) 37 = .ok (.ifCond .ne 6, 3) := by decide +kernel
theorem d_X6_type_40 : decode (bc mX6_type) 40 = .ok (.bipush (-2), 2) := by decide +kernel
theorem d_X6_type_42 : decode (bc mX6_type) 42 = .ok (.ireturn, 1) := by decide +kernel
theorem d_X6_type_43 : decode (bc mX6_type) 43 = .ok (.iinc 3 1, 3) := by decide +kernel
theorem d_X6_type_46 : decode (bc mX6_type) 46 = .ok (.lload 4, 2) := by decide +kernel
theorem d_X6_type_48 : decode (bc mX6_type) 48 = .ok (.bipush 8, 2) := by decide +kernel
theorem d_X6_type_50 : decode (bc mX6_type) 50 = .ok (.lushr, 1) := by decide +kernel
theorem d_X6_type_51 : decode (bc mX6_type) 51 = .ok (.lstore 4, 2) := by decide +kernel
theorem d_X6_type_53 : decode (bc mX6_type) 53 = .ok (.goto (-48), 3) := by decide +kernel
theorem d_X6_type_56 : decode (bc mX6_type) 56 = .ok (.iload_n 3, 1) := by decide +kernel
theorem d_X6_type_57 : decode (bc mX6_type) 57 = .ok (.ifCond .eq 10, 3) := by decide +kernel
theorem d_X6_type_60 : decode (bc mX6_type) 60 = .ok (.lload 4, 2) := by decide +kernel
theorem d_X6_type_62 : decode (bc mX6_type) 62 = .ok (.lconst 0, 1) := by decide +kernel
theorem d_X6_type_63 : decode (bc mX6_type) 63 = .ok (.lcmp, 1) := by decide +kernel
theorem d_X6_type_64 : decode (bc mX6_type) 64 = .ok (.ifCond .eq 6, 3) := by decide +kernel
theorem d_X6_type_67 : decode (bc mX6_type) 67 = .ok (.bipush (-2), 2) := by decide +kernel
theorem d_X6_type_69 : decode (bc mX6_type) 69 = .ok (.ireturn, 1) := by decide +kernel
theorem d_X6_type_70 : decode (bc mX6_type) 70 = .ok (.aload_n 0, 1) := by decide +kernel
theorem d_X6_type_71 : decode (bc mX6_type) 71 = .ok (.getfield 101, 3) := by decide +kernel
theorem d_X6_type_74 : decode (bc mX6_type) 74 = .ok (.iload_n 3, 1) := by decide +kernel
theorem d_X6_type_75 : decode (bc mX6_type) 75 = .ok (.iadd, 1) := by decide +kernel
theorem d_X6_type_76 : decode (bc mX6_type) 76 = .ok (.bipush 60, 2) := by decide +kernel
theorem d_X6_type_78 : decode (bc mX6_type) 78 = .ok (.if_icmp .le 6, 3) := by decide +kernel
theorem d_X6_type_81 : decode (bc mX6_type) 81 = .ok (.bipush (-4), 2) := by decide +kernel
theorem d_X6_type_83 : decode (bc mX6_type) 83 = .ok (.ireturn, 1) := by decide +kernel
theorem d_X6_type_84 : decode (bc mX6_type) 84 = .ok (.iload_n 3, 1) := by decide +kernel
theorem d_X6_type_85 : decode (bc mX6_type) 85 = .ok (.iconst 1, 1) := by decide +kernel
theorem d_X6_type_86 : decode (bc mX6_type) 86 = .ok (.isub, 1) := by decide +kernel
theorem d_X6_type_87 : decode (bc mX6_type) 87 = .ok (.istore 6, 2) := by decide +kernel
theorem d_X6_type_89 : decode (bc mX6_type) 89 = .ok (.iload 6, 2) := by decide +kernel
theorem d_X6_type_91 : decode (bc mX6_type) 91 = .ok (.ifCond .lt 40, 3) := by decide +kernel
theorem d_X6_type_94 : decode (bc mX6_type) 94 = .ok (.aload_n 0, 1) := by decide +kernel
theorem d_X6_type_95 : decode (bc mX6_type) 95 = .ok (.getfield 26, 3) := by decide +kernel
theorem d_X6_type_98 : decode (bc mX6_type) 98 = .ok (.aload_n 0, 1) := by decide +kernel
theorem d_X6_type_99 : decode (bc mX6_type) 99 = .ok (.getfield 101, 3) := by decide +kernel
theorem d_X6_type_102 : decode (bc mX6_type) 102 = .ok (.lload_n 1, 1) := by decide +kernel
theorem d_X6_type_103 : decode (bc mX6_type) 103 = .ok (.bipush 8, 2) := by decide +kernel
theorem d_X6_type_105 : decode (bc mX6_type) 105 = .ok (.iload 6, 2) := by decide +kernel
theorem d_X6_type_107 : decode (bc mX6_type) 107 = .ok (.imul, 1) := by decide +kernel
theorem d_X6_type_108 : decode (bc mX6_type) 108 = .ok (.lushr, 1) := by decide +kernel
theorem d_X6_type_109 : decode (bc mX6_type) 109 = .ok (.ldc2_w 138, 3) := by decide +kernel
theorem d_X6_type_112 : decode (bc mX6_type) 112 = .ok (.land, 1) := by decide +kernel
theorem d_X6_type_113 : decode (bc mX6_type) 113 = .ok (.l2i, 1) := by decide +kernel
theorem d_X6_type_114 : decode (bc mX6_type) 114 = .ok (.iastore, 1) := by decide +kernel
theorem d_X6_type_115 : decode (bc mX6_type) 115 = .ok (.aload_n 0, 1) := by decide +kernel
theorem d_X6_type_116 : decode (bc mX6_type) 116 = .ok (.dup, 1) := by decide +kernel
theorem d_X6_type_117 : decode (bc mX6_type) 117 = .ok (.getfield 101, 3) := by decide +kernel
theorem d_X6_type_120 : decode (bc mX6_type) 120 = .ok (.iconst 1, 1) := by decide +kernel
theorem d_X6_type_121 : decode (bc mX6_type) 121 = .ok (.iadd, 1) := by decide +kernel
theorem d_X6_type_122 : decode (bc mX6_type) 122 = .ok (.putfield 101, 3) := by decide +kernel
theorem d_X6_type_125 : decode (bc mX6_type) 125 = .ok (.iinc 6 (-1), 3) := by decide +kernel
theorem d_X6_type_128 : decode (bc mX6_type) 128 = .ok (.goto (-39), 3) := by decide +kernel
theorem d_X6_type_131 : decode (bc mX6_type) 131 = .ok (.aload_n 0, 1) := by decide +kernel
theorem d_X6_type_132 : decode (bc mX6_type) 132 = .ok (.getfield 101, 3) := by decide +kernel
theorem d_X6_type_135 : decode (bc mX6_type) 135 = .ok (.ireturn, 1) := by decide +kernel
theorem d_X6_wipe_0 : decode (bc mX6_wipe) 0 = .ok (.aload_n 0, 1) := by decide +kernel
theorem d_X6_wipe_1 : decode (bc mX6_wipe) 1 = .ok (.getfield 101, 3) := by decide +kernel
theorem d_X6_wipe_4 : decode (bc mX6_wipe) 4 = .ok (.istore_n 1, 1) := by decide +kernel
theorem d_X6_wipe_5 : decode (bc mX6_wipe) 5 = .ok (.aload_n 0, 1) := by decide +kernel
theorem d_X6_wipe_6 : decode (bc mX6_wipe) 6 = .ok (.iconst 0, 1) := by decide +kernel
theorem d_X6_wipe_7 : decode (bc mX6_wipe) 7 = .ok (.putfield 101, 3) := by decide +kernel
theorem d_X6_wipe_10 : decode (bc mX6_wipe) 10 = .ok (.iload_n 1, 1) := by decide +kernel
theorem d_X6_wipe_11 : decode (bc mX6_wipe) 11 = .ok (.ireturn, 1) := by decide +kernel
theorem d_X6_fault_0 : decode (bc mX6_fault) 0 = .ok (.aload_n 0, 1) := by decide +kernel
theorem d_X6_fault_1 : decode (bc mX6_fault) 1 = .ok (.invokevirtual 144, 3) := by decide +kernel
theorem d_X6_fault_4 : decode (bc mX6_fault) 4 = .ok (.ireturn, 1) := by decide +kernel
theorem d_X6_memoryNamed_0 : decode (bc mX6_memoryNamed) 0 = .ok (.iconst 0, 1) := by decide +kernel
theorem d_X6_memoryNamed_1 : decode (bc mX6_memoryNamed) 1 = .ok (.istore_n 2, 1) := by decide +kernel
theorem d_X6_memoryNamed_2 : decode (bc mX6_memoryNamed) 2 = .ok (.iload_n 2, 1) := by decide +kernel
theorem d_X6_memoryNamed_3 : decode (bc mX6_memoryNamed) 3 = .ok (.aload_n 0, 1) := by decide +kernel
theorem d_X6_memoryNamed_4 : decode (bc mX6_memoryNamed) 4 = .ok (.sipush 814, 3) := by decide +kernel
theorem d_X6_memoryNamed_7 : decode (bc mX6_memoryNamed) 7 = .ok (.iaload, 1) := by decide +kernel
theorem d_X6_memoryNamed_8 : decode (bc mX6_memoryNamed) 8 = .ok (.if_icmp .ge 21, 3) := by decide +kernel
theorem d_X6_memoryNamed_11 : decode (bc mX6_memoryNamed) 11 = .ok (.aload_n 0, 1) := by decide +kernel
theorem d_X6_memoryNamed_12 : decode (bc mX6_memoryNamed) 12 = .ok (.iload_n 2, 1) := by decide +kernel
theorem d_X6_memoryNamed_13 : decode (bc mX6_memoryNamed) 13 = .ok (.invokestatic 147, 3) := by decide +kernel
theorem d_X6_memoryNamed_16 : decode (bc mX6_memoryNamed) 16 = .ok (.iaload, 1) := by decide +kernel
theorem d_X6_memoryNamed_17 : decode (bc mX6_memoryNamed) 17 = .ok (.iload_n 1, 1) := by decide +kernel
theorem d_X6_memoryNamed_18 : decode (bc mX6_memoryNamed) 18 = .ok (.if_icmp .ne 5, 3) := by decide +kernel
theorem d_X6_memoryNamed_21 : decode (bc mX6_memoryNamed) 21 = .ok (.iload_n 2, 1) := by decide +kernel
theorem d_X6_memoryNamed_22 : decode (bc mX6_memoryNamed) 22 = .ok (.ireturn, 1) := by decide +kernel
theorem d_X6_memoryNamed_23 : decode (bc mX6_memoryNamed) 23 = .ok (.iinc 2 1, 3) := by decide +kernel
theorem d_X6_memoryNamed_26 : decode (bc mX6_memoryNamed) 26 = .ok (.goto (-24), 3) := by decide +kernel
theorem d_X6_memoryNamed_29 : decode (bc mX6_memoryNamed) 29 = .ok (.bipush (-6), 2) := by decide +kernel
theorem d_X6_memoryNamed_31 : decode (bc mX6_memoryNamed) 31 = .ok (.ireturn, 1) := by decide +kernel
theorem d_X6_cutMemory_0 : decode (bc mX6_cutMemory) 0 = .ok (.aload_n 0, 1) := by decide +kernel
theorem d_X6_cutMemory_1 : decode (bc mX6_cutMemory) 1 = .ok (.sipush 814, 3) := by decide +kernel
theorem d_X6_cutMemory_4 : decode (bc mX6_cutMemory) 4 = .ok (.dup2, 1) := by decide +kernel
theorem d_X6_cutMemory_5 : decode (bc mX6_cutMemory) 5 = .ok (.iaload, 1) := by decide +kernel
theorem d_X6_cutMemory_6 : decode (bc mX6_cutMemory) 6 = .ok (.iconst 1, 1) := by decide +kernel
theorem d_X6_cutMemory_7 : decode (bc mX6_cutMemory) 7 = .ok (.isub, 1) := by decide +kernel
theorem d_X6_cutMemory_8 : decode (bc mX6_cutMemory) 8 = .ok (.iastore, 1) := by decide +kernel
theorem d_X6_cutMemory_9 : decode (bc mX6_cutMemory) 9 = .ok (.iload_n 1, 1) := by decide +kernel
theorem d_X6_cutMemory_10 : decode (bc mX6_cutMemory) 10 = .ok (.invokestatic 147, 3) := by decide +kernel
theorem d_X6_cutMemory_13 : decode (bc mX6_cutMemory) 13 = .ok (.istore_n 2, 1) := by decide +kernel
theorem d_X6_cutMemory_14 : decode (bc mX6_cutMemory) 14 = .ok (.iload_n 2, 1) := by decide +kernel
theorem d_X6_cutMemory_15 : decode (bc mX6_cutMemory) 15 = .ok (.aload_n 0, 1) := by decide +kernel
theorem d_X6_cutMemory_16 : decode (bc mX6_cutMemory) 16 = .ok (.sipush 814, 3) := by decide +kernel
theorem d_X6_cutMemory_19 : decode (bc mX6_cutMemory) 19 = .ok (.iaload, 1) := by decide +kernel
theorem d_X6_cutMemory_20 : decode (bc mX6_cutMemory) 20 = .ok (.invokestatic 147, 3) := by decide +kernel
theorem d_X6_cutMemory_23 : decode (bc mX6_cutMemory) 23 = .ok (.if_icmp .ge 18, 3) := by decide +kernel
theorem d_X6_cutMemory_26 : decode (bc mX6_cutMemory) 26 = .ok (.aload_n 0, 1) := by decide +kernel
theorem d_X6_cutMemory_27 : decode (bc mX6_cutMemory) 27 = .ok (.iload_n 2, 1) := by decide +kernel
theorem d_X6_cutMemory_28 : decode (bc mX6_cutMemory) 28 = .ok (.aload_n 0, 1) := by decide +kernel
theorem d_X6_cutMemory_29 : decode (bc mX6_cutMemory) 29 = .ok (.iload_n 2, 1) := by decide +kernel
theorem d_X6_cutMemory_30 : decode (bc mX6_cutMemory) 30 = .ok (.bipush 40, 2) := by decide +kernel
theorem d_X6_cutMemory_32 : decode (bc mX6_cutMemory) 32 = .ok (.iadd, 1) := by decide +kernel
theorem d_X6_cutMemory_33 : decode (bc mX6_cutMemory) 33 = .ok (.iaload, 1) := by decide +kernel
theorem d_X6_cutMemory_34 : decode (bc mX6_cutMemory) 34 = .ok (.iastore, 1) := by decide +kernel
theorem d_X6_cutMemory_35 : decode (bc mX6_cutMemory) 35 = .ok (.iinc 2 1, 3) := by decide +kernel
theorem d_X6_cutMemory_38 : decode (bc mX6_cutMemory) 38 = .ok (.goto (-24), 3) := by decide +kernel
theorem d_X6_cutMemory_41 : decode (bc mX6_cutMemory) 41 = .ok (.return_, 1) := by decide +kernel
theorem d_X6_shiftMemories_0 : decode (bc mX6_shiftMemories) 0 = .ok (.iload_n 1, 1) := by decide +kernel
theorem d_X6_shiftMemories_1 : decode (bc mX6_shiftMemories) 1 = .ok (.invokestatic 147, 3) := by decide +kernel
theorem d_X6_shiftMemories_4 : decode (bc mX6_shiftMemories) 4 = .ok (.iconst 1, 1) := by decide +kernel
theorem d_X6_shiftMemories_5 : decode (bc mX6_shiftMemories) 5 = .ok (.isub, 1) := by decide +kernel
theorem d_X6_shiftMemories_6 : decode (bc mX6_shiftMemories) 6 = .ok (.istore_n 2, 1) := by decide +kernel
theorem d_X6_shiftMemories_7 : decode (bc mX6_shiftMemories) 7 = .ok (.iload_n 2, 1) := by decide +kernel
theorem d_X6_shiftMemories_8 : decode (bc mX6_shiftMemories) 8 = .ok (.sipush 816, 3) := by decide +kernel
theorem d_X6_shiftMemories_11 : decode (bc mX6_shiftMemories) 11 = .ok (.if_icmp .lt 18, 3) := by decide +kernel
theorem d_X6_shiftMemories_14 : decode (bc mX6_shiftMemories) 14 = .ok (.aload_n 0, 1) := by decide +kernel
theorem d_X6_shiftMemories_15 : decode (bc mX6_shiftMemories) 15 = .ok (.iload_n 2, 1) := by decide +kernel
theorem d_X6_shiftMemories_16 : decode (bc mX6_shiftMemories) 16 = .ok (.bipush 40, 2) := by decide +kernel
theorem d_X6_shiftMemories_18 : decode (bc mX6_shiftMemories) 18 = .ok (.iadd, 1) := by decide +kernel
theorem d_X6_shiftMemories_19 : decode (bc mX6_shiftMemories) 19 = .ok (.aload_n 0, 1) := by decide +kernel
theorem d_X6_shiftMemories_20 : decode (bc mX6_shiftMemories) 20 = .ok (.iload_n 2, 1) := by decide +kernel
theorem d_X6_shiftMemories_21 : decode (bc mX6_shiftMemories) 21 = .ok (.iaload, 1) := by decide +kernel
theorem d_X6_shiftMemories_22 : decode (bc mX6_shiftMemories) 22 = .ok (.iastore, 1) := by decide +kernel
theorem d_X6_shiftMemories_23 : decode (bc mX6_shiftMemories) 23 = .ok (.iinc 2 (-1), 3) := by decide +kernel
theorem d_X6_shiftMemories_26 : decode (bc mX6_shiftMemories) 26 = .ok (.goto (-19), 3) := by decide +kernel
theorem d_X6_shiftMemories_29 : decode (bc mX6_shiftMemories) 29 = .ok (.return_, 1) := by decide +kernel
theorem d_X6_useMemory_0 : decode (bc mX6_useMemory) 0 = .ok (.iconst 0, 1) := by decide +kernel
theorem d_X6_useMemory_1 : decode (bc mX6_useMemory) 1 = .ok (.istore_n 3, 1) := by decide +kernel
theorem d_X6_useMemory_2 : decode (bc mX6_useMemory) 2 = .ok (.iload_n 3, 1) := by decide +kernel
theorem d_X6_useMemory_3 : decode (bc mX6_useMemory) 3 = .ok (.bipush 40, 2) := by decide +kernel
theorem d_X6_useMemory_5 : decode (bc mX6_useMemory) 5 = .ok (.if_icmp .ge 23, 3) := by decide +kernel
theorem d_X6_useMemory_8 : decode (bc mX6_useMemory) 8 = .ok (.aload_n 0, 1) := by decide +kernel
theorem d_X6_useMemory_9 : decode (bc mX6_useMemory) 9 = .ok (.getfield 41, 3) := by decide +kernel
theorem d_X6_useMemory_12 : decode (bc mX6_useMemory) 12 = .ok (.iload_n 3, 1) := by decide +kernel
theorem d_X6_useMemory_13 : decode (bc mX6_useMemory) 13 = .ok (.aload_n 1, 1) := by decide +kernel
theorem d_X6_useMemory_14 : decode (bc mX6_useMemory) 14 = .ok (.iload_n 2, 1) := by decide +kernel
theorem d_X6_useMemory_15 : decode (bc mX6_useMemory) 15 = .ok (.invokestatic 147, 3) := by decide +kernel
theorem d_X6_useMemory_18 : decode (bc mX6_useMemory) 18 = .ok (.iload_n 3, 1) := by decide +kernel
theorem d_X6_useMemory_19 : decode (bc mX6_useMemory) 19 = .ok (.iadd, 1) := by decide +kernel
theorem d_X6_useMemory_20 : decode (bc mX6_useMemory) 20 = .ok (.iaload, 1) := by decide +kernel
theorem d_X6_useMemory_21 : decode (bc mX6_useMemory) 21 = .ok (.iastore, 1) := by decide +kernel
theorem d_X6_useMemory_22 : decode (bc mX6_useMemory) 22 = .ok (.iinc 3 1, 3) := by decide +kernel
theorem d_X6_useMemory_25 : decode (bc mX6_useMemory) 25 = .ok (.goto (-23), 3) := by decide +kernel
theorem d_X6_useMemory_28 : decode (bc mX6_useMemory) 28 = .ok (.aload_n 1, 1) := by decide +kernel
theorem d_X6_useMemory_29 : decode (bc mX6_useMemory) 29 = .ok (.iload_n 2, 1) := by decide +kernel
theorem d_X6_useMemory_30 : decode (bc mX6_useMemory) 30 = .ok (.invokestatic 151, 3) := by decide +kernel
theorem d_X6_useMemory_33 : decode (bc mX6_useMemory) 33 = .ok (.iconst 0, 1) := by decide +kernel
theorem d_X6_useMemory_34 : decode (bc mX6_useMemory) 34 = .ok (.istore_n 3, 1) := by decide +kernel
theorem d_X6_useMemory_35 : decode (bc mX6_useMemory) 35 = .ok (.iload_n 3, 1) := by decide +kernel
theorem d_X6_useMemory_36 : decode (bc mX6_useMemory) 36 = .ok (.bipush 40, 2) := by decide +kernel
theorem d_X6_useMemory_38 : decode (bc mX6_useMemory) 38 = .ok (.if_icmp .ge 22, 3) := by decide +kernel
theorem d_X6_useMemory_41 : decode (bc mX6_useMemory) 41 = .ok (.aload_n 1, 1) := by decide +kernel
theorem d_X6_useMemory_42 : decode (bc mX6_useMemory) 42 = .ok (.sipush 816, 3) := by decide +kernel
theorem d_X6_useMemory_45 : decode (bc mX6_useMemory) 45 = .ok (.iload_n 3, 1) := by decide +kernel
theorem d_X6_useMemory_46 : decode (bc mX6_useMemory) 46 = .ok (.iadd, 1) := by decide +kernel
theorem d_X6_useMemory_47 : decode (bc mX6_useMemory) 47 = .ok (.aload_n 0, 1) := by decide +kernel
theorem d_X6_useMemory_48 : decode (bc mX6_useMemory) 48 = .ok (.getfield 41, 3) := by decide +kernel
theorem d_X6_useMemory_51 : decode (bc mX6_useMemory) 51 = .ok (.iload_n 3, 1) := by decide +kernel
theorem d_X6_useMemory_52 : decode (bc mX6_useMemory) 52 = .ok (.iaload, 1) := by decide +kernel
theorem d_X6_useMemory_53 : decode (bc mX6_useMemory) 53 = .ok (.iastore, 1) := by decide +kernel
theorem d_X6_useMemory_54 : decode (bc mX6_useMemory) 54 = .ok (.iinc 3 1, 3) := by decide +kernel
theorem d_X6_useMemory_57 : decode (bc mX6_useMemory) 57 = .ok (.goto (-22), 3) := by decide +kernel
theorem d_X6_useMemory_60 : decode (bc mX6_useMemory) 60 = .ok (.aload_n 1, 1) := by decide +kernel
theorem d_X6_useMemory_61 : decode (bc mX6_useMemory) 61 = .ok (.sipush 821, 3) := by decide +kernel
theorem d_X6_useMemory_64 : decode (bc mX6_useMemory) 64 = .ok (.dup2, 1) := by decide +kernel
theorem d_X6_useMemory_65 : decode (bc mX6_useMemory) 65 = .ok (.iaload, 1) := by decide +kernel
theorem d_X6_useMemory_66 : decode (bc mX6_useMemory) 66 = .ok (.iconst 1, 1) := by decide +kernel
theorem d_X6_useMemory_67 : decode (bc mX6_useMemory) 67 = .ok (.iadd, 1) := by decide +kernel
theorem d_X6_useMemory_68 : decode (bc mX6_useMemory) 68 = .ok (.iastore, 1) := by decide +kernel
theorem d_X6_useMemory_69 : decode (bc mX6_useMemory) 69 = .ok (.aload_n 1, 1) := by decide +kernel
theorem d_X6_useMemory_70 : decode (bc mX6_useMemory) 70 = .ok (.sipush 813, 3) := by decide +kernel
theorem d_X6_useMemory_73 : decode (bc mX6_useMemory) 73 = .ok (.dup2, 1) := by decide +kernel
theorem d_X6_useMemory_74 : decode (bc mX6_useMemory) 74 = .ok (.iaload, 1) := by decide +kernel
theorem d_X6_useMemory_75 : decode (bc mX6_useMemory) 75 = .ok (.aload_n 1, 1) := by decide +kernel
theorem d_X6_useMemory_76 : decode (bc mX6_useMemory) 76 = .ok (.sipush 820, 3) := by decide +kernel
theorem d_X6_useMemory_79 : decode (bc mX6_useMemory) 79 = .ok (.iaload, 1) := by decide +kernel
theorem d_X6_useMemory_80 : decode (bc mX6_useMemory) 80 = .ok (.iadd, 1) := by decide +kernel
theorem d_X6_useMemory_81 : decode (bc mX6_useMemory) 81 = .ok (.iastore, 1) := by decide +kernel
theorem d_X6_useMemory_82 : decode (bc mX6_useMemory) 82 = .ok (.aload_n 1, 1) := by decide +kernel
theorem d_X6_useMemory_83 : decode (bc mX6_useMemory) 83 = .ok (.sipush 806, 3) := by decide +kernel
theorem d_X6_useMemory_86 : decode (bc mX6_useMemory) 86 = .ok (.aload_n 1, 1) := by decide +kernel
theorem d_X6_useMemory_87 : decode (bc mX6_useMemory) 87 = .ok (.sipush 817, 3) := by decide +kernel
theorem d_X6_useMemory_90 : decode (bc mX6_useMemory) 90 = .ok (.iaload, 1) := by decide +kernel
theorem d_X6_useMemory_91 : decode (bc mX6_useMemory) 91 = .ok (.iadd, 1) := by decide +kernel
theorem d_X6_useMemory_92 : decode (bc mX6_useMemory) 92 = .ok (.dup2, 1) := by decide +kernel
theorem d_X6_useMemory_93 : decode (bc mX6_useMemory) 93 = .ok (.iaload, 1) := by decide +kernel
theorem d_X6_useMemory_94 : decode (bc mX6_useMemory) 94 = .ok (.iconst 1, 1) := by decide +kernel
theorem d_X6_useMemory_95 : decode (bc mX6_useMemory) 95 = .ok (.iadd, 1) := by decide +kernel
theorem d_X6_useMemory_96 : decode (bc mX6_useMemory) 96 = .ok (.iastore, 1) := by decide +kernel
theorem d_X6_useMemory_97 : decode (bc mX6_useMemory) 97 = .ok (.return_, 1) := by decide +kernel
theorem d_X6_trim_0 : decode (bc mX6_trim) 0 = .ok (.aload_n 0, 1) := by decide +kernel
theorem d_X6_trim_1 : decode (bc mX6_trim) 1 = .ok (.sipush 814, 3) := by decide +kernel
theorem d_X6_trim_4 : decode (bc mX6_trim) 4 = .ok (.iaload, 1) := by decide +kernel
theorem d_X6_trim_5 : decode (bc mX6_trim) 5 = .ok (.aload_n 0, 1) := by decide +kernel
theorem d_X6_trim_6 : decode (bc mX6_trim) 6 = .ok (.iconst 0, 1) := by decide +kernel
theorem d_X6_trim_7 : decode (bc mX6_trim) 7 = .ok (.iaload, 1) := by decide +kernel
theorem d_X6_trim_8 : decode (bc mX6_trim) 8 = .ok (.if_icmp .le 11, 3) := by decide +kernel
theorem d_X6_trim_11 : decode (bc mX6_trim) 11 = .ok (.aload_n 0, 1) := by decide +kernel
theorem d_X6_trim_12 : decode (bc mX6_trim) 12 = .ok (.sipush 814, 3) := by decide +kernel
theorem d_X6_trim_15 : decode (bc mX6_trim) 15 = .ok (.aload_n 0, 1) := by decide +kernel
theorem d_X6_trim_16 : decode (bc mX6_trim) 16 = .ok (.iconst 0, 1) := by decide +kernel
theorem d_X6_trim_17 : decode (bc mX6_trim) 17 = .ok (.iaload, 1) := by decide +kernel
theorem d_X6_trim_18 : decode (bc mX6_trim) 18 = .ok (.iastore, 1) := by decide +kernel
theorem d_X6_trim_19 : decode (bc mX6_trim) 19 = .ok (.return_, 1) := by decide +kernel
theorem d_X6_begin_0 : decode (bc mX6_begin) 0 = .ok (.aload_n 0, 1) := by decide +kernel
theorem d_X6_begin_1 : decode (bc mX6_begin) 1 = .ok (.getfield 44, 3) := by decide +kernel
theorem d_X6_begin_4 : decode (bc mX6_begin) 4 = .ok (.iload_n 2, 1) := by decide +kernel
theorem d_X6_begin_5 : decode (bc mX6_begin) 5 = .ok (.iload_n 3, 1) := by decide +kernel
theorem d_X6_begin_6 : decode (bc mX6_begin) 6 = .ok (.iastore, 1) := by decide +kernel
theorem d_X6_begin_7 : decode (bc mX6_begin) 7 = .ok (.aload_n 0, 1) := by decide +kernel
theorem d_X6_begin_8 : decode (bc mX6_begin) 8 = .ok (.getfield 47, 3) := by decide +kernel
theorem d_X6_begin_11 : decode (bc mX6_begin) 11 = .ok (.iload_n 2, 1) := by decide +kernel
theorem d_X6_begin_12 : decode (bc mX6_begin) 12 = .ok (.iconst 1, 1) := by decide +kernel
theorem d_X6_begin_13 : decode (bc mX6_begin) 13 = .ok (.iastore, 1) := by decide +kernel
theorem d_X6_begin_14 : decode (bc mX6_begin) 14 = .ok (.aload_n 0, 1) := by decide +kernel
theorem d_X6_begin_15 : decode (bc mX6_begin) 15 = .ok (.getfield 53, 3) := by decide +kernel
theorem d_X6_begin_18 : decode (bc mX6_begin) 18 = .ok (.iload_n 2, 1) := by decide +kernel
theorem d_X6_begin_19 : decode (bc mX6_begin) 19 = .ok (.iconst 0, 1) := by decide +kernel
theorem d_X6_begin_20 : decode (bc mX6_begin) 20 = .ok (.iastore, 1) := by decide +kernel
theorem d_X6_begin_21 : decode (bc mX6_begin) 21 = .ok (.aload_n 0, 1) := by decide +kernel
theorem d_X6_begin_22 : decode (bc mX6_begin) 22 = .ok (.getfield 56, 3) := by decide +kernel
theorem d_X6_begin_25 : decode (bc mX6_begin) 25 = .ok (.iload_n 2, 1) := by decide +kernel
theorem d_X6_begin_26 : decode (bc mX6_begin) 26 = .ok (.iconst 0, 1) := by decide +kernel
theorem d_X6_begin_27 : decode (bc mX6_begin) 27 = .ok (.iastore, 1) := by decide +kernel
theorem d_X6_begin_28 : decode (bc mX6_begin) 28 = .ok (.aload_n 0, 1) := by decide +kernel
theorem d_X6_begin_29 : decode (bc mX6_begin) 29 = .ok (.getfield 59, 3) := by decide +kernel
theorem d_X6_begin_32 : decode (bc mX6_begin) 32 = .ok (.iload_n 2, 1) := by decide +kernel
theorem d_X6_begin_33 : decode (bc mX6_begin) 33 = .ok (.iconst 0, 1) := by decide +kernel
theorem d_X6_begin_34 : decode (bc mX6_begin) 34 = .ok (.iastore, 1) := by decide +kernel
theorem d_X6_begin_35 : decode (bc mX6_begin) 35 = .ok (.iconst 0, 1) := by decide +kernel
theorem d_X6_begin_36 : decode (bc mX6_begin) 36 = .ok (.istore 4, 2) := by decide +kernel
theorem d_X6_begin_38 : decode (bc mX6_begin) 38 = .ok (.iload 4, 2) := by decide +kernel
theorem d_X6_begin_40 : decode (bc mX6_begin) 40 = .ok (.aload_n 1, 1) := by decide +kernel
theorem d_X6_begin_41 : decode (bc mX6_begin) 41 = .ok (.sipush 814, 3) := by decide +kernel
theorem d_X6_begin_44 : decode (bc mX6_begin) 44 = .ok (.iaload, 1) := by decide +kernel
theorem d_X6_begin_45 : decode (bc mX6_begin) 45 = .ok (.if_icmp .ge 55, 3) := by decide +kernel
theorem d_X6_begin_48 : decode (bc mX6_begin) 48 = .ok (.aload_n 1, 1) := by decide +kernel
theorem d_X6_begin_49 : decode (bc mX6_begin) 49 = .ok (.iload 4, 2) := by decide +kernel
theorem d_X6_begin_51 : decode (bc mX6_begin) 51 = .ok (.invokestatic 147, 3) := by decide +kernel
theorem d_X6_begin_54 : decode (bc mX6_begin) 54 = .ok (.iconst 1, 1) := by decide +kernel
theorem d_X6_begin_55 : decode (bc mX6_begin) 55 = .ok (.iadd, 1) := by decide +kernel
theorem d_X6_begin_56 : decode (bc mX6_begin) 56 = .ok (.iaload, 1) := by decide +kernel
theorem d_X6_begin_57 : decode (bc mX6_begin) 57 = .ok (.iload_n 2, 1) := by decide +kernel
theorem d_X6_begin_58 : decode (bc mX6_begin) 58 = .ok (.if_icmp .ne 36, 3) := by decide +kernel
theorem d_X6_begin_61 : decode (bc mX6_begin) 61 = .ok (.aload_n 0, 1) := by decide +kernel
theorem d_X6_begin_62 : decode (bc mX6_begin) 62 = .ok (.getfield 50, 3) := by decide +kernel
theorem d_X6_begin_65 : decode (bc mX6_begin) 65 = .ok (.bipush 16, 2) := by decide +kernel
theorem d_X6_begin_67 : decode (bc mX6_begin) 67 = .ok (.iload_n 2, 1) := by decide +kernel
theorem d_X6_begin_68 : decode (bc mX6_begin) 68 = .ok (.imul, 1) := by decide +kernel
theorem d_X6_begin_69 : decode (bc mX6_begin) 69 = .ok (.aload_n 0, 1) := by decide +kernel
theorem d_X6_begin_70 : decode (bc mX6_begin) 70 = .ok (.getfield 53, 3) := by decide +kernel
theorem d_X6_begin_73 : decode (bc mX6_begin) 73 = .ok (.iload_n 2, 1) := by decide +kernel
theorem d_X6_begin_74 : decode (bc mX6_begin) 74 = .ok (.iaload, 1) := by decide +kernel
theorem d_X6_begin_75 : decode (bc mX6_begin) 75 = .ok (.iadd, 1) := by decide +kernel
theorem d_X6_begin_76 : decode (bc mX6_begin) 76 = .ok (.aload_n 1, 1) := by decide +kernel
theorem d_X6_begin_77 : decode (bc mX6_begin) 77 = .ok (.iload 4, 2) := by decide +kernel
theorem d_X6_begin_79 : decode (bc mX6_begin) 79 = .ok (.invokestatic 147, 3) := by decide +kernel
theorem d_X6_begin_82 : decode (bc mX6_begin) 82 = .ok (.iaload, 1) := by decide +kernel
theorem d_X6_begin_83 : decode (bc mX6_begin) 83 = .ok (.iastore, 1) := by decide +kernel
theorem d_X6_begin_84 : decode (bc mX6_begin) 84 = .ok (.aload_n 0, 1) := by decide +kernel
theorem d_X6_begin_85 : decode (bc mX6_begin) 85 = .ok (.getfield 53, 3) := by decide +kernel
theorem d_X6_begin_88 : decode (bc mX6_begin) 88 = .ok (.iload_n 2, 1) := by decide +kernel
theorem d_X6_begin_89 : decode (bc mX6_begin) 89 = .ok (.dup2, 1) := by decide +kernel
theorem d_X6_begin_90 : decode (bc mX6_begin) 90 = .ok (.iaload, 1) := by decide +kernel
theorem d_X6_begin_91 : decode (bc mX6_begin) 91 = .ok (.iconst 1, 1) := by decide +kernel
theorem d_X6_begin_92 : decode (bc mX6_begin) 92 = .ok (.iadd, 1) := by decide +kernel
theorem d_X6_begin_93 : decode (bc mX6_begin) 93 = .ok (.iastore, 1) := by decide +kernel
theorem d_X6_begin_94 : decode (bc mX6_begin) 94 = .ok (.iinc 4 1, 3) := by decide +kernel
theorem d_X6_begin_97 : decode (bc mX6_begin) 97 = .ok (.goto (-59), 3) := by decide +kernel
theorem d_X6_begin_100 : decode (bc mX6_begin) 100 = .ok (.return_, 1) := by decide +kernel
theorem d_X6_nextName_0 : decode (bc mX6_nextName) 0 = .ok (.aload_n 0, 1) := by decide +kernel
theorem d_X6_nextName_1 : decode (bc mX6_nextName) 1 = .ok (.getfield 56, 3) := by decide +kernel
theorem d_X6_nextName_4 : decode (bc mX6_nextName) 4 = .ok (.iload_n 1, 1) := by decide +kernel
theorem d_X6_nextName_5 : decode (bc mX6_nextName) 5 = .ok (.dup2, 1) := by decide +kernel
theorem d_X6_nextName_6 : decode (bc mX6_nextName) 6 = .ok (.iaload, 1) := by decide +kernel
theorem d_X6_nextName_7 : decode (bc mX6_nextName) 7 = .ok (.iconst 1, 1) := by decide +kernel
theorem d_X6_nextName_8 : decode (bc mX6_nextName) 8 = .ok (.iadd, 1) := by decide +kernel
theorem d_X6_nextName_9 : decode (bc mX6_nextName) 9 = .ok (.iastore, 1) := by decide +kernel
theorem d_X6_nextName_10 : decode (bc mX6_nextName) 10 = .ok (.aload_n 0, 1) := by decide +kernel
theorem d_X6_nextName_11 : decode (bc mX6_nextName) 11 = .ok (.getfield 59, 3) := by decide +kernel
theorem d_X6_nextName_14 : decode (bc mX6_nextName) 14 = .ok (.iload_n 1, 1) := by decide +kernel
theorem d_X6_nextName_15 : decode (bc mX6_nextName) 15 = .ok (.iconst 0, 1) := by decide +kernel
theorem d_X6_nextName_16 : decode (bc mX6_nextName) 16 = .ok (.iastore, 1) := by decide +kernel
theorem d_X6_nextName_17 : decode (bc mX6_nextName) 17 = .ok (.return_, 1) := by decide +kernel
theorem d_X6_compare_0 : decode (bc mX6_compare) 0 = .ok (.aload_n 1, 1) := by decide +kernel
theorem d_X6_compare_1 : decode (bc mX6_compare) 1 = .ok (.aload_n 0, 1) := by decide +kernel
theorem d_X6_compare_2 : decode (bc mX6_compare) 2 = .ok (.getfield 50, 3) := by decide +kernel
theorem d_X6_compare_5 : decode (bc mX6_compare) 5 = .ok (.bipush 16, 2) := by decide +kernel
theorem d_X6_compare_7 : decode (bc mX6_compare) 7 = .ok (.iload_n 2, 1) := by decide +kernel
theorem d_X6_compare_8 : decode (bc mX6_compare) 8 = .ok (.imul, 1) := by decide +kernel
theorem d_X6_compare_9 : decode (bc mX6_compare) 9 = .ok (.aload_n 0, 1) := by decide +kernel
theorem d_X6_compare_10 : decode (bc mX6_compare) 10 = .ok (.getfield 56, 3) := by decide +kernel
theorem d_X6_compare_13 : decode (bc mX6_compare) 13 = .ok (.iload_n 2, 1) := by decide +kernel
theorem d_X6_compare_14 : decode (bc mX6_compare) 14 = .ok (.iaload, 1) := by decide +kernel
theorem d_X6_compare_15 : decode (bc mX6_compare) 15 = .ok (.iadd, 1) := by decide +kernel
theorem d_X6_compare_16 : decode (bc mX6_compare) 16 = .ok (.iaload, 1) := by decide +kernel
theorem d_X6_compare_17 : decode (bc mX6_compare) 17 = .ok (.invokestatic 155, 3) := by decide +kernel
theorem d_X6_compare_20 : decode (bc mX6_compare) 20 = .ok (.istore 4, 2) := by decide +kernel
theorem d_X6_compare_22 : decode (bc mX6_compare) 22 = .ok (.iload 4, 2) := by decide +kernel
theorem d_X6_compare_24 : decode (bc mX6_compare) 24 = .ok (.bipush (-6), 2) := by decide +kernel
theorem d_X6_compare_26 : decode (bc mX6_compare) 26 = .ok (.if_icmp .eq 37, 3) := by decide +kernel
theorem d_X6_compare_29 : decode (bc mX6_compare) 29 = .ok (.aload_n 1, 1) := by decide +kernel
theorem d_X6_compare_30 : decode (bc mX6_compare) 30 = .ok (.iload 4, 2) := by decide +kernel
theorem d_X6_compare_32 : decode (bc mX6_compare) 32 = .ok (.invokestatic 147, 3) := by decide +kernel
theorem d_X6_compare_35 : decode (bc mX6_compare) 35 = .ok (.bipush 23, 2) := by decide +kernel
theorem d_X6_compare_37 : decode (bc mX6_compare) 37 = .ok (.iadd, 1) := by decide +kernel
theorem d_X6_compare_38 : decode (bc mX6_compare) 38 = .ok (.aload_n 0, 1) := by decide +kernel
theorem d_X6_compare_39 : decode (bc mX6_compare) 39 = .ok (.getfield 59, 3) := by decide +kernel
theorem d_X6_compare_42 : decode (bc mX6_compare) 42 = .ok (.iload_n 2, 1) := by decide +kernel
theorem d_X6_compare_43 : decode (bc mX6_compare) 43 = .ok (.iaload, 1) := by decide +kernel
theorem d_X6_compare_44 : decode (bc mX6_compare) 44 = .ok (.iadd, 1) := by decide +kernel
theorem d_X6_compare_45 : decode (bc mX6_compare) 45 = .ok (.iaload, 1) := by decide +kernel
theorem d_X6_compare_46 : decode (bc mX6_compare) 46 = .ok (.iload_n 3, 1) := by decide +kernel
theorem d_X6_compare_47 : decode (bc mX6_compare) 47 = .ok (.if_icmp .ne 16, 3) := by decide +kernel
theorem d_X6_compare_50 : decode (bc mX6_compare) 50 = .ok (.aload_n 0, 1) := by decide +kernel
theorem d_X6_compare_51 : decode (bc mX6_compare) 51 = .ok (.getfield 59, 3) := by decide +kernel
theorem d_X6_compare_54 : decode (bc mX6_compare) 54 = .ok (.iload_n 2, 1) := by decide +kernel
theorem d_X6_compare_55 : decode (bc mX6_compare) 55 = .ok (.dup2, 1) := by decide +kernel
theorem d_X6_compare_56 : decode (bc mX6_compare) 56 = .ok (.iaload, 1) := by decide +kernel
theorem d_X6_compare_57 : decode (bc mX6_compare) 57 = .ok (.iconst 1, 1) := by decide +kernel
theorem d_X6_compare_58 : decode (bc mX6_compare) 58 = .ok (.iadd, 1) := by decide +kernel
theorem d_X6_compare_59 : decode (bc mX6_compare) 59 = .ok (.iastore, 1) := by decide +kernel
theorem d_X6_compare_60 : decode (bc mX6_compare) 60 = .ok (.goto 8, 3) := by decide +kernel
theorem d_X6_compare_63 : decode (bc mX6_compare) 63 = .ok (.aload_n 0, 1) := by decide +kernel
theorem d_X6_compare_64 : decode (bc mX6_compare) 64 = .ok (.iload_n 2, 1) := by decide +kernel
theorem d_X6_compare_65 : decode (bc mX6_compare) 65 = .ok (.invokevirtual 159, 3) := by decide +kernel
theorem d_X6_compare_68 : decode (bc mX6_compare) 68 = .ok (.return_, 1) := by decide +kernel
theorem d_X6_checkMemories_0 : decode (bc mX6_checkMemories) 0 = .ok (.aload_n 0, 1) := by decide +kernel
theorem d_X6_checkMemories_1 : decode (bc mX6_checkMemories) 1 = .ok (.getfield 56, 3) := by decide +kernel
theorem d_X6_checkMemories_4 : decode (bc mX6_checkMemories) 4 = .ok (.iload_n 2, 1) := by decide +kernel
theorem d_X6_checkMemories_5 : decode (bc mX6_checkMemories) 5 = .ok (.iaload, 1) := by decide +kernel
theorem d_X6_checkMemories_6 : decode (bc mX6_checkMemories) 6 = .ok (.aload_n 0, 1) := by decide +kernel
theorem d_X6_checkMemories_7 : decode (bc mX6_checkMemories) 7 = .ok (.getfield 53, 3) := by decide +kernel
theorem d_X6_checkMemories_10 : decode (bc mX6_checkMemories) 10 = .ok (.iload_n 2, 1) := by decide +kernel
theorem d_X6_checkMemories_11 : decode (bc mX6_checkMemories) 11 = .ok (.iaload, 1) := by decide +kernel
theorem d_X6_checkMemories_12 : decode (bc mX6_checkMemories) 12 = .ok (.if_icmp .ge 124, 3) := by decide +kernel
theorem d_X6_checkMemories_15 : decode (bc mX6_checkMemories) 15 = .ok (.aload_n 1, 1) := by decide +kernel
theorem d_X6_checkMemories_16 : decode (bc mX6_checkMemories) 16 = .ok (.aload_n 0, 1) := by decide +kernel
theorem d_X6_checkMemories_17 : decode (bc mX6_checkMemories) 17 = .ok (.getfield 50, 3) := by decide +kernel
theorem d_X6_checkMemories_20 : decode (bc mX6_checkMemories) 20 = .ok (.bipush 16, 2) := by decide +kernel
theorem d_X6_checkMemories_22 : decode (bc mX6_checkMemories) 22 = .ok (.iload_n 2, 1) := by decide +kernel
theorem d_X6_checkMemories_23 : decode (bc mX6_checkMemories) 23 = .ok (.imul, 1) := by decide +kernel
theorem d_X6_checkMemories_24 : decode (bc mX6_checkMemories) 24 = .ok (.aload_n 0, 1) := by decide +kernel
theorem d_X6_checkMemories_25 : decode (bc mX6_checkMemories) 25 = .ok (.getfield 56, 3) := by decide +kernel
theorem d_X6_checkMemories_28 : decode (bc mX6_checkMemories) 28 = .ok (.iload_n 2, 1) := by decide +kernel
theorem d_X6_checkMemories_29 : decode (bc mX6_checkMemories) 29 = .ok (.iaload, 1) := by decide +kernel
theorem d_X6_checkMemories_30 : decode (bc mX6_checkMemories) 30 = .ok (.iadd, 1) := by decide +kernel
theorem d_X6_checkMemories_31 : decode (bc mX6_checkMemories) 31 = .ok (.iaload, 1) := by decide +kernel
theorem d_X6_checkMemories_32 : decode (bc mX6_checkMemories) 32 = .ok (.invokestatic 155, 3) := by decide +kernel
theorem d_X6_checkMemories_35 : decode (bc mX6_checkMemories) 35 = .ok (.istore_n 3, 1) := by decide +kernel
theorem d_X6_checkMemories_36 : decode (bc mX6_checkMemories) 36 = .ok (.iload_n 3, 1) := by decide +kernel
theorem d_X6_checkMemories_37 : decode (bc mX6_checkMemories) 37 = .ok (.bipush (-6), 2) := by decide +kernel
theorem d_X6_checkMemories_39 : decode (bc mX6_checkMemories) 39 = .ok (.if_icmp .ne 11, 3) := by decide +kernel
theorem d_X6_checkMemories_42 : decode (bc mX6_checkMemories) 42 = .ok (.aload_n 0, 1) := by decide +kernel
theorem d_X6_checkMemories_43 : decode (bc mX6_checkMemories) 43 = .ok (.iload_n 2, 1) := by decide +kernel
theorem d_X6_checkMemories_44 : decode (bc mX6_checkMemories) 44 = .ok (.invokevirtual 159, 3) := by decide +kernel
theorem d_X6_checkMemories_47 : decode (bc mX6_checkMemories) 47 = .ok (.goto 86, 3) := by decide +kernel
theorem d_X6_checkMemories_50 : decode (bc mX6_checkMemories) 50 = .ok (.aload_n 0, 1) := by decide +kernel
theorem d_X6_checkMemories_51 : decode (bc mX6_checkMemories) 51 = .ok (.getfield 59, 3) := by decide +kernel
theorem d_X6_checkMemories_54 : decode (bc mX6_checkMemories) 54 = .ok (.iload_n 2, 1) := by decide +kernel
theorem d_X6_checkMemories_55 : decode (bc mX6_checkMemories) 55 = .ok (.iaload, 1) := by decide +kernel
theorem d_X6_checkMemories_56 : decode (bc mX6_checkMemories) 56 = .ok (.aload_n 1, 1) := by decide +kernel
theorem d_X6_checkMemories_57 : decode (bc mX6_checkMemories) 57 = .ok (.iload_n 3, 1) := by decide +kernel
theorem d_X6_checkMemories_58 : decode (bc mX6_checkMemories) 58 = .ok (.invokestatic 147, 3) := by decide +kernel
theorem d_X6_checkMemories_61 : decode (bc mX6_checkMemories) 61 = .ok (.iconst 3, 1) := by decide +kernel
theorem d_X6_checkMemories_62 : decode (bc mX6_checkMemories) 62 = .ok (.iadd, 1) := by decide +kernel
theorem d_X6_checkMemories_63 : decode (bc mX6_checkMemories) 63 = .ok (.iaload, 1) := by decide +kernel
theorem d_X6_checkMemories_64 : decode (bc mX6_checkMemories) 64 = .ok (.if_icmp .ne 22, 3) := by decide +kernel
theorem d_X6_checkMemories_67 : decode (bc mX6_checkMemories) 67 = .ok (.aload_n 0, 1) := by decide +kernel
theorem d_X6_checkMemories_68 : decode (bc mX6_checkMemories) 68 = .ok (.aload_n 1, 1) := by decide +kernel
theorem d_X6_checkMemories_69 : decode (bc mX6_checkMemories) 69 = .ok (.iload_n 3, 1) := by decide +kernel
theorem d_X6_checkMemories_70 : decode (bc mX6_checkMemories) 70 = .ok (.invokestatic 147, 3) := by decide +kernel
theorem d_X6_checkMemories_73 : decode (bc mX6_checkMemories) 73 = .ok (.iconst 2, 1) := by decide +kernel
theorem d_X6_checkMemories_74 : decode (bc mX6_checkMemories) 74 = .ok (.iadd, 1) := by decide +kernel
theorem d_X6_checkMemories_75 : decode (bc mX6_checkMemories) 75 = .ok (.iaload, 1) := by decide +kernel
theorem d_X6_checkMemories_76 : decode (bc mX6_checkMemories) 76 = .ok (.putfield 163, 3) := by decide +kernel
theorem d_X6_checkMemories_79 : decode (bc mX6_checkMemories) 79 = .ok (.aload_n 0, 1) := by decide +kernel
theorem d_X6_checkMemories_80 : decode (bc mX6_checkMemories) 80 = .ok (.aload_n 1, 1) := by decide +kernel
theorem d_X6_checkMemories_81 : decode (bc mX6_checkMemories) 81 = .ok (.iload_n 3, 1) := by decide +kernel
theorem d_X6_checkMemories_82 : decode (bc mX6_checkMemories) 82 = .ok (.invokevirtual 166, 3) := by decide +kernel
theorem d_X6_checkMemories_85 : decode (bc mX6_checkMemories) 85 = .ok (.return_, 1) := by decide +kernel
theorem d_X6_checkMemories_86 : decode (bc mX6_checkMemories) 86 = .ok (.aload_n 1, 1) := by decide +kernel
theorem d_X6_checkMemories_87 : decode (bc mX6_checkMemories) 87 = .ok (.iload_n 3, 1) := by decide +kernel
theorem d_X6_checkMemories_88 : decode (bc mX6_checkMemories) 88 = .ok (.invokestatic 147, 3) := by decide +kernel
theorem d_X6_checkMemories_91 : decode (bc mX6_checkMemories) 91 = .ok (.bipush 6, 2) := by decide +kernel
theorem d_X6_checkMemories_93 : decode (bc mX6_checkMemories) 93 = .ok (.iadd, 1) := by decide +kernel
theorem d_X6_checkMemories_94 : decode (bc mX6_checkMemories) 94 = .ok (.aload_n 0, 1) := by decide +kernel
theorem d_X6_checkMemories_95 : decode (bc mX6_checkMemories) 95 = .ok (.getfield 59, 3) := by decide +kernel
theorem d_X6_checkMemories_98 : decode (bc mX6_checkMemories) 98 = .ok (.iload_n 2, 1) := by decide +kernel
theorem d_X6_checkMemories_99 : decode (bc mX6_checkMemories) 99 = .ok (.iaload, 1) := by decide +kernel
theorem d_X6_checkMemories_100 : decode (bc mX6_checkMemories) 100 = .ok (.iadd, 1) := by decide +kernel
theorem d_X6_checkMemories_101 : decode (bc mX6_checkMemories) 101 = .ok (.iaload, 1) := by decide +kernel
theorem d_X6_checkMemories_102 : decode (bc mX6_checkMemories) 102 = .ok (.istore 4, 2) := by decide +kernel
theorem d_X6_checkMemories_104 : decode (bc mX6_checkMemories) 104 = .ok (.iload 4, 2) := by decide +kernel
theorem d_X6_checkMemories_106 : decode (bc mX6_checkMemories) 106 = .ok (.bipush 20, 2) := by decide +kernel
theorem d_X6_checkMemories_108 : decode (bc mX6_checkMemories) 108 = .ok (.if_icmp .lt 13, 3) := by decide +kernel
theorem d_X6_checkMemories_111 : decode (bc mX6_checkMemories) 111 = .ok (.aload_n 0, 1) := by decide +kernel
theorem d_X6_checkMemories_112 : decode (bc mX6_checkMemories) 112 = .ok (.iload 4, 2) := by decide +kernel
theorem d_X6_checkMemories_114 : decode (bc mX6_checkMemories) 114 = .ok (.bipush 20, 2) := by decide +kernel
theorem d_X6_checkMemories_116 : decode (bc mX6_checkMemories) 116 = .ok (.isub, 1) := by decide +kernel
theorem d_X6_checkMemories_117 : decode (bc mX6_checkMemories) 117 = .ok (.putfield 169, 3) := by decide +kernel
theorem d_X6_checkMemories_120 : decode (bc mX6_checkMemories) 120 = .ok (.return_, 1) := by decide +kernel
theorem d_X6_checkMemories_121 : decode (bc mX6_checkMemories) 121 = .ok (.aload_n 0, 1) := by decide +kernel
theorem d_X6_checkMemories_122 : decode (bc mX6_checkMemories) 122 = .ok (.aload_n 1, 1) := by decide +kernel
theorem d_X6_checkMemories_123 : decode (bc mX6_checkMemories) 123 = .ok (.iload_n 2, 1) := by decide +kernel
theorem d_X6_checkMemories_124 : decode (bc mX6_checkMemories) 124 = .ok (.aload_n 1, 1) := by decide +kernel
theorem d_X6_checkMemories_125 : decode (bc mX6_checkMemories) 125 = .ok (.iload 4, 2) := by decide +kernel
theorem d_X6_checkMemories_127 : decode (bc mX6_checkMemories) 127 = .ok (.invokestatic 172, 3) := by decide +kernel
theorem d_X6_checkMemories_130 : decode (bc mX6_checkMemories) 130 = .ok (.invokevirtual 175, 3) := by decide +kernel
theorem d_X6_checkMemories_133 : decode (bc mX6_checkMemories) 133 = .ok (.goto (-133), 3) := by decide +kernel
theorem d_X6_checkMemories_136 : decode (bc mX6_checkMemories) 136 = .ok (.aload_n 0, 1) := by decide +kernel
theorem d_X6_checkMemories_137 : decode (bc mX6_checkMemories) 137 = .ok (.getfield 47, 3) := by decide +kernel
theorem d_X6_checkMemories_140 : decode (bc mX6_checkMemories) 140 = .ok (.iload_n 2, 1) := by decide +kernel
theorem d_X6_checkMemories_141 : decode (bc mX6_checkMemories) 141 = .ok (.iconst 2, 1) := by decide +kernel
theorem d_X6_checkMemories_142 : decode (bc mX6_checkMemories) 142 = .ok (.iastore, 1) := by decide +kernel
theorem d_X6_checkMemories_143 : decode (bc mX6_checkMemories) 143 = .ok (.aload_n 0, 1) := by decide +kernel
theorem d_X6_checkMemories_144 : decode (bc mX6_checkMemories) 144 = .ok (.getfield 62, 3) := by decide +kernel
theorem d_X6_checkMemories_147 : decode (bc mX6_checkMemories) 147 = .ok (.iload_n 2, 1) := by decide +kernel
theorem d_X6_checkMemories_148 : decode (bc mX6_checkMemories) 148 = .ok (.iconst 0, 1) := by decide +kernel
theorem d_X6_checkMemories_149 : decode (bc mX6_checkMemories) 149 = .ok (.iastore, 1) := by decide +kernel
theorem d_X6_checkMemories_150 : decode (bc mX6_checkMemories) 150 = .ok (.aload_n 0, 1) := by decide +kernel
theorem d_X6_checkMemories_151 : decode (bc mX6_checkMemories) 151 = .ok (.getfield 68, 3) := by decide +kernel
theorem d_X6_checkMemories_154 : decode (bc mX6_checkMemories) 154 = .ok (.iload_n 2, 1) := by decide +kernel
theorem d_X6_checkMemories_155 : decode (bc mX6_checkMemories) 155 = .ok (.iconst 0, 1) := by decide +kernel
theorem d_X6_checkMemories_156 : decode (bc mX6_checkMemories) 156 = .ok (.iastore, 1) := by decide +kernel
theorem d_X6_checkMemories_157 : decode (bc mX6_checkMemories) 157 = .ok (.aload_n 0, 1) := by decide +kernel
theorem d_X6_checkMemories_158 : decode (bc mX6_checkMemories) 158 = .ok (.getfield 77, 3) := by decide +kernel
theorem d_X6_checkMemories_161 : decode (bc mX6_checkMemories) 161 = .ok (.iload_n 2, 1) := by decide +kernel
theorem d_X6_checkMemories_162 : decode (bc mX6_checkMemories) 162 = .ok (.iconst 0, 1) := by decide +kernel
theorem d_X6_checkMemories_163 : decode (bc mX6_checkMemories) 163 = .ok (.iastore, 1) := by decide +kernel
theorem d_X6_checkMemories_164 : decode (bc mX6_checkMemories) 164 = .ok (.aload_n 0, 1) := by decide +kernel
theorem d_X6_checkMemories_165 : decode (bc mX6_checkMemories) 165 = .ok (.getfield 80, 3) := by decide +kernel
theorem d_X6_checkMemories_168 : decode (bc mX6_checkMemories) 168 = .ok (.iload_n 2, 1) := by decide +kernel
theorem d_X6_checkMemories_169 : decode (bc mX6_checkMemories) 169 = .ok (.iconst 0, 1) := by decide +kernel
theorem d_X6_checkMemories_170 : decode (bc mX6_checkMemories) 170 = .ok (.iastore, 1) := by decide +kernel
theorem d_X6_checkMemories_171 : decode (bc mX6_checkMemories) 171 = .ok (.return_, 1) := by decide +kernel
theorem d_X6_push_0 : decode (bc mX6_push) 0 = .ok (.aload_n 0, 1) := by decide +kernel
theorem d_X6_push_1 : decode (bc mX6_push) 1 = .ok (.getfield 65, 3) := by decide +kernel
theorem d_X6_push_4 : decode (bc mX6_push) 4 = .ok (.bipush 40, 2) := by decide +kernel
theorem d_X6_push_6 : decode (bc mX6_push) 6 = .ok (.iload_n 1, 1) := by decide +kernel
theorem d_X6_push_7 : decode (bc mX6_push) 7 = .ok (.imul, 1) := by decide +kernel
theorem d_X6_push_8 : decode (bc mX6_push) 8 = .ok (.aload_n 0, 1) := by decide +kernel
theorem d_X6_push_9 : decode (bc mX6_push) 9 = .ok (.getfield 68, 3) := by decide +kernel
theorem d_X6_push_12 : decode (bc mX6_push) 12 = .ok (.iload_n 1, 1) := by decide +kernel
theorem d_X6_push_13 : decode (bc mX6_push) 13 = .ok (.iaload, 1) := by decide +kernel
theorem d_X6_push_14 : decode (bc mX6_push) 14 = .ok (.iadd, 1) := by decide +kernel
theorem d_X6_push_15 : decode (bc mX6_push) 15 = .ok (.iload_n 2, 1) := by decide +kernel
theorem d_X6_push_16 : decode (bc mX6_push) 16 = .ok (.iastore, 1) := by decide +kernel
theorem d_X6_push_17 : decode (bc mX6_push) 17 = .ok (.aload_n 0, 1) := by decide +kernel
theorem d_X6_push_18 : decode (bc mX6_push) 18 = .ok (.getfield 68, 3) := by decide +kernel
theorem d_X6_push_21 : decode (bc mX6_push) 21 = .ok (.iload_n 1, 1) := by decide +kernel
theorem d_X6_push_22 : decode (bc mX6_push) 22 = .ok (.dup2, 1) := by decide +kernel
theorem d_X6_push_23 : decode (bc mX6_push) 23 = .ok (.iaload, 1) := by decide +kernel
theorem d_X6_push_24 : decode (bc mX6_push) 24 = .ok (.iconst 1, 1) := by decide +kernel
theorem d_X6_push_25 : decode (bc mX6_push) 25 = .ok (.iadd, 1) := by decide +kernel
theorem d_X6_push_26 : decode (bc mX6_push) 26 = .ok (.iastore, 1) := by decide +kernel
theorem d_X6_push_27 : decode (bc mX6_push) 27 = .ok (.return_, 1) := by decide +kernel
theorem d_X6_pop_0 : decode (bc mX6_pop) 0 = .ok (.aload_n 0, 1) := by decide +kernel
theorem d_X6_pop_1 : decode (bc mX6_pop) 1 = .ok (.getfield 68, 3) := by decide +kernel
theorem d_X6_pop_4 : decode (bc mX6_pop) 4 = .ok (.iload_n 1, 1) := by decide +kernel
theorem d_X6_pop_5 : decode (bc mX6_pop) 5 = .ok (.dup2, 1) := by decide +kernel
theorem d_X6_pop_6 : decode (bc mX6_pop) 6 = .ok (.iaload, 1) := by decide +kernel
theorem d_X6_pop_7 : decode (bc mX6_pop) 7 = .ok (.iconst 1, 1) := by decide +kernel
theorem d_X6_pop_8 : decode (bc mX6_pop) 8 = .ok (.isub, 1) := by decide +kernel
theorem d_X6_pop_9 : decode (bc mX6_pop) 9 = .ok (.iastore, 1) := by decide +kernel
theorem d_X6_pop_10 : decode (bc mX6_pop) 10 = .ok (.aload_n 0, 1) := by decide +kernel
theorem d_X6_pop_11 : decode (bc mX6_pop) 11 = .ok (.getfield 65, 3) := by decide +kernel
theorem d_X6_pop_14 : decode (bc mX6_pop) 14 = .ok (.bipush 40, 2) := by decide +kernel
theorem d_X6_pop_16 : decode (bc mX6_pop) 16 = .ok (.iload_n 1, 1) := by decide +kernel
theorem d_X6_pop_17 : decode (bc mX6_pop) 17 = .ok (.imul, 1) := by decide +kernel
theorem d_X6_pop_18 : decode (bc mX6_pop) 18 = .ok (.aload_n 0, 1) := by decide +kernel
theorem d_X6_pop_19 : decode (bc mX6_pop) 19 = .ok (.getfield 68, 3) := by decide +kernel
theorem d_X6_pop_22 : decode (bc mX6_pop) 22 = .ok (.iload_n 1, 1) := by decide +kernel
theorem d_X6_pop_23 : decode (bc mX6_pop) 23 = .ok (.iaload, 1) := by decide +kernel
theorem d_X6_pop_24 : decode (bc mX6_pop) 24 = .ok (.iadd, 1) := by decide +kernel
theorem d_X6_pop_25 : decode (bc mX6_pop) 25 = .ok (.iaload, 1) := by decide +kernel
theorem d_X6_pop_26 : decode (bc mX6_pop) 26 = .ok (.ireturn, 1) := by decide +kernel
theorem d_X6_lookOf_0 : decode (bc mX6_lookOf) 0 = .ok (.iconst 0, 1) := by decide +kernel
theorem d_X6_lookOf_1 : decode (bc mX6_lookOf) 1 = .ok (.istore_n 3, 1) := by decide +kernel
theorem d_X6_lookOf_2 : decode (bc mX6_lookOf) 2 = .ok (.iload_n 3, 1) := by decide +kernel
theorem d_X6_lookOf_3 : decode (bc mX6_lookOf) 3 = .ok (.aload_n 0, 1) := by decide +kernel
theorem d_X6_lookOf_4 : decode (bc mX6_lookOf) 4 = .ok (.getfield 77, 3) := by decide +kernel
theorem d_X6_lookOf_7 : decode (bc mX6_lookOf) 7 = .ok (.iload_n 1, 1) := by decide +kernel
theorem d_X6_lookOf_8 : decode (bc mX6_lookOf) 8 = .ok (.iaload, 1) := by decide +kernel
theorem d_X6_lookOf_9 : decode (bc mX6_lookOf) 9 = .ok (.if_icmp .ge 36, 3) := by decide +kernel
theorem d_X6_lookOf_12 : decode (bc mX6_lookOf) 12 = .ok (.aload_n 0, 1) := by decide +kernel
theorem d_X6_lookOf_13 : decode (bc mX6_lookOf) 13 = .ok (.getfield 71, 3) := by decide +kernel
theorem d_X6_lookOf_16 : decode (bc mX6_lookOf) 16 = .ok (.bipush 17, 2) := by decide +kernel
theorem d_X6_lookOf_18 : decode (bc mX6_lookOf) 18 = .ok (.iload_n 1, 1) := by decide +kernel
theorem d_X6_lookOf_19 : decode (bc mX6_lookOf) 19 = .ok (.imul, 1) := by decide +kernel
theorem d_X6_lookOf_20 : decode (bc mX6_lookOf) 20 = .ok (.iload_n 3, 1) := by decide +kernel
theorem d_X6_lookOf_21 : decode (bc mX6_lookOf) 21 = .ok (.iadd, 1) := by decide +kernel
theorem d_X6_lookOf_22 : decode (bc mX6_lookOf) 22 = .ok (.iaload, 1) := by decide +kernel
theorem d_X6_lookOf_23 : decode (bc mX6_lookOf) 23 = .ok (.iload_n 2, 1) := by decide +kernel
theorem d_X6_lookOf_24 : decode (bc mX6_lookOf) 24 = .ok (.if_icmp .ne 15, 3) := by decide +kernel
theorem d_X6_lookOf_27 : decode (bc mX6_lookOf) 27 = .ok (.aload_n 0, 1) := by decide +kernel
theorem d_X6_lookOf_28 : decode (bc mX6_lookOf) 28 = .ok (.getfield 74, 3) := by decide +kernel
theorem d_X6_lookOf_31 : decode (bc mX6_lookOf) 31 = .ok (.bipush 17, 2) := by decide +kernel
theorem d_X6_lookOf_33 : decode (bc mX6_lookOf) 33 = .ok (.iload_n 1, 1) := by decide +kernel
theorem d_X6_lookOf_34 : decode (bc mX6_lookOf) 34 = .ok (.imul, 1) := by decide +kernel
theorem d_X6_lookOf_35 : decode (bc mX6_lookOf) 35 = .ok (.iload_n 3, 1) := by decide +kernel
theorem d_X6_lookOf_36 : decode (bc mX6_lookOf) 36 = .ok (.iadd, 1) := by decide +kernel
theorem d_X6_lookOf_37 : decode (bc mX6_lookOf) 37 = .ok (.iaload, 1) := by decide +kernel
theorem d_X6_lookOf_38 : decode (bc mX6_lookOf) 38 = .ok (.ireturn, 1) := by decide +kernel
theorem d_X6_lookOf_39 : decode (bc mX6_lookOf) 39 = .ok (.iinc 3 1, 3) := by decide +kernel
theorem d_X6_lookOf_42 : decode (bc mX6_lookOf) 42 = .ok (.goto (-40), 3) := by decide +kernel
theorem d_X6_lookOf_45 : decode (bc mX6_lookOf) 45 = .ok (.bipush (-6), 2) := by decide +kernel
theorem d_X6_lookOf_47 : decode (bc mX6_lookOf) 47 = .ok (.ireturn, 1) := by decide +kernel
theorem d_X6_endBaking_0 : decode (bc mX6_endBaking) 0 = .ok (.aload_n 0, 1) := by decide +kernel
theorem d_X6_endBaking_1 : decode (bc mX6_endBaking) 1 = .ok (.iload_n 3, 1) := by decide +kernel
theorem d_X6_endBaking_2 : decode (bc mX6_endBaking) 2 = .ok (.putfield 163, 3) := by decide +kernel
theorem d_X6_endBaking_5 : decode (bc mX6_endBaking) 5 = .ok (.aload_n 1, 1) := by decide +kernel
theorem d_X6_endBaking_6 : decode (bc mX6_endBaking) 6 = .ok (.sipush 800, 3) := by decide +kernel
theorem d_X6_endBaking_9 : decode (bc mX6_endBaking) 9 = .ok (.iload_n 2, 1) := by decide +kernel
theorem d_X6_endBaking_10 : decode (bc mX6_endBaking) 10 = .ok (.iadd, 1) := by decide +kernel
theorem d_X6_endBaking_11 : decode (bc mX6_endBaking) 11 = .ok (.dup2, 1) := by decide +kernel
theorem d_X6_endBaking_12 : decode (bc mX6_endBaking) 12 = .ok (.iaload, 1) := by decide +kernel
theorem d_X6_endBaking_13 : decode (bc mX6_endBaking) 13 = .ok (.iconst 1, 1) := by decide +kernel
theorem d_X6_endBaking_14 : decode (bc mX6_endBaking) 14 = .ok (.iadd, 1) := by decide +kernel
theorem d_X6_endBaking_15 : decode (bc mX6_endBaking) 15 = .ok (.iastore, 1) := by decide +kernel
theorem d_X6_endBaking_16 : decode (bc mX6_endBaking) 16 = .ok (.aload_n 1, 1) := by decide +kernel
theorem d_X6_endBaking_17 : decode (bc mX6_endBaking) 17 = .ok (.sipush 812, 3) := by decide +kernel
theorem d_X6_endBaking_20 : decode (bc mX6_endBaking) 20 = .ok (.dup2, 1) := by decide +kernel
theorem d_X6_endBaking_21 : decode (bc mX6_endBaking) 21 = .ok (.iaload, 1) := by decide +kernel
theorem d_X6_endBaking_22 : decode (bc mX6_endBaking) 22 = .ok (.aload_n 0, 1) := by decide +kernel
theorem d_X6_endBaking_23 : decode (bc mX6_endBaking) 23 = .ok (.getfield 80, 3) := by decide +kernel
theorem d_X6_endBaking_26 : decode (bc mX6_endBaking) 26 = .ok (.iload_n 2, 1) := by decide +kernel
theorem d_X6_endBaking_27 : decode (bc mX6_endBaking) 27 = .ok (.iaload, 1) := by decide +kernel
theorem d_X6_endBaking_28 : decode (bc mX6_endBaking) 28 = .ok (.iadd, 1) := by decide +kernel
theorem d_X6_endBaking_29 : decode (bc mX6_endBaking) 29 = .ok (.iastore, 1) := by decide +kernel
theorem d_X6_endBaking_30 : decode (bc mX6_endBaking) 30 = .ok (.iload_n 3, 1) := by decide +kernel
theorem d_X6_endBaking_31 : decode (bc mX6_endBaking) 31 = .ok (.bipush 100, 2) := by decide +kernel
theorem d_X6_endBaking_33 : decode (bc mX6_endBaking) 33 = .ok (.if_icmp .ne 10, 3) := by decide +kernel
theorem d_X6_endBaking_36 : decode (bc mX6_endBaking) 36 = .ok (.aload_n 1, 1) := by decide +kernel
theorem d_X6_endBaking_37 : decode (bc mX6_endBaking) 37 = .ok (.iconst 1, 1) := by decide +kernel
theorem d_X6_endBaking_38 : decode (bc mX6_endBaking) 38 = .ok (.iaload, 1) := by decide +kernel
theorem d_X6_endBaking_39 : decode (bc mX6_endBaking) 39 = .ok (.ifCond .ne 4, 3) := by decide +kernel
theorem d_X6_endBaking_42 : decode (bc mX6_endBaking) 42 = .ok (.return_, 1) := by decide +kernel
theorem d_X6_endBaking_43 : decode (bc mX6_endBaking) 43 = .ok (.aload_n 1, 1) := by decide +kernel
theorem d_X6_endBaking_44 : decode (bc mX6_endBaking) 44 = .ok (.aload_n 1, 1) := by decide +kernel
theorem d_X6_endBaking_45 : decode (bc mX6_endBaking) 45 = .ok (.sipush 814, 3) := by decide +kernel
theorem d_X6_endBaking_48 : decode (bc mX6_endBaking) 48 = .ok (.iaload, 1) := by decide +kernel
theorem d_X6_endBaking_49 : decode (bc mX6_endBaking) 49 = .ok (.invokestatic 151, 3) := by decide +kernel
theorem d_X6_endBaking_52 : decode (bc mX6_endBaking) 52 = .ok (.aload_n 1, 1) := by decide +kernel
theorem d_X6_endBaking_53 : decode (bc mX6_endBaking) 53 = .ok (.sipush 814, 3) := by decide +kernel
theorem d_X6_endBaking_56 : decode (bc mX6_endBaking) 56 = .ok (.dup2, 1) := by decide +kernel
theorem d_X6_endBaking_57 : decode (bc mX6_endBaking) 57 = .ok (.iaload, 1) := by decide +kernel
theorem d_X6_endBaking_58 : decode (bc mX6_endBaking) 58 = .ok (.iconst 1, 1) := by decide +kernel
theorem d_X6_endBaking_59 : decode (bc mX6_endBaking) 59 = .ok (.iadd, 1) := by decide +kernel
theorem d_X6_endBaking_60 : decode (bc mX6_endBaking) 60 = .ok (.iastore, 1) := by decide +kernel
theorem d_X6_endBaking_61 : decode (bc mX6_endBaking) 61 = .ok (.aload_n 1, 1) := by decide +kernel
theorem d_X6_endBaking_62 : decode (bc mX6_endBaking) 62 = .ok (.sipush 816, 3) := by decide +kernel
theorem d_X6_endBaking_65 : decode (bc mX6_endBaking) 65 = .ok (.aload_n 1, 1) := by decide +kernel
theorem d_X6_endBaking_66 : decode (bc mX6_endBaking) 66 = .ok (.sipush 815, 3) := by decide +kernel
theorem d_X6_endBaking_69 : decode (bc mX6_endBaking) 69 = .ok (.iaload, 1) := by decide +kernel
theorem d_X6_endBaking_70 : decode (bc mX6_endBaking) 70 = .ok (.iastore, 1) := by decide +kernel
theorem d_X6_endBaking_71 : decode (bc mX6_endBaking) 71 = .ok (.aload_n 1, 1) := by decide +kernel
theorem d_X6_endBaking_72 : decode (bc mX6_endBaking) 72 = .ok (.sipush 815, 3) := by decide +kernel
theorem d_X6_endBaking_75 : decode (bc mX6_endBaking) 75 = .ok (.dup2, 1) := by decide +kernel
theorem d_X6_endBaking_76 : decode (bc mX6_endBaking) 76 = .ok (.iaload, 1) := by decide +kernel
theorem d_X6_endBaking_77 : decode (bc mX6_endBaking) 77 = .ok (.iconst 1, 1) := by decide +kernel
theorem d_X6_endBaking_78 : decode (bc mX6_endBaking) 78 = .ok (.iadd, 1) := by decide +kernel
theorem d_X6_endBaking_79 : decode (bc mX6_endBaking) 79 = .ok (.iastore, 1) := by decide +kernel
theorem d_X6_endBaking_80 : decode (bc mX6_endBaking) 80 = .ok (.aload_n 1, 1) := by decide +kernel
theorem d_X6_endBaking_81 : decode (bc mX6_endBaking) 81 = .ok (.sipush 817, 3) := by decide +kernel
theorem d_X6_endBaking_84 : decode (bc mX6_endBaking) 84 = .ok (.iload_n 2, 1) := by decide +kernel
theorem d_X6_endBaking_85 : decode (bc mX6_endBaking) 85 = .ok (.iastore, 1) := by decide +kernel
theorem d_X6_endBaking_86 : decode (bc mX6_endBaking) 86 = .ok (.aload_n 1, 1) := by decide +kernel
theorem d_X6_endBaking_87 : decode (bc mX6_endBaking) 87 = .ok (.sipush 818, 3) := by decide +kernel
theorem d_X6_endBaking_90 : decode (bc mX6_endBaking) 90 = .ok (.iload_n 3, 1) := by decide +kernel
theorem d_X6_endBaking_91 : decode (bc mX6_endBaking) 91 = .ok (.iastore, 1) := by decide +kernel
theorem d_X6_endBaking_92 : decode (bc mX6_endBaking) 92 = .ok (.aload_n 1, 1) := by decide +kernel
theorem d_X6_endBaking_93 : decode (bc mX6_endBaking) 93 = .ok (.sipush 819, 3) := by decide +kernel
theorem d_X6_endBaking_96 : decode (bc mX6_endBaking) 96 = .ok (.aload_n 0, 1) := by decide +kernel
theorem d_X6_endBaking_97 : decode (bc mX6_endBaking) 97 = .ok (.getfield 77, 3) := by decide +kernel
theorem d_X6_endBaking_100 : decode (bc mX6_endBaking) 100 = .ok (.iload_n 2, 1) := by decide +kernel
theorem d_X6_endBaking_101 : decode (bc mX6_endBaking) 101 = .ok (.iaload, 1) := by decide +kernel
theorem d_X6_endBaking_102 : decode (bc mX6_endBaking) 102 = .ok (.iastore, 1) := by decide +kernel
theorem d_X6_endBaking_103 : decode (bc mX6_endBaking) 103 = .ok (.aload_n 1, 1) := by decide +kernel
theorem d_X6_endBaking_104 : decode (bc mX6_endBaking) 104 = .ok (.sipush 820, 3) := by decide +kernel
theorem d_X6_endBaking_107 : decode (bc mX6_endBaking) 107 = .ok (.aload_n 0, 1) := by decide +kernel
theorem d_X6_endBaking_108 : decode (bc mX6_endBaking) 108 = .ok (.getfield 80, 3) := by decide +kernel
theorem d_X6_endBaking_111 : decode (bc mX6_endBaking) 111 = .ok (.iload_n 2, 1) := by decide +kernel
theorem d_X6_endBaking_112 : decode (bc mX6_endBaking) 112 = .ok (.iaload, 1) := by decide +kernel
theorem d_X6_endBaking_113 : decode (bc mX6_endBaking) 113 = .ok (.iastore, 1) := by decide +kernel
theorem d_X6_endBaking_114 : decode (bc mX6_endBaking) 114 = .ok (.aload_n 1, 1) := by decide +kernel
theorem d_X6_endBaking_115 : decode (bc mX6_endBaking) 115 = .ok (.sipush 821, 3) := by decide +kernel
theorem d_X6_endBaking_118 : decode (bc mX6_endBaking) 118 = .ok (.iconst 1, 1) := by decide +kernel
theorem d_X6_endBaking_119 : decode (bc mX6_endBaking) 119 = .ok (.iastore, 1) := by decide +kernel
theorem d_X6_endBaking_120 : decode (bc mX6_endBaking) 120 = .ok (.iconst 0, 1) := by decide +kernel
theorem d_X6_endBaking_121 : decode (bc mX6_endBaking) 121 = .ok (.istore 4, 2) := by decide +kernel
theorem d_X6_endBaking_123 : decode (bc mX6_endBaking) 123 = .ok (.iload 4, 2) := by decide +kernel
theorem d_X6_endBaking_125 : decode (bc mX6_endBaking) 125 = .ok (.bipush 17, 2) := by decide +kernel
theorem d_X6_endBaking_127 : decode (bc mX6_endBaking) 127 = .ok (.if_icmp .ge 79, 3) := by decide +kernel
theorem d_X6_endBaking_130 : decode (bc mX6_endBaking) 130 = .ok (.aload_n 1, 1) := by decide +kernel
theorem d_X6_endBaking_131 : decode (bc mX6_endBaking) 131 = .ok (.sipush 822, 3) := by decide +kernel
theorem d_X6_endBaking_134 : decode (bc mX6_endBaking) 134 = .ok (.iload 4, 2) := by decide +kernel
theorem d_X6_endBaking_136 : decode (bc mX6_endBaking) 136 = .ok (.iadd, 1) := by decide +kernel
theorem d_X6_endBaking_137 : decode (bc mX6_endBaking) 137 = .ok (.iload 4, 2) := by decide +kernel
theorem d_X6_endBaking_139 : decode (bc mX6_endBaking) 139 = .ok (.aload_n 0, 1) := by decide +kernel
theorem d_X6_endBaking_140 : decode (bc mX6_endBaking) 140 = .ok (.getfield 77, 3) := by decide +kernel
theorem d_X6_endBaking_143 : decode (bc mX6_endBaking) 143 = .ok (.iload_n 2, 1) := by decide +kernel
theorem d_X6_endBaking_144 : decode (bc mX6_endBaking) 144 = .ok (.iaload, 1) := by decide +kernel
theorem d_X6_endBaking_145 : decode (bc mX6_endBaking) 145 = .ok (.if_icmp .ge 18, 3) := by decide +kernel
theorem d_X6_endBaking_148 : decode (bc mX6_endBaking) 148 = .ok (.aload_n 0, 1) := by decide +kernel
theorem d_X6_endBaking_149 : decode (bc mX6_endBaking) 149 = .ok (.getfield 71, 3) := by decide +kernel
theorem d_X6_endBaking_152 : decode (bc mX6_endBaking) 152 = .ok (.bipush 17, 2) := by decide +kernel
theorem d_X6_endBaking_154 : decode (bc mX6_endBaking) 154 = .ok (.iload_n 2, 1) := by decide +kernel
theorem d_X6_endBaking_155 : decode (bc mX6_endBaking) 155 = .ok (.imul, 1) := by decide +kernel
theorem d_X6_endBaking_156 : decode (bc mX6_endBaking) 156 = .ok (.iload 4, 2) := by decide +kernel
theorem d_X6_endBaking_158 : decode (bc mX6_endBaking) 158 = .ok (.iadd, 1) := by decide +kernel
theorem d_X6_endBaking_159 : decode (bc mX6_endBaking) 159 = .ok (.iaload, 1) := by decide +kernel
theorem d_X6_endBaking_160 : decode (bc mX6_endBaking) 160 = .ok (.goto 4, 3) := by decide +kernel
theorem d_X6_endBaking_163 : decode (bc mX6_endBaking) 163 = .ok (.iconst 0, 1) := by decide +kernel
theorem d_X6_endBaking_164 : decode (bc mX6_endBaking) 164 = .ok (.iastore, 1) := by decide +kernel
theorem d_X6_endBaking_165 : decode (bc mX6_endBaking) 165 = .ok (.aload_n 1, 1) := by decide +kernel
theorem d_X6_endBaking_166 : decode (bc mX6_endBaking) 166 = .ok (.sipush 839, 3) := by decide +kernel
theorem d_X6_endBaking_169 : decode (bc mX6_endBaking) 169 = .ok (.iload 4, 2) := by decide +kernel
theorem d_X6_endBaking_171 : decode (bc mX6_endBaking) 171 = .ok (.iadd, 1) := by decide +kernel
theorem d_X6_endBaking_172 : decode (bc mX6_endBaking) 172 = .ok (.iload 4, 2) := by decide +kernel
theorem d_X6_endBaking_174 : decode (bc mX6_endBaking) 174 = .ok (.aload_n 0, 1) := by decide +kernel
theorem d_X6_endBaking_175 : decode (bc mX6_endBaking) 175 = .ok (.getfield 77, 3) := by decide +kernel
theorem d_X6_endBaking_178 : decode (bc mX6_endBaking) 178 = .ok (.iload_n 2, 1) := by decide +kernel
theorem d_X6_endBaking_179 : decode (bc mX6_endBaking) 179 = .ok (.iaload, 1) := by decide +kernel
theorem d_X6_endBaking_180 : decode (bc mX6_endBaking) 180 = .ok (.if_icmp .ge 18, 3) := by decide +kernel
theorem d_X6_endBaking_183 : decode (bc mX6_endBaking) 183 = .ok (.aload_n 0, 1) := by decide +kernel
theorem d_X6_endBaking_184 : decode (bc mX6_endBaking) 184 = .ok (.getfield 74, 3) := by decide +kernel
theorem d_X6_endBaking_187 : decode (bc mX6_endBaking) 187 = .ok (.bipush 17, 2) := by decide +kernel
theorem d_X6_endBaking_189 : decode (bc mX6_endBaking) 189 = .ok (.iload_n 2, 1) := by decide +kernel
theorem d_X6_endBaking_190 : decode (bc mX6_endBaking) 190 = .ok (.imul, 1) := by decide +kernel
theorem d_X6_endBaking_191 : decode (bc mX6_endBaking) 191 = .ok (.iload 4, 2) := by decide +kernel
theorem d_X6_endBaking_193 : decode (bc mX6_endBaking) 193 = .ok (.iadd, 1) := by decide +kernel
theorem d_X6_endBaking_194 : decode (bc mX6_endBaking) 194 = .ok (.iaload, 1) := by decide +kernel
theorem d_X6_endBaking_195 : decode (bc mX6_endBaking) 195 = .ok (.goto 4, 3) := by decide +kernel
theorem d_X6_endBaking_198 : decode (bc mX6_endBaking) 198 = .ok (.iconst 0, 1) := by decide +kernel
theorem d_X6_endBaking_199 : decode (bc mX6_endBaking) 199 = .ok (.iastore, 1) := by decide +kernel
theorem d_X6_endBaking_200 : decode (bc mX6_endBaking) 200 = .ok (.iinc 4 1, 3) := by decide +kernel
theorem d_X6_endBaking_203 : decode (bc mX6_endBaking) 203 = .ok (.goto (-80), 3) := by decide +kernel
theorem d_X6_endBaking_206 : decode (bc mX6_endBaking) 206 = .ok (.aload_n 1, 1) := by decide +kernel
theorem d_X6_endBaking_207 : decode (bc mX6_endBaking) 207 = .ok (.invokestatic 179, 3) := by decide +kernel
theorem d_X6_endBaking_210 : decode (bc mX6_endBaking) 210 = .ok (.return_, 1) := by decide +kernel
theorem d_X6_take_0 : decode (bc mX6_take) 0 = .ok (.aload_n 0, 1) := by decide +kernel
theorem d_X6_take_1 : decode (bc mX6_take) 1 = .ok (.getfield 71, 3) := by decide +kernel
theorem d_X6_take_4 : decode (bc mX6_take) 4 = .ok (.bipush 17, 2) := by decide +kernel
theorem d_X6_take_6 : decode (bc mX6_take) 6 = .ok (.iload_n 2, 1) := by decide +kernel
theorem d_X6_take_7 : decode (bc mX6_take) 7 = .ok (.imul, 1) := by decide +kernel
theorem d_X6_take_8 : decode (bc mX6_take) 8 = .ok (.aload_n 0, 1) := by decide +kernel
theorem d_X6_take_9 : decode (bc mX6_take) 9 = .ok (.getfield 77, 3) := by decide +kernel
theorem d_X6_take_12 : decode (bc mX6_take) 12 = .ok (.iload_n 2, 1) := by decide +kernel
theorem d_X6_take_13 : decode (bc mX6_take) 13 = .ok (.iaload, 1) := by decide +kernel
theorem d_X6_take_14 : decode (bc mX6_take) 14 = .ok (.iadd, 1) := by decide +kernel
theorem d_X6_take_15 : decode (bc mX6_take) 15 = .ok (.iload_n 3, 1) := by decide +kernel
theorem d_X6_take_16 : decode (bc mX6_take) 16 = .ok (.iastore, 1) := by decide +kernel
theorem d_X6_take_17 : decode (bc mX6_take) 17 = .ok (.aload_n 0, 1) := by decide +kernel
theorem d_X6_take_18 : decode (bc mX6_take) 18 = .ok (.getfield 74, 3) := by decide +kernel
theorem d_X6_take_21 : decode (bc mX6_take) 21 = .ok (.bipush 17, 2) := by decide +kernel
theorem d_X6_take_23 : decode (bc mX6_take) 23 = .ok (.iload_n 2, 1) := by decide +kernel
theorem d_X6_take_24 : decode (bc mX6_take) 24 = .ok (.imul, 1) := by decide +kernel
theorem d_X6_take_25 : decode (bc mX6_take) 25 = .ok (.aload_n 0, 1) := by decide +kernel
theorem d_X6_take_26 : decode (bc mX6_take) 26 = .ok (.getfield 77, 3) := by decide +kernel
theorem d_X6_take_29 : decode (bc mX6_take) 29 = .ok (.iload_n 2, 1) := by decide +kernel
theorem d_X6_take_30 : decode (bc mX6_take) 30 = .ok (.iaload, 1) := by decide +kernel
theorem d_X6_take_31 : decode (bc mX6_take) 31 = .ok (.iadd, 1) := by decide +kernel
theorem d_X6_take_32 : decode (bc mX6_take) 32 = .ok (.iload 4, 2) := by decide +kernel
theorem d_X6_take_34 : decode (bc mX6_take) 34 = .ok (.iastore, 1) := by decide +kernel
theorem d_X6_take_35 : decode (bc mX6_take) 35 = .ok (.aload_n 0, 1) := by decide +kernel
theorem d_X6_take_36 : decode (bc mX6_take) 36 = .ok (.getfield 77, 3) := by decide +kernel
theorem d_X6_take_39 : decode (bc mX6_take) 39 = .ok (.iload_n 2, 1) := by decide +kernel
theorem d_X6_take_40 : decode (bc mX6_take) 40 = .ok (.dup2, 1) := by decide +kernel
theorem d_X6_take_41 : decode (bc mX6_take) 41 = .ok (.iaload, 1) := by decide +kernel
theorem d_X6_take_42 : decode (bc mX6_take) 42 = .ok (.iconst 1, 1) := by decide +kernel
theorem d_X6_take_43 : decode (bc mX6_take) 43 = .ok (.iadd, 1) := by decide +kernel
theorem d_X6_take_44 : decode (bc mX6_take) 44 = .ok (.iastore, 1) := by decide +kernel
theorem d_X6_take_45 : decode (bc mX6_take) 45 = .ok (.iload 4, 2) := by decide +kernel
theorem d_X6_take_47 : decode (bc mX6_take) 47 = .ok (.bipush 100, 2) := by decide +kernel
theorem d_X6_take_49 : decode (bc mX6_take) 49 = .ok (.if_icmp .ne 14, 3) := by decide +kernel
theorem d_X6_take_52 : decode (bc mX6_take) 52 = .ok (.aload_n 0, 1) := by decide +kernel
theorem d_X6_take_53 : decode (bc mX6_take) 53 = .ok (.aload_n 1, 1) := by decide +kernel
theorem d_X6_take_54 : decode (bc mX6_take) 54 = .ok (.iload_n 2, 1) := by decide +kernel
theorem d_X6_take_55 : decode (bc mX6_take) 55 = .ok (.bipush 100, 2) := by decide +kernel
theorem d_X6_take_57 : decode (bc mX6_take) 57 = .ok (.invokevirtual 183, 3) := by decide +kernel
theorem d_X6_take_60 : decode (bc mX6_take) 60 = .ok (.goto 10, 3) := by decide +kernel
theorem d_X6_take_63 : decode (bc mX6_take) 63 = .ok (.aload_n 0, 1) := by decide +kernel
theorem d_X6_take_64 : decode (bc mX6_take) 64 = .ok (.iload_n 2, 1) := by decide +kernel
theorem d_X6_take_65 : decode (bc mX6_take) 65 = .ok (.iload 4, 2) := by decide +kernel
theorem d_X6_take_67 : decode (bc mX6_take) 67 = .ok (.invokevirtual 186, 3) := by decide +kernel
theorem d_X6_take_70 : decode (bc mX6_take) 70 = .ok (.return_, 1) := by decide +kernel
theorem d_X6_reckon_0 : decode (bc mX6_reckon) 0 = .ok (.iload_n 0, 1) := by decide +kernel
theorem d_X6_reckon_1 : decode (bc mX6_reckon) 1 = .ok (.iconst 3, 1) := by decide +kernel
theorem d_X6_reckon_2 : decode (bc mX6_reckon) 2 = .ok (.if_icmp .ne 9, 3) := by decide +kernel
theorem d_X6_reckon_5 : decode (bc mX6_reckon) 5 = .ok (.iload_n 1, 1) := by decide +kernel
theorem d_X6_reckon_6 : decode (bc mX6_reckon) 6 = .ok (.iload_n 2, 1) := by decide +kernel
theorem d_X6_reckon_7 : decode (bc mX6_reckon) 7 = .ok (.iadd, 1) := by decide +kernel
theorem d_X6_reckon_8 : decode (bc mX6_reckon) 8 = .ok (.goto 20, 3) := by decide +kernel
theorem d_X6_reckon_11 : decode (bc mX6_reckon) 11 = .ok (.iload_n 0, 1) := by decide +kernel
theorem d_X6_reckon_12 : decode (bc mX6_reckon) 12 = .ok (.iconst 4, 1) := by decide +kernel
theorem d_X6_reckon_13 : decode (bc mX6_reckon) 13 = .ok (.if_icmp .ne 12, 3) := by decide +kernel
theorem d_X6_reckon_16 : decode (bc mX6_reckon) 16 = .ok (.iload_n 1, 1) := by decide +kernel
theorem d_X6_reckon_17 : decode (bc mX6_reckon) 17 = .ok (.iload_n 2, 1) := by decide +kernel
theorem d_X6_reckon_18 : decode (bc mX6_reckon) 18 = .ok (.isub, 1) := by decide +kernel
theorem d_X6_reckon_19 : decode (bc mX6_reckon) 19 = .ok (.bipush 100, 2) := by decide +kernel
theorem d_X6_reckon_21 : decode (bc mX6_reckon) 21 = .ok (.iadd, 1) := by decide +kernel
theorem d_X6_reckon_22 : decode (bc mX6_reckon) 22 = .ok (.goto 6, 3) := by decide +kernel
theorem d_X6_reckon_25 : decode (bc mX6_reckon) 25 = .ok (.iload_n 1, 1) := by decide +kernel
theorem d_X6_reckon_26 : decode (bc mX6_reckon) 26 = .ok (.iload_n 2, 1) := by decide +kernel
theorem d_X6_reckon_27 : decode (bc mX6_reckon) 27 = .ok (.imul, 1) := by decide +kernel
theorem d_X6_reckon_28 : decode (bc mX6_reckon) 28 = .ok (.istore_n 3, 1) := by decide +kernel
theorem d_X6_reckon_29 : decode (bc mX6_reckon) 29 = .ok (.iload_n 3, 1) := by decide +kernel
theorem d_X6_reckon_30 : decode (bc mX6_reckon) 30 = .ok (.bipush 100, 2) := by decide +kernel
theorem d_X6_reckon_32 : decode (bc mX6_reckon) 32 = .ok (.irem, 1) := by decide +kernel
theorem d_X6_reckon_33 : decode (bc mX6_reckon) 33 = .ok (.ireturn, 1) := by decide +kernel
theorem d_X6_bake_0 : decode (bc mX6_bake) 0 = .ok (.aload_n 0, 1) := by decide +kernel
theorem d_X6_bake_1 : decode (bc mX6_bake) 1 = .ok (.getfield 163, 3) := by decide +kernel
theorem d_X6_bake_4 : decode (bc mX6_bake) 4 = .ok (.bipush (-6), 2) := by decide +kernel
theorem d_X6_bake_6 : decode (bc mX6_bake) 6 = .ok (.if_icmp .ne 265, 3) := by decide +kernel
theorem d_X6_bake_9 : decode (bc mX6_bake) 9 = .ok (.aload_n 0, 1) := by decide +kernel
theorem d_X6_bake_10 : decode (bc mX6_bake) 10 = .ok (.getfield 169, 3) := by decide +kernel
theorem d_X6_bake_13 : decode (bc mX6_bake) 13 = .ok (.bipush (-6), 2) := by decide +kernel
theorem d_X6_bake_15 : decode (bc mX6_bake) 15 = .ok (.if_icmp .ne 256, 3) := by decide +kernel
theorem d_X6_bake_18 : decode (bc mX6_bake) 18 = .ok (.aload_n 0, 1) := by decide +kernel
theorem d_X6_bake_19 : decode (bc mX6_bake) 19 = .ok (.getfield 62, 3) := by decide +kernel
theorem d_X6_bake_22 : decode (bc mX6_bake) 22 = .ok (.iload_n 2, 1) := by decide +kernel
theorem d_X6_bake_23 : decode (bc mX6_bake) 23 = .ok (.iaload, 1) := by decide +kernel
theorem d_X6_bake_24 : decode (bc mX6_bake) 24 = .ok (.aload_n 1, 1) := by decide +kernel
theorem d_X6_bake_25 : decode (bc mX6_bake) 25 = .ok (.bipush 26, 2) := by decide +kernel
theorem d_X6_bake_27 : decode (bc mX6_bake) 27 = .ok (.iload_n 2, 1) := by decide +kernel
theorem d_X6_bake_28 : decode (bc mX6_bake) 28 = .ok (.iadd, 1) := by decide +kernel
theorem d_X6_bake_29 : decode (bc mX6_bake) 29 = .ok (.iaload, 1) := by decide +kernel
theorem d_X6_bake_30 : decode (bc mX6_bake) 30 = .ok (.if_icmp .ne 15, 3) := by decide +kernel
theorem d_X6_bake_33 : decode (bc mX6_bake) 33 = .ok (.aload_n 0, 1) := by decide +kernel
theorem d_X6_bake_34 : decode (bc mX6_bake) 34 = .ok (.aload_n 1, 1) := by decide +kernel
theorem d_X6_bake_35 : decode (bc mX6_bake) 35 = .ok (.iload_n 2, 1) := by decide +kernel
theorem d_X6_bake_36 : decode (bc mX6_bake) 36 = .ok (.aload_n 0, 1) := by decide +kernel
theorem d_X6_bake_37 : decode (bc mX6_bake) 37 = .ok (.iload_n 2, 1) := by decide +kernel
theorem d_X6_bake_38 : decode (bc mX6_bake) 38 = .ok (.invokevirtual 189, 3) := by decide +kernel
theorem d_X6_bake_41 : decode (bc mX6_bake) 41 = .ok (.invokevirtual 183, 3) := by decide +kernel
theorem d_X6_bake_44 : decode (bc mX6_bake) 44 = .ok (.return_, 1) := by decide +kernel
theorem d_X6_bake_45 : decode (bc mX6_bake) 45 = .ok (.aload_n 1, 1) := by decide +kernel
theorem d_X6_bake_46 : decode (bc mX6_bake) 46 = .ok (.bipush 32, 2) := by decide +kernel
theorem d_X6_bake_48 : decode (bc mX6_bake) 48 = .ok (.bipush 64, 2) := by decide +kernel
theorem d_X6_bake_50 : decode (bc mX6_bake) 50 = .ok (.iload_n 2, 1) := by decide +kernel
theorem d_X6_bake_51 : decode (bc mX6_bake) 51 = .ok (.imul, 1) := by decide +kernel
theorem d_X6_bake_52 : decode (bc mX6_bake) 52 = .ok (.iadd, 1) := by decide +kernel
theorem d_X6_bake_53 : decode (bc mX6_bake) 53 = .ok (.aload_n 0, 1) := by decide +kernel
theorem d_X6_bake_54 : decode (bc mX6_bake) 54 = .ok (.getfield 62, 3) := by decide +kernel
theorem d_X6_bake_57 : decode (bc mX6_bake) 57 = .ok (.iload_n 2, 1) := by decide +kernel
theorem d_X6_bake_58 : decode (bc mX6_bake) 58 = .ok (.iaload, 1) := by decide +kernel
theorem d_X6_bake_59 : decode (bc mX6_bake) 59 = .ok (.iadd, 1) := by decide +kernel
theorem d_X6_bake_60 : decode (bc mX6_bake) 60 = .ok (.iaload, 1) := by decide +kernel
theorem d_X6_bake_61 : decode (bc mX6_bake) 61 = .ok (.istore_n 3, 1) := by decide +kernel
theorem d_X6_bake_62 : decode (bc mX6_bake) 62 = .ok (.aload_n 1, 1) := by decide +kernel
theorem d_X6_bake_63 : decode (bc mX6_bake) 63 = .ok (.sipush 416, 3) := by decide +kernel
theorem d_X6_bake_66 : decode (bc mX6_bake) 66 = .ok (.bipush 64, 2) := by decide +kernel
theorem d_X6_bake_68 : decode (bc mX6_bake) 68 = .ok (.iload_n 2, 1) := by decide +kernel
theorem d_X6_bake_69 : decode (bc mX6_bake) 69 = .ok (.imul, 1) := by decide +kernel
theorem d_X6_bake_70 : decode (bc mX6_bake) 70 = .ok (.iadd, 1) := by decide +kernel
theorem d_X6_bake_71 : decode (bc mX6_bake) 71 = .ok (.aload_n 0, 1) := by decide +kernel
theorem d_X6_bake_72 : decode (bc mX6_bake) 72 = .ok (.getfield 62, 3) := by decide +kernel
theorem d_X6_bake_75 : decode (bc mX6_bake) 75 = .ok (.iload_n 2, 1) := by decide +kernel
theorem d_X6_bake_76 : decode (bc mX6_bake) 76 = .ok (.iaload, 1) := by decide +kernel
theorem d_X6_bake_77 : decode (bc mX6_bake) 77 = .ok (.iadd, 1) := by decide +kernel
theorem d_X6_bake_78 : decode (bc mX6_bake) 78 = .ok (.iaload, 1) := by decide +kernel
theorem d_X6_bake_79 : decode (bc mX6_bake) 79 = .ok (.istore 4, 2) := by decide +kernel
theorem d_X6_bake_81 : decode (bc mX6_bake) 81 = .ok (.aload_n 0, 1) := by decide +kernel
theorem d_X6_bake_82 : decode (bc mX6_bake) 82 = .ok (.getfield 62, 3) := by decide +kernel
theorem d_X6_bake_85 : decode (bc mX6_bake) 85 = .ok (.iload_n 2, 1) := by decide +kernel
theorem d_X6_bake_86 : decode (bc mX6_bake) 86 = .ok (.dup2, 1) := by decide +kernel
theorem d_X6_bake_87 : decode (bc mX6_bake) 87 = .ok (.iaload, 1) := by decide +kernel
theorem d_X6_bake_88 : decode (bc mX6_bake) 88 = .ok (.iconst 1, 1) := by decide +kernel
theorem d_X6_bake_89 : decode (bc mX6_bake) 89 = .ok (.iadd, 1) := by decide +kernel
theorem d_X6_bake_90 : decode (bc mX6_bake) 90 = .ok (.iastore, 1) := by decide +kernel
theorem d_X6_bake_91 : decode (bc mX6_bake) 91 = .ok (.aload_n 0, 1) := by decide +kernel
theorem d_X6_bake_92 : decode (bc mX6_bake) 92 = .ok (.getfield 80, 3) := by decide +kernel
theorem d_X6_bake_95 : decode (bc mX6_bake) 95 = .ok (.iload_n 2, 1) := by decide +kernel
theorem d_X6_bake_96 : decode (bc mX6_bake) 96 = .ok (.dup2, 1) := by decide +kernel
theorem d_X6_bake_97 : decode (bc mX6_bake) 97 = .ok (.iaload, 1) := by decide +kernel
theorem d_X6_bake_98 : decode (bc mX6_bake) 98 = .ok (.iload_n 3, 1) := by decide +kernel
theorem d_X6_bake_99 : decode (bc mX6_bake) 99 = .ok (.bipush 7, 2) := by decide +kernel
theorem d_X6_bake_101 : decode (bc mX6_bake) 101 = .ok (.if_icmp .ne 7, 3) := by decide +kernel
theorem d_X6_bake_104 : decode (bc mX6_bake) 104 = .ok (.iconst 0, 1) := by decide +kernel
theorem d_X6_bake_105 : decode (bc mX6_bake) 105 = .ok (.goto 4, 3) := by decide +kernel
theorem d_X6_bake_108 : decode (bc mX6_bake) 108 = .ok (.iconst 1, 1) := by decide +kernel
theorem d_X6_bake_109 : decode (bc mX6_bake) 109 = .ok (.iadd, 1) := by decide +kernel
theorem d_X6_bake_110 : decode (bc mX6_bake) 110 = .ok (.iastore, 1) := by decide +kernel
theorem d_X6_bake_111 : decode (bc mX6_bake) 111 = .ok (.iload_n 3, 1) := by decide +kernel
theorem d_X6_bake_112 : decode (bc mX6_bake) 112 = .ok (.bipush 7, 2) := by decide +kernel
theorem d_X6_bake_114 : decode (bc mX6_bake) 114 = .ok (.if_icmp .eq 17, 3) := by decide +kernel
theorem d_X6_bake_117 : decode (bc mX6_bake) 117 = .ok (.iload_n 3, 1) := by decide +kernel
theorem d_X6_bake_118 : decode (bc mX6_bake) 118 = .ok (.bipush 6, 2) := by decide +kernel
theorem d_X6_bake_120 : decode (bc mX6_bake) 120 = .ok (.if_icmp .ne 22, 3) := by decide +kernel
theorem d_X6_bake_123 : decode (bc mX6_bake) 123 = .ok (.aload_n 0, 1) := by decide +kernel
theorem d_X6_bake_124 : decode (bc mX6_bake) 124 = .ok (.iload_n 2, 1) := by decide +kernel
theorem d_X6_bake_125 : decode (bc mX6_bake) 125 = .ok (.invokevirtual 189, 3) := by decide +kernel
theorem d_X6_bake_128 : decode (bc mX6_bake) 128 = .ok (.ifCond .ne 14, 3) := by decide +kernel
theorem d_X6_bake_131 : decode (bc mX6_bake) 131 = .ok (.aload_n 0, 1) := by decide +kernel
theorem d_X6_bake_132 : decode (bc mX6_bake) 132 = .ok (.getfield 62, 3) := by decide +kernel
theorem d_X6_bake_135 : decode (bc mX6_bake) 135 = .ok (.iload_n 2, 1) := by decide +kernel
theorem d_X6_bake_136 : decode (bc mX6_bake) 136 = .ok (.iload 4, 2) := by decide +kernel
theorem d_X6_bake_138 : decode (bc mX6_bake) 138 = .ok (.iastore, 1) := by decide +kernel
theorem d_X6_bake_139 : decode (bc mX6_bake) 139 = .ok (.goto 129, 3) := by decide +kernel
theorem d_X6_bake_142 : decode (bc mX6_bake) 142 = .ok (.iload_n 3, 1) := by decide +kernel
theorem d_X6_bake_143 : decode (bc mX6_bake) 143 = .ok (.iconst 2, 1) := by decide +kernel
theorem d_X6_bake_144 : decode (bc mX6_bake) 144 = .ok (.if_icmp .ne 13, 3) := by decide +kernel
theorem d_X6_bake_147 : decode (bc mX6_bake) 147 = .ok (.aload_n 0, 1) := by decide +kernel
theorem d_X6_bake_148 : decode (bc mX6_bake) 148 = .ok (.iload_n 2, 1) := by decide +kernel
theorem d_X6_bake_149 : decode (bc mX6_bake) 149 = .ok (.iload 4, 2) := by decide +kernel
theorem d_X6_bake_151 : decode (bc mX6_bake) 151 = .ok (.invokevirtual 186, 3) := by decide +kernel
theorem d_X6_bake_154 : decode (bc mX6_bake) 154 = .ok (.goto 114, 3) := by decide +kernel
theorem d_X6_bake_157 : decode (bc mX6_bake) 157 = .ok (.iload_n 3, 1) := by decide +kernel
theorem d_X6_bake_158 : decode (bc mX6_bake) 158 = .ok (.ifCond .eq 8, 3) := by decide +kernel
theorem d_X6_bake_161 : decode (bc mX6_bake) 161 = .ok (.iload_n 3, 1) := by decide +kernel
theorem d_X6_bake_162 : decode (bc mX6_bake) 162 = .ok (.iconst 1, 1) := by decide +kernel
theorem d_X6_bake_163 : decode (bc mX6_bake) 163 = .ok (.if_icmp .ne 76, 3) := by decide +kernel
theorem d_X6_bake_166 : decode (bc mX6_bake) 166 = .ok (.iload_n 3, 1) := by decide +kernel
theorem d_X6_bake_167 : decode (bc mX6_bake) 167 = .ok (.iconst 1, 1) := by decide +kernel
theorem d_X6_bake_168 : decode (bc mX6_bake) 168 = .ok (.if_icmp .ne 11, 3) := by decide +kernel
theorem d_X6_bake_171 : decode (bc mX6_bake) 171 = .ok (.bipush 20, 2) := by decide +kernel
theorem d_X6_bake_173 : decode (bc mX6_bake) 173 = .ok (.iload 4, 2) := by decide +kernel
theorem d_X6_bake_175 : decode (bc mX6_bake) 175 = .ok (.iadd, 1) := by decide +kernel
theorem d_X6_bake_176 : decode (bc mX6_bake) 176 = .ok (.goto 5, 3) := by decide +kernel
theorem d_X6_bake_179 : decode (bc mX6_bake) 179 = .ok (.iload 4, 2) := by decide +kernel
theorem d_X6_bake_181 : decode (bc mX6_bake) 181 = .ok (.istore 5, 2) := by decide +kernel
theorem d_X6_bake_183 : decode (bc mX6_bake) 183 = .ok (.aload_n 0, 1) := by decide +kernel
theorem d_X6_bake_184 : decode (bc mX6_bake) 184 = .ok (.iload_n 2, 1) := by decide +kernel
theorem d_X6_bake_185 : decode (bc mX6_bake) 185 = .ok (.iload 5, 2) := by decide +kernel
theorem d_X6_bake_187 : decode (bc mX6_bake) 187 = .ok (.invokevirtual 192, 3) := by decide +kernel
theorem d_X6_bake_190 : decode (bc mX6_bake) 190 = .ok (.istore 6, 2) := by decide +kernel
theorem d_X6_bake_192 : decode (bc mX6_bake) 192 = .ok (.iload 6, 2) := by decide +kernel
theorem d_X6_bake_194 : decode (bc mX6_bake) 194 = .ok (.bipush (-6), 2) := by decide +kernel
theorem d_X6_bake_196 : decode (bc mX6_bake) 196 = .ok (.if_icmp .eq 13, 3) := by decide +kernel
theorem d_X6_bake_199 : decode (bc mX6_bake) 199 = .ok (.aload_n 0, 1) := by decide +kernel
theorem d_X6_bake_200 : decode (bc mX6_bake) 200 = .ok (.iload_n 2, 1) := by decide +kernel
theorem d_X6_bake_201 : decode (bc mX6_bake) 201 = .ok (.iload 6, 2) := by decide +kernel
theorem d_X6_bake_203 : decode (bc mX6_bake) 203 = .ok (.invokevirtual 186, 3) := by decide +kernel
theorem d_X6_bake_206 : decode (bc mX6_bake) 206 = .ok (.goto 30, 3) := by decide +kernel
theorem d_X6_bake_209 : decode (bc mX6_bake) 209 = .ok (.iload_n 3, 1) := by decide +kernel
theorem d_X6_bake_210 : decode (bc mX6_bake) 210 = .ok (.ifCond .ne 20, 3) := by decide +kernel
theorem d_X6_bake_213 : decode (bc mX6_bake) 213 = .ok (.aload_n 0, 1) := by decide +kernel
theorem d_X6_bake_214 : decode (bc mX6_bake) 214 = .ok (.aload_n 1, 1) := by decide +kernel
theorem d_X6_bake_215 : decode (bc mX6_bake) 215 = .ok (.iload_n 2, 1) := by decide +kernel
theorem d_X6_bake_216 : decode (bc mX6_bake) 216 = .ok (.iload 5, 2) := by decide +kernel
theorem d_X6_bake_218 : decode (bc mX6_bake) 218 = .ok (.aload_n 1, 1) := by decide +kernel
theorem d_X6_bake_219 : decode (bc mX6_bake) 219 = .ok (.iload 4, 2) := by decide +kernel
theorem d_X6_bake_221 : decode (bc mX6_bake) 221 = .ok (.invokestatic 172, 3) := by decide +kernel
theorem d_X6_bake_224 : decode (bc mX6_bake) 224 = .ok (.invokevirtual 196, 3) := by decide +kernel
theorem d_X6_bake_227 : decode (bc mX6_bake) 227 = .ok (.goto 9, 3) := by decide +kernel
theorem d_X6_bake_230 : decode (bc mX6_bake) 230 = .ok (.aload_n 0, 1) := by decide +kernel
theorem d_X6_bake_231 : decode (bc mX6_bake) 231 = .ok (.iload 4, 2) := by decide +kernel
theorem d_X6_bake_233 : decode (bc mX6_bake) 233 = .ok (.putfield 169, 3) := by decide +kernel
theorem d_X6_bake_236 : decode (bc mX6_bake) 236 = .ok (.goto 32, 3) := by decide +kernel
theorem d_X6_bake_239 : decode (bc mX6_bake) 239 = .ok (.iload_n 3, 1) := by decide +kernel
theorem d_X6_bake_240 : decode (bc mX6_bake) 240 = .ok (.bipush 6, 2) := by decide +kernel
theorem d_X6_bake_242 : decode (bc mX6_bake) 242 = .ok (.if_icmp .eq 26, 3) := by decide +kernel
theorem d_X6_bake_245 : decode (bc mX6_bake) 245 = .ok (.aload_n 0, 1) := by decide +kernel
theorem d_X6_bake_246 : decode (bc mX6_bake) 246 = .ok (.iload_n 2, 1) := by decide +kernel
theorem d_X6_bake_247 : decode (bc mX6_bake) 247 = .ok (.invokevirtual 189, 3) := by decide +kernel
theorem d_X6_bake_250 : decode (bc mX6_bake) 250 = .ok (.istore 5, 2) := by decide +kernel
theorem d_X6_bake_252 : decode (bc mX6_bake) 252 = .ok (.aload_n 0, 1) := by decide +kernel
theorem d_X6_bake_253 : decode (bc mX6_bake) 253 = .ok (.iload_n 2, 1) := by decide +kernel
theorem d_X6_bake_254 : decode (bc mX6_bake) 254 = .ok (.iload_n 3, 1) := by decide +kernel
theorem d_X6_bake_255 : decode (bc mX6_bake) 255 = .ok (.aload_n 0, 1) := by decide +kernel
theorem d_X6_bake_256 : decode (bc mX6_bake) 256 = .ok (.iload_n 2, 1) := by decide +kernel
theorem d_X6_bake_257 : decode (bc mX6_bake) 257 = .ok (.invokevirtual 189, 3) := by decide +kernel
theorem d_X6_bake_260 : decode (bc mX6_bake) 260 = .ok (.iload 5, 2) := by decide +kernel
theorem d_X6_bake_262 : decode (bc mX6_bake) 262 = .ok (.invokestatic 200, 3) := by decide +kernel
theorem d_X6_bake_265 : decode (bc mX6_bake) 265 = .ok (.invokevirtual 186, 3) := by decide +kernel
theorem d_X6_bake_268 : decode (bc mX6_bake) 268 = .ok (.goto (-268), 3) := by decide +kernel
theorem d_X6_bake_271 : decode (bc mX6_bake) 271 = .ok (.return_, 1) := by decide +kernel
theorem d_X6_askOn_0 : decode (bc mX6_askOn) 0 = .ok (.iload_n 2, 1) := by decide +kernel
theorem d_X6_askOn_1 : decode (bc mX6_askOn) 1 = .ok (.istore_n 3, 1) := by decide +kernel
theorem d_X6_askOn_2 : decode (bc mX6_askOn) 2 = .ok (.aload_n 1, 1) := by decide +kernel
theorem d_X6_askOn_3 : decode (bc mX6_askOn) 3 = .ok (.bipush 26, 2) := by decide +kernel
theorem d_X6_askOn_5 : decode (bc mX6_askOn) 5 = .ok (.iload_n 3, 1) := by decide +kernel
theorem d_X6_askOn_6 : decode (bc mX6_askOn) 6 = .ok (.iadd, 1) := by decide +kernel
theorem d_X6_askOn_7 : decode (bc mX6_askOn) 7 = .ok (.iaload, 1) := by decide +kernel
theorem d_X6_askOn_8 : decode (bc mX6_askOn) 8 = .ok (.ifCond .ne 6, 3) := by decide +kernel
theorem d_X6_askOn_11 : decode (bc mX6_askOn) 11 = .ok (.bipush 100, 2) := by decide +kernel
theorem d_X6_askOn_13 : decode (bc mX6_askOn) 13 = .ok (.ireturn, 1) := by decide +kernel
theorem d_X6_askOn_14 : decode (bc mX6_askOn) 14 = .ok (.aload_n 0, 1) := by decide +kernel
theorem d_X6_askOn_15 : decode (bc mX6_askOn) 15 = .ok (.aload_n 1, 1) := by decide +kernel
theorem d_X6_askOn_16 : decode (bc mX6_askOn) 16 = .ok (.iload_n 3, 1) := by decide +kernel
theorem d_X6_askOn_17 : decode (bc mX6_askOn) 17 = .ok (.bipush (-6), 2) := by decide +kernel
theorem d_X6_askOn_19 : decode (bc mX6_askOn) 19 = .ok (.invokevirtual 204, 3) := by decide +kernel
theorem d_X6_askOn_22 : decode (bc mX6_askOn) 22 = .ok (.aload_n 0, 1) := by decide +kernel
theorem d_X6_askOn_23 : decode (bc mX6_askOn) 23 = .ok (.bipush (-6), 2) := by decide +kernel
theorem d_X6_askOn_25 : decode (bc mX6_askOn) 25 = .ok (.putfield 163, 3) := by decide +kernel
theorem d_X6_askOn_28 : decode (bc mX6_askOn) 28 = .ok (.aload_n 0, 1) := by decide +kernel
theorem d_X6_askOn_29 : decode (bc mX6_askOn) 29 = .ok (.bipush (-6), 2) := by decide +kernel
theorem d_X6_askOn_31 : decode (bc mX6_askOn) 31 = .ok (.putfield 169, 3) := by decide +kernel
theorem d_X6_askOn_34 : decode (bc mX6_askOn) 34 = .ok (.aload_n 0, 1) := by decide +kernel
theorem d_X6_askOn_35 : decode (bc mX6_askOn) 35 = .ok (.getfield 47, 3) := by decide +kernel
theorem d_X6_askOn_38 : decode (bc mX6_askOn) 38 = .ok (.iload_n 3, 1) := by decide +kernel
theorem d_X6_askOn_39 : decode (bc mX6_askOn) 39 = .ok (.iaload, 1) := by decide +kernel
theorem d_X6_askOn_40 : decode (bc mX6_askOn) 40 = .ok (.iconst 1, 1) := by decide +kernel
theorem d_X6_askOn_41 : decode (bc mX6_askOn) 41 = .ok (.if_icmp .ne 9, 3) := by decide +kernel
theorem d_X6_askOn_44 : decode (bc mX6_askOn) 44 = .ok (.aload_n 0, 1) := by decide +kernel
theorem d_X6_askOn_45 : decode (bc mX6_askOn) 45 = .ok (.aload_n 1, 1) := by decide +kernel
theorem d_X6_askOn_46 : decode (bc mX6_askOn) 46 = .ok (.iload_n 3, 1) := by decide +kernel
theorem d_X6_askOn_47 : decode (bc mX6_askOn) 47 = .ok (.invokevirtual 207, 3) := by decide +kernel
theorem d_X6_askOn_50 : decode (bc mX6_askOn) 50 = .ok (.aload_n 0, 1) := by decide +kernel
theorem d_X6_askOn_51 : decode (bc mX6_askOn) 51 = .ok (.getfield 47, 3) := by decide +kernel
theorem d_X6_askOn_54 : decode (bc mX6_askOn) 54 = .ok (.iload_n 3, 1) := by decide +kernel
theorem d_X6_askOn_55 : decode (bc mX6_askOn) 55 = .ok (.iaload, 1) := by decide +kernel
theorem d_X6_askOn_56 : decode (bc mX6_askOn) 56 = .ok (.iconst 2, 1) := by decide +kernel
theorem d_X6_askOn_57 : decode (bc mX6_askOn) 57 = .ok (.if_icmp .ne 27, 3) := by decide +kernel
theorem d_X6_askOn_60 : decode (bc mX6_askOn) 60 = .ok (.aload_n 0, 1) := by decide +kernel
theorem d_X6_askOn_61 : decode (bc mX6_askOn) 61 = .ok (.getfield 163, 3) := by decide +kernel
theorem d_X6_askOn_64 : decode (bc mX6_askOn) 64 = .ok (.bipush (-6), 2) := by decide +kernel
theorem d_X6_askOn_66 : decode (bc mX6_askOn) 66 = .ok (.if_icmp .ne 18, 3) := by decide +kernel
theorem d_X6_askOn_69 : decode (bc mX6_askOn) 69 = .ok (.aload_n 0, 1) := by decide +kernel
theorem d_X6_askOn_70 : decode (bc mX6_askOn) 70 = .ok (.getfield 169, 3) := by decide +kernel
theorem d_X6_askOn_73 : decode (bc mX6_askOn) 73 = .ok (.bipush (-6), 2) := by decide +kernel
theorem d_X6_askOn_75 : decode (bc mX6_askOn) 75 = .ok (.if_icmp .ne 9, 3) := by decide +kernel
theorem d_X6_askOn_78 : decode (bc mX6_askOn) 78 = .ok (.aload_n 0, 1) := by decide +kernel
theorem d_X6_askOn_79 : decode (bc mX6_askOn) 79 = .ok (.aload_n 1, 1) := by decide +kernel
theorem d_X6_askOn_80 : decode (bc mX6_askOn) 80 = .ok (.iload_n 3, 1) := by decide +kernel
theorem d_X6_askOn_81 : decode (bc mX6_askOn) 81 = .ok (.invokevirtual 210, 3) := by decide +kernel
theorem d_X6_askOn_84 : decode (bc mX6_askOn) 84 = .ok (.aload_n 0, 1) := by decide +kernel
theorem d_X6_askOn_85 : decode (bc mX6_askOn) 85 = .ok (.getfield 169, 3) := by decide +kernel
theorem d_X6_askOn_88 : decode (bc mX6_askOn) 88 = .ok (.bipush (-6), 2) := by decide +kernel
theorem d_X6_askOn_90 : decode (bc mX6_askOn) 90 = .ok (.if_icmp .eq 49, 3) := by decide +kernel
theorem d_X6_askOn_93 : decode (bc mX6_askOn) 93 = .ok (.aload_n 0, 1) := by decide +kernel
theorem d_X6_askOn_94 : decode (bc mX6_askOn) 94 = .ok (.getfield 169, 3) := by decide +kernel
theorem d_X6_askOn_97 : decode (bc mX6_askOn) 97 = .ok (.istore 4, 2) := by decide +kernel
theorem d_X6_askOn_99 : decode (bc mX6_askOn) 99 = .ok (.aload_n 0, 1) := by decide +kernel
theorem d_X6_askOn_100 : decode (bc mX6_askOn) 100 = .ok (.bipush (-6), 2) := by decide +kernel
theorem d_X6_askOn_102 : decode (bc mX6_askOn) 102 = .ok (.putfield 169, 3) := by decide +kernel
theorem d_X6_askOn_105 : decode (bc mX6_askOn) 105 = .ok (.aload_n 1, 1) := by decide +kernel
theorem d_X6_askOn_106 : decode (bc mX6_askOn) 106 = .ok (.bipush 26, 2) := by decide +kernel
theorem d_X6_askOn_108 : decode (bc mX6_askOn) 108 = .ok (.iload 4, 2) := by decide +kernel
theorem d_X6_askOn_110 : decode (bc mX6_askOn) 110 = .ok (.iadd, 1) := by decide +kernel
theorem d_X6_askOn_111 : decode (bc mX6_askOn) 111 = .ok (.iaload, 1) := by decide +kernel
theorem d_X6_askOn_112 : decode (bc mX6_askOn) 112 = .ok (.ifCond .ne 16, 3) := by decide +kernel
theorem d_X6_askOn_115 : decode (bc mX6_askOn) 115 = .ok (.aload_n 0, 1) := by decide +kernel
theorem d_X6_askOn_116 : decode (bc mX6_askOn) 116 = .ok (.aload_n 1, 1) := by decide +kernel
theorem d_X6_askOn_117 : decode (bc mX6_askOn) 117 = .ok (.iload_n 3, 1) := by decide +kernel
theorem d_X6_askOn_118 : decode (bc mX6_askOn) 118 = .ok (.iload 4, 2) := by decide +kernel
theorem d_X6_askOn_120 : decode (bc mX6_askOn) 120 = .ok (.bipush 100, 2) := by decide +kernel
theorem d_X6_askOn_122 : decode (bc mX6_askOn) 122 = .ok (.invokevirtual 213, 3) := by decide +kernel
theorem d_X6_askOn_125 : decode (bc mX6_askOn) 125 = .ok (.goto 14, 3) := by decide +kernel
theorem d_X6_askOn_128 : decode (bc mX6_askOn) 128 = .ok (.aload_n 0, 1) := by decide +kernel
theorem d_X6_askOn_129 : decode (bc mX6_askOn) 129 = .ok (.aload_n 1, 1) := by decide +kernel
theorem d_X6_askOn_130 : decode (bc mX6_askOn) 130 = .ok (.iload 4, 2) := by decide +kernel
theorem d_X6_askOn_132 : decode (bc mX6_askOn) 132 = .ok (.iload_n 3, 1) := by decide +kernel
theorem d_X6_askOn_133 : decode (bc mX6_askOn) 133 = .ok (.invokevirtual 204, 3) := by decide +kernel
theorem d_X6_askOn_136 : decode (bc mX6_askOn) 136 = .ok (.iload 4, 2) := by decide +kernel
theorem d_X6_askOn_138 : decode (bc mX6_askOn) 138 = .ok (.istore_n 3, 1) := by decide +kernel
theorem d_X6_askOn_139 : decode (bc mX6_askOn) 139 = .ok (.aload_n 0, 1) := by decide +kernel
theorem d_X6_askOn_140 : decode (bc mX6_askOn) 140 = .ok (.getfield 163, 3) := by decide +kernel
theorem d_X6_askOn_143 : decode (bc mX6_askOn) 143 = .ok (.bipush (-6), 2) := by decide +kernel
theorem d_X6_askOn_145 : decode (bc mX6_askOn) 145 = .ok (.if_icmp .eq (-111), 3) := by decide +kernel
theorem d_X6_askOn_148 : decode (bc mX6_askOn) 148 = .ok (.aload_n 0, 1) := by decide +kernel
theorem d_X6_askOn_149 : decode (bc mX6_askOn) 149 = .ok (.getfield 163, 3) := by decide +kernel
theorem d_X6_askOn_152 : decode (bc mX6_askOn) 152 = .ok (.istore 4, 2) := by decide +kernel
theorem d_X6_askOn_154 : decode (bc mX6_askOn) 154 = .ok (.iload_n 3, 1) := by decide +kernel
theorem d_X6_askOn_155 : decode (bc mX6_askOn) 155 = .ok (.istore 5, 2) := by decide +kernel
theorem d_X6_askOn_157 : decode (bc mX6_askOn) 157 = .ok (.aload_n 0, 1) := by decide +kernel
theorem d_X6_askOn_158 : decode (bc mX6_askOn) 158 = .ok (.getfield 44, 3) := by decide +kernel
theorem d_X6_askOn_161 : decode (bc mX6_askOn) 161 = .ok (.iload_n 3, 1) := by decide +kernel
theorem d_X6_askOn_162 : decode (bc mX6_askOn) 162 = .ok (.iaload, 1) := by decide +kernel
theorem d_X6_askOn_163 : decode (bc mX6_askOn) 163 = .ok (.istore_n 3, 1) := by decide +kernel
theorem d_X6_askOn_164 : decode (bc mX6_askOn) 164 = .ok (.iload_n 3, 1) := by decide +kernel
theorem d_X6_askOn_165 : decode (bc mX6_askOn) 165 = .ok (.bipush (-6), 2) := by decide +kernel
theorem d_X6_askOn_167 : decode (bc mX6_askOn) 167 = .ok (.if_icmp .ne 6, 3) := by decide +kernel
theorem d_X6_askOn_170 : decode (bc mX6_askOn) 170 = .ok (.iload 4, 2) := by decide +kernel
theorem d_X6_askOn_172 : decode (bc mX6_askOn) 172 = .ok (.ireturn, 1) := by decide +kernel
theorem d_X6_askOn_173 : decode (bc mX6_askOn) 173 = .ok (.aload_n 0, 1) := by decide +kernel
theorem d_X6_askOn_174 : decode (bc mX6_askOn) 174 = .ok (.bipush (-6), 2) := by decide +kernel
theorem d_X6_askOn_176 : decode (bc mX6_askOn) 176 = .ok (.putfield 163, 3) := by decide +kernel
theorem d_X6_askOn_179 : decode (bc mX6_askOn) 179 = .ok (.aload_n 0, 1) := by decide +kernel
theorem d_X6_askOn_180 : decode (bc mX6_askOn) 180 = .ok (.aload_n 1, 1) := by decide +kernel
theorem d_X6_askOn_181 : decode (bc mX6_askOn) 181 = .ok (.iload_n 3, 1) := by decide +kernel
theorem d_X6_askOn_182 : decode (bc mX6_askOn) 182 = .ok (.iload 5, 2) := by decide +kernel
theorem d_X6_askOn_184 : decode (bc mX6_askOn) 184 = .ok (.iload 4, 2) := by decide +kernel
theorem d_X6_askOn_186 : decode (bc mX6_askOn) 186 = .ok (.invokevirtual 213, 3) := by decide +kernel
theorem d_X6_askOn_189 : decode (bc mX6_askOn) 189 = .ok (.goto (-50), 3) := by decide +kernel
theorem d_X6_comeBack_0 : decode (bc mX6_comeBack) 0 = .ok (.aload_n 0, 1) := by decide +kernel
theorem d_X6_comeBack_1 : decode (bc mX6_comeBack) 1 = .ok (.getfield 47, 3) := by decide +kernel
theorem d_X6_comeBack_4 : decode (bc mX6_comeBack) 4 = .ok (.iload_n 2, 1) := by decide +kernel
theorem d_X6_comeBack_5 : decode (bc mX6_comeBack) 5 = .ok (.iaload, 1) := by decide +kernel
theorem d_X6_comeBack_6 : decode (bc mX6_comeBack) 6 = .ok (.iconst 1, 1) := by decide +kernel
theorem d_X6_comeBack_7 : decode (bc mX6_comeBack) 7 = .ok (.if_icmp .ne 14, 3) := by decide +kernel
theorem d_X6_comeBack_10 : decode (bc mX6_comeBack) 10 = .ok (.aload_n 0, 1) := by decide +kernel
theorem d_X6_comeBack_11 : decode (bc mX6_comeBack) 11 = .ok (.aload_n 1, 1) := by decide +kernel
theorem d_X6_comeBack_12 : decode (bc mX6_comeBack) 12 = .ok (.iload_n 2, 1) := by decide +kernel
theorem d_X6_comeBack_13 : decode (bc mX6_comeBack) 13 = .ok (.iload 4, 2) := by decide +kernel
theorem d_X6_comeBack_15 : decode (bc mX6_comeBack) 15 = .ok (.invokevirtual 175, 3) := by decide +kernel
theorem d_X6_comeBack_18 : decode (bc mX6_comeBack) 18 = .ok (.goto 15, 3) := by decide +kernel
theorem d_X6_comeBack_21 : decode (bc mX6_comeBack) 21 = .ok (.aload_n 0, 1) := by decide +kernel
theorem d_X6_comeBack_22 : decode (bc mX6_comeBack) 22 = .ok (.aload_n 1, 1) := by decide +kernel
theorem d_X6_comeBack_23 : decode (bc mX6_comeBack) 23 = .ok (.iload_n 2, 1) := by decide +kernel
theorem d_X6_comeBack_24 : decode (bc mX6_comeBack) 24 = .ok (.bipush 20, 2) := by decide +kernel
theorem d_X6_comeBack_26 : decode (bc mX6_comeBack) 26 = .ok (.iload_n 3, 1) := by decide +kernel
theorem d_X6_comeBack_27 : decode (bc mX6_comeBack) 27 = .ok (.iadd, 1) := by decide +kernel
theorem d_X6_comeBack_28 : decode (bc mX6_comeBack) 28 = .ok (.iload 4, 2) := by decide +kernel
theorem d_X6_comeBack_30 : decode (bc mX6_comeBack) 30 = .ok (.invokevirtual 196, 3) := by decide +kernel
theorem d_X6_comeBack_33 : decode (bc mX6_comeBack) 33 = .ok (.return_, 1) := by decide +kernel
theorem d_X6_record_0 : decode (bc mX6_record) 0 = .ok (.aload_n 0, 1) := by decide +kernel
theorem d_X6_record_1 : decode (bc mX6_record) 1 = .ok (.getfield 216, 3) := by decide +kernel
theorem d_X6_record_4 : decode (bc mX6_record) 4 = .ok (.bipush 6, 2) := by decide +kernel
theorem d_X6_record_6 : decode (bc mX6_record) 6 = .ok (.if_icmp .ne 44, 3) := by decide +kernel
theorem d_X6_record_9 : decode (bc mX6_record) 9 = .ok (.iconst 0, 1) := by decide +kernel
theorem d_X6_record_10 : decode (bc mX6_record) 10 = .ok (.istore_n 1, 1) := by decide +kernel
theorem d_X6_record_11 : decode (bc mX6_record) 11 = .ok (.iload_n 1, 1) := by decide +kernel
theorem d_X6_record_12 : decode (bc mX6_record) 12 = .ok (.sipush 7480, 3) := by decide +kernel
theorem d_X6_record_15 : decode (bc mX6_record) 15 = .ok (.if_icmp .ge 25, 3) := by decide +kernel
theorem d_X6_record_18 : decode (bc mX6_record) 18 = .ok (.aload_n 0, 1) := by decide +kernel
theorem d_X6_record_19 : decode (bc mX6_record) 19 = .ok (.getfield 16, 3) := by decide +kernel
theorem d_X6_record_22 : decode (bc mX6_record) 22 = .ok (.iload_n 1, 1) := by decide +kernel
theorem d_X6_record_23 : decode (bc mX6_record) 23 = .ok (.aload_n 0, 1) := by decide +kernel
theorem d_X6_record_24 : decode (bc mX6_record) 24 = .ok (.getfield 16, 3) := by decide +kernel
theorem d_X6_record_27 : decode (bc mX6_record) 27 = .ok (.iload_n 1, 1) := by decide +kernel
theorem d_X6_record_28 : decode (bc mX6_record) 28 = .ok (.sipush 1496, 3) := by decide +kernel
theorem d_X6_record_31 : decode (bc mX6_record) 31 = .ok (.iadd, 1) := by decide +kernel
theorem d_X6_record_32 : decode (bc mX6_record) 32 = .ok (.iaload, 1) := by decide +kernel
theorem d_X6_record_33 : decode (bc mX6_record) 33 = .ok (.iastore, 1) := by decide +kernel
theorem d_X6_record_34 : decode (bc mX6_record) 34 = .ok (.iinc 1 1, 3) := by decide +kernel
theorem d_X6_record_37 : decode (bc mX6_record) 37 = .ok (.goto (-26), 3) := by decide +kernel
theorem d_X6_record_40 : decode (bc mX6_record) 40 = .ok (.aload_n 0, 1) := by decide +kernel
theorem d_X6_record_41 : decode (bc mX6_record) 41 = .ok (.dup, 1) := by decide +kernel
theorem d_X6_record_42 : decode (bc mX6_record) 42 = .ok (.getfield 216, 3) := by decide +kernel
theorem d_X6_record_45 : decode (bc mX6_record) 45 = .ok (.iconst 1, 1) := by decide +kernel
theorem d_X6_record_46 : decode (bc mX6_record) 46 = .ok (.isub, 1) := by decide +kernel
theorem d_X6_record_47 : decode (bc mX6_record) 47 = .ok (.putfield 216, 3) := by decide +kernel
theorem d_X6_record_50 : decode (bc mX6_record) 50 = .ok (.aload_n 0, 1) := by decide +kernel
theorem d_X6_record_51 : decode (bc mX6_record) 51 = .ok (.getfield 7, 3) := by decide +kernel
theorem d_X6_record_54 : decode (bc mX6_record) 54 = .ok (.iconst 0, 1) := by decide +kernel
theorem d_X6_record_55 : decode (bc mX6_record) 55 = .ok (.aload_n 0, 1) := by decide +kernel
theorem d_X6_record_56 : decode (bc mX6_record) 56 = .ok (.getfield 16, 3) := by decide +kernel
theorem d_X6_record_59 : decode (bc mX6_record) 59 = .ok (.sipush 1496, 3) := by decide +kernel
theorem d_X6_record_62 : decode (bc mX6_record) 62 = .ok (.aload_n 0, 1) := by decide +kernel
theorem d_X6_record_63 : decode (bc mX6_record) 63 = .ok (.getfield 216, 3) := by decide +kernel
theorem d_X6_record_66 : decode (bc mX6_record) 66 = .ok (.imul, 1) := by decide +kernel
theorem d_X6_record_67 : decode (bc mX6_record) 67 = .ok (.invokestatic 219, 3) := by decide +kernel
theorem d_X6_record_70 : decode (bc mX6_record) 70 = .ok (.aload_n 0, 1) := by decide +kernel
theorem d_X6_record_71 : decode (bc mX6_record) 71 = .ok (.dup, 1) := by decide +kernel
theorem d_X6_record_72 : decode (bc mX6_record) 72 = .ok (.getfield 216, 3) := by decide +kernel
theorem d_X6_record_75 : decode (bc mX6_record) 75 = .ok (.iconst 1, 1) := by decide +kernel
theorem d_X6_record_76 : decode (bc mX6_record) 76 = .ok (.iadd, 1) := by decide +kernel
theorem d_X6_record_77 : decode (bc mX6_record) 77 = .ok (.putfield 216, 3) := by decide +kernel
theorem d_X6_record_80 : decode (bc mX6_record) 80 = .ok (.return_, 1) := by decide +kernel
theorem d_X6_set_0 : decode (bc mX6_set) 0 = .ok (.iload_n 1, 1) := by decide +kernel
theorem d_X6_set_1 : decode (bc mX6_set) 1 = .ok (.ifCond .ne 15, 3) := by decide +kernel
theorem d_X6_set_4 : decode (bc mX6_set) 4 = .ok (.iload_n 2, 1) := by decide +kernel
theorem d_X6_set_5 : decode (bc mX6_set) 5 = .ok (.i2l, 1) := by decide +kernel
theorem d_X6_set_6 : decode (bc mX6_set) 6 = .ok (.lconst 1, 1) := by decide +kernel
theorem d_X6_set_7 : decode (bc mX6_set) 7 = .ok (.ldc2_w 223, 3) := by decide +kernel
theorem d_X6_set_10 : decode (bc mX6_set) 10 = .ok (.invokestatic 91, 3) := by decide +kernel
theorem d_X6_set_13 : decode (bc mX6_set) 13 = .ok (.ifCond .ne 21, 3) := by decide +kernel
theorem d_X6_set_16 : decode (bc mX6_set) 16 = .ok (.iload_n 1, 1) := by decide +kernel
theorem d_X6_set_17 : decode (bc mX6_set) 17 = .ok (.iconst 1, 1) := by decide +kernel
theorem d_X6_set_18 : decode (bc mX6_set) 18 = .ok (.if_icmp .ne 13, 3) := by decide +kernel
theorem d_X6_set_21 : decode (bc mX6_set) 21 = .ok (.iload_n 2, 1) := by decide +kernel
theorem d_X6_set_22 : decode (bc mX6_set) 22 = .ok (.i2l, 1) := by decide +kernel
theorem d_X6_set_23 : decode (bc mX6_set) 23 = .ok (.lconst 0, 1) := by decide +kernel
theorem d_X6_set_24 : decode (bc mX6_set) 24 = .ok (.lconst 1, 1) := by decide +kernel
theorem d_X6_set_25 : decode (bc mX6_set) 25 = .ok (.invokestatic 91, 3) := by decide +kernel
theorem d_X6_set_28 : decode (bc mX6_set) 28 = .ok (.ifCond .ne 6, 3) := by decide +kernel
theorem d_X6_set_31 : decode (bc mX6_set) 31 = .ok (.bipush (-2), 2) := by decide +kernel
theorem d_X6_set_33 : decode (bc mX6_set) 33 = .ok (.ireturn, 1) := by decide +kernel
theorem d_X6_set_34 : decode (bc mX6_set) 34 = .ok (.aload_n 0, 1) := by decide +kernel
theorem d_X6_set_35 : decode (bc mX6_set) 35 = .ok (.invokevirtual 225, 3) := by decide +kernel
theorem d_X6_set_38 : decode (bc mX6_set) 38 = .ok (.aload_n 0, 1) := by decide +kernel
theorem d_X6_set_39 : decode (bc mX6_set) 39 = .ok (.getfield 7, 3) := by decide +kernel
theorem d_X6_set_42 : decode (bc mX6_set) 42 = .ok (.iload_n 1, 1) := by decide +kernel
theorem d_X6_set_43 : decode (bc mX6_set) 43 = .ok (.iaload, 1) := by decide +kernel
theorem d_X6_set_44 : decode (bc mX6_set) 44 = .ok (.istore_n 3, 1) := by decide +kernel
theorem d_X6_set_45 : decode (bc mX6_set) 45 = .ok (.aload_n 0, 1) := by decide +kernel
theorem d_X6_set_46 : decode (bc mX6_set) 46 = .ok (.getfield 7, 3) := by decide +kernel
theorem d_X6_set_49 : decode (bc mX6_set) 49 = .ok (.iload_n 1, 1) := by decide +kernel
theorem d_X6_set_50 : decode (bc mX6_set) 50 = .ok (.iload_n 2, 1) := by decide +kernel
theorem d_X6_set_51 : decode (bc mX6_set) 51 = .ok (.iastore, 1) := by decide +kernel
theorem d_X6_set_52 : decode (bc mX6_set) 52 = .ok (.aload_n 0, 1) := by decide +kernel
theorem d_X6_set_53 : decode (bc mX6_set) 53 = .ok (.getfield 7, 3) := by decide +kernel
theorem d_X6_set_56 : decode (bc mX6_set) 56 = .ok (.invokestatic 179, 3) := by decide +kernel
theorem d_X6_set_59 : decode (bc mX6_set) 59 = .ok (.iload_n 3, 1) := by decide +kernel
theorem d_X6_set_60 : decode (bc mX6_set) 60 = .ok (.ireturn, 1) := by decide +kernel
theorem d_X6_put_0 : decode (bc mX6_put) 0 = .ok (.iload_n 1, 1) := by decide +kernel
theorem d_X6_put_1 : decode (bc mX6_put) 1 = .ok (.invokestatic 228, 3) := by decide +kernel
theorem d_X6_put_4 : decode (bc mX6_put) 4 = .ok (.ifCond .ne 5, 3) := by decide +kernel
theorem d_X6_put_7 : decode (bc mX6_put) 7 = .ok (.iconst (-1), 1) := by decide +kernel
theorem d_X6_put_8 : decode (bc mX6_put) 8 = .ok (.ireturn, 1) := by decide +kernel
theorem d_X6_put_9 : decode (bc mX6_put) 9 = .ok (.iload_n 2, 1) := by decide +kernel
theorem d_X6_put_10 : decode (bc mX6_put) 10 = .ok (.i2l, 1) := by decide +kernel
theorem d_X6_put_11 : decode (bc mX6_put) 11 = .ok (.lconst 0, 1) := by decide +kernel
theorem d_X6_put_12 : decode (bc mX6_put) 12 = .ok (.ldc2_w 232, 3) := by decide +kernel
theorem d_X6_put_15 : decode (bc mX6_put) 15 = .ok (.invokestatic 91, 3) := by decide +kernel
theorem d_X6_put_18 : decode (bc mX6_put) 18 = .ok (.ifCond .ne 6, 3) := by decide +kernel
theorem d_X6_put_21 : decode (bc mX6_put) 21 = .ok (.bipush (-2), 2) := by decide +kernel
theorem d_X6_put_23 : decode (bc mX6_put) 23 = .ok (.ireturn, 1) := by decide +kernel
theorem d_X6_put_24 : decode (bc mX6_put) 24 = .ok (.aload_n 0, 1) := by decide +kernel
theorem d_X6_put_25 : decode (bc mX6_put) 25 = .ok (.invokevirtual 225, 3) := by decide +kernel
theorem d_X6_put_28 : decode (bc mX6_put) 28 = .ok (.aload_n 0, 1) := by decide +kernel
theorem d_X6_put_29 : decode (bc mX6_put) 29 = .ok (.getfield 7, 3) := by decide +kernel
theorem d_X6_put_32 : decode (bc mX6_put) 32 = .ok (.iconst 2, 1) := by decide +kernel
theorem d_X6_put_33 : decode (bc mX6_put) 33 = .ok (.iload_n 1, 1) := by decide +kernel
theorem d_X6_put_34 : decode (bc mX6_put) 34 = .ok (.iadd, 1) := by decide +kernel
theorem d_X6_put_35 : decode (bc mX6_put) 35 = .ok (.iaload, 1) := by decide +kernel
theorem d_X6_put_36 : decode (bc mX6_put) 36 = .ok (.istore_n 3, 1) := by decide +kernel
theorem d_X6_put_37 : decode (bc mX6_put) 37 = .ok (.aload_n 0, 1) := by decide +kernel
theorem d_X6_put_38 : decode (bc mX6_put) 38 = .ok (.getfield 7, 3) := by decide +kernel
theorem d_X6_put_41 : decode (bc mX6_put) 41 = .ok (.iconst 2, 1) := by decide +kernel
theorem d_X6_put_42 : decode (bc mX6_put) 42 = .ok (.iload_n 1, 1) := by decide +kernel
theorem d_X6_put_43 : decode (bc mX6_put) 43 = .ok (.iadd, 1) := by decide +kernel
theorem d_X6_put_44 : decode (bc mX6_put) 44 = .ok (.iload_n 2, 1) := by decide +kernel
theorem d_X6_put_45 : decode (bc mX6_put) 45 = .ok (.iastore, 1) := by decide +kernel
theorem d_X6_put_46 : decode (bc mX6_put) 46 = .ok (.iload_n 3, 1) := by decide +kernel
theorem d_X6_put_47 : decode (bc mX6_put) 47 = .ok (.ireturn, 1) := by decide +kernel
theorem d_X6_poison_0 : decode (bc mX6_poison) 0 = .ok (.iload_n 1, 1) := by decide +kernel
theorem d_X6_poison_1 : decode (bc mX6_poison) 1 = .ok (.invokestatic 228, 3) := by decide +kernel
theorem d_X6_poison_4 : decode (bc mX6_poison) 4 = .ok (.ifCond .ne 5, 3) := by decide +kernel
theorem d_X6_poison_7 : decode (bc mX6_poison) 7 = .ok (.iconst (-1), 1) := by decide +kernel
theorem d_X6_poison_8 : decode (bc mX6_poison) 8 = .ok (.ireturn, 1) := by decide +kernel
theorem d_X6_poison_9 : decode (bc mX6_poison) 9 = .ok (.iload_n 2, 1) := by decide +kernel
theorem d_X6_poison_10 : decode (bc mX6_poison) 10 = .ok (.i2l, 1) := by decide +kernel
theorem d_X6_poison_11 : decode (bc mX6_poison) 11 = .ok (.lconst 0, 1) := by decide +kernel
theorem d_X6_poison_12 : decode (bc mX6_poison) 12 = .ok (.lconst 1, 1) := by decide +kernel
theorem d_X6_poison_13 : decode (bc mX6_poison) 13 = .ok (.invokestatic 91, 3) := by decide +kernel
theorem d_X6_poison_16 : decode (bc mX6_poison) 16 = .ok (.ifCond .ne 6, 3) := by decide +kernel
theorem d_X6_poison_19 : decode (bc mX6_poison) 19 = .ok (.bipush (-2), 2) := by decide +kernel
theorem d_X6_poison_21 : decode (bc mX6_poison) 21 = .ok (.ireturn, 1) := by decide +kernel
theorem d_X6_poison_22 : decode (bc mX6_poison) 22 = .ok (.aload_n 0, 1) := by decide +kernel
theorem d_X6_poison_23 : decode (bc mX6_poison) 23 = .ok (.invokevirtual 225, 3) := by decide +kernel
theorem d_X6_poison_26 : decode (bc mX6_poison) 26 = .ok (.aload_n 0, 1) := by decide +kernel
theorem d_X6_poison_27 : decode (bc mX6_poison) 27 = .ok (.getfield 7, 3) := by decide +kernel
theorem d_X6_poison_30 : decode (bc mX6_poison) 30 = .ok (.bipush 14, 2) := by decide +kernel
theorem d_X6_poison_32 : decode (bc mX6_poison) 32 = .ok (.iload_n 1, 1) := by decide +kernel
theorem d_X6_poison_33 : decode (bc mX6_poison) 33 = .ok (.iadd, 1) := by decide +kernel
theorem d_X6_poison_34 : decode (bc mX6_poison) 34 = .ok (.iaload, 1) := by decide +kernel
theorem d_X6_poison_35 : decode (bc mX6_poison) 35 = .ok (.istore_n 3, 1) := by decide +kernel
theorem d_X6_poison_36 : decode (bc mX6_poison) 36 = .ok (.aload_n 0, 1) := by decide +kernel
theorem d_X6_poison_37 : decode (bc mX6_poison) 37 = .ok (.getfield 7, 3) := by decide +kernel
theorem d_X6_poison_40 : decode (bc mX6_poison) 40 = .ok (.bipush 14, 2) := by decide +kernel
theorem d_X6_poison_42 : decode (bc mX6_poison) 42 = .ok (.iload_n 1, 1) := by decide +kernel
theorem d_X6_poison_43 : decode (bc mX6_poison) 43 = .ok (.iadd, 1) := by decide +kernel
theorem d_X6_poison_44 : decode (bc mX6_poison) 44 = .ok (.iload_n 2, 1) := by decide +kernel
theorem d_X6_poison_45 : decode (bc mX6_poison) 45 = .ok (.iastore, 1) := by decide +kernel
theorem d_X6_poison_46 : decode (bc mX6_poison) 46 = .ok (.iload_n 3, 1) := by decide +kernel
theorem d_X6_poison_47 : decode (bc mX6_poison) 47 = .ok (.ireturn, 1) := by decide +kernel
theorem d_X6_ask_0 : decode (bc mX6_ask) 0 = .ok (.iload_n 1, 1) := by decide +kernel
theorem d_X6_ask_1 : decode (bc mX6_ask) 1 = .ok (.invokestatic 234, 3) := by decide +kernel
theorem d_X6_ask_4 : decode (bc mX6_ask) 4 = .ok (.ifCond .ne 5, 3) := by decide +kernel
theorem d_X6_ask_7 : decode (bc mX6_ask) 7 = .ok (.iconst (-1), 1) := by decide +kernel
theorem d_X6_ask_8 : decode (bc mX6_ask) 8 = .ok (.ireturn, 1) := by decide +kernel
theorem d_X6_ask_9 : decode (bc mX6_ask) 9 = .ok (.aload_n 0, 1) := by decide +kernel
theorem d_X6_ask_10 : decode (bc mX6_ask) 10 = .ok (.invokevirtual 225, 3) := by decide +kernel
theorem d_X6_ask_13 : decode (bc mX6_ask) 13 = .ok (.aload_n 0, 1) := by decide +kernel
theorem d_X6_ask_14 : decode (bc mX6_ask) 14 = .ok (.aload_n 0, 1) := by decide +kernel
theorem d_X6_ask_15 : decode (bc mX6_ask) 15 = .ok (.getfield 7, 3) := by decide +kernel
theorem d_X6_ask_18 : decode (bc mX6_ask) 18 = .ok (.iload_n 1, 1) := by decide +kernel
theorem d_X6_ask_19 : decode (bc mX6_ask) 19 = .ok (.invokevirtual 237, 3) := by decide +kernel
theorem d_X6_ask_22 : decode (bc mX6_ask) 22 = .ok (.ireturn, 1) := by decide +kernel
theorem d_X6_forget_0 : decode (bc mX6_forget) 0 = .ok (.iload_n 1, 1) := by decide +kernel
theorem d_X6_forget_1 : decode (bc mX6_forget) 1 = .ok (.i2l, 1) := by decide +kernel
theorem d_X6_forget_2 : decode (bc mX6_forget) 2 = .ok (.lconst 0, 1) := by decide +kernel
theorem d_X6_forget_3 : decode (bc mX6_forget) 3 = .ok (.aload_n 0, 1) := by decide +kernel
theorem d_X6_forget_4 : decode (bc mX6_forget) 4 = .ok (.getfield 7, 3) := by decide +kernel
theorem d_X6_forget_7 : decode (bc mX6_forget) 7 = .ok (.sipush 814, 3) := by decide +kernel
theorem d_X6_forget_10 : decode (bc mX6_forget) 10 = .ok (.iaload, 1) := by decide +kernel
theorem d_X6_forget_11 : decode (bc mX6_forget) 11 = .ok (.iconst 1, 1) := by decide +kernel
theorem d_X6_forget_12 : decode (bc mX6_forget) 12 = .ok (.isub, 1) := by decide +kernel
theorem d_X6_forget_13 : decode (bc mX6_forget) 13 = .ok (.i2l, 1) := by decide +kernel
theorem d_X6_forget_14 : decode (bc mX6_forget) 14 = .ok (.invokestatic 91, 3) := by decide +kernel
theorem d_X6_forget_17 : decode (bc mX6_forget) 17 = .ok (.ifCond .ne 5, 3) := by decide +kernel
theorem d_X6_forget_20 : decode (bc mX6_forget) 20 = .ok (.iconst (-1), 1) := by decide +kernel
theorem d_X6_forget_21 : decode (bc mX6_forget) 21 = .ok (.ireturn, 1) := by decide +kernel
theorem d_X6_forget_22 : decode (bc mX6_forget) 22 = .ok (.aload_n 0, 1) := by decide +kernel
theorem d_X6_forget_23 : decode (bc mX6_forget) 23 = .ok (.invokevirtual 225, 3) := by decide +kernel
theorem d_X6_forget_26 : decode (bc mX6_forget) 26 = .ok (.aload_n 0, 1) := by decide +kernel
theorem d_X6_forget_27 : decode (bc mX6_forget) 27 = .ok (.getfield 7, 3) := by decide +kernel
theorem d_X6_forget_30 : decode (bc mX6_forget) 30 = .ok (.iload_n 1, 1) := by decide +kernel
theorem d_X6_forget_31 : decode (bc mX6_forget) 31 = .ok (.invokestatic 240, 3) := by decide +kernel
theorem d_X6_forget_34 : decode (bc mX6_forget) 34 = .ok (.aload_n 0, 1) := by decide +kernel
theorem d_X6_forget_35 : decode (bc mX6_forget) 35 = .ok (.getfield 7, 3) := by decide +kernel
theorem d_X6_forget_38 : decode (bc mX6_forget) 38 = .ok (.sipush 814, 3) := by decide +kernel
theorem d_X6_forget_41 : decode (bc mX6_forget) 41 = .ok (.iaload, 1) := by decide +kernel
theorem d_X6_forget_42 : decode (bc mX6_forget) 42 = .ok (.ireturn, 1) := by decide +kernel
theorem d_X6_recipe_0 : decode (bc mX6_recipe) 0 = .ok (.iload_n 1, 1) := by decide +kernel
theorem d_X6_recipe_1 : decode (bc mX6_recipe) 1 = .ok (.invokestatic 234, 3) := by decide +kernel
theorem d_X6_recipe_4 : decode (bc mX6_recipe) 4 = .ok (.ifCond .ne 5, 3) := by decide +kernel
theorem d_X6_recipe_7 : decode (bc mX6_recipe) 7 = .ok (.iconst (-1), 1) := by decide +kernel
theorem d_X6_recipe_8 : decode (bc mX6_recipe) 8 = .ok (.ireturn, 1) := by decide +kernel
theorem d_X6_recipe_9 : decode (bc mX6_recipe) 9 = .ok (.aload_n 0, 1) := by decide +kernel
theorem d_X6_recipe_10 : decode (bc mX6_recipe) 10 = .ok (.invokevirtual 144, 3) := by decide +kernel
theorem d_X6_recipe_13 : decode (bc mX6_recipe) 13 = .ok (.bipush (-6), 2) := by decide +kernel
theorem d_X6_recipe_15 : decode (bc mX6_recipe) 15 = .ok (.if_icmp .eq 6, 3) := by decide +kernel
theorem d_X6_recipe_18 : decode (bc mX6_recipe) 18 = .ok (.bipush (-3), 2) := by decide +kernel
theorem d_X6_recipe_20 : decode (bc mX6_recipe) 20 = .ok (.ireturn, 1) := by decide +kernel
theorem d_X6_recipe_21 : decode (bc mX6_recipe) 21 = .ok (.iconst 0, 1) := by decide +kernel
theorem d_X6_recipe_22 : decode (bc mX6_recipe) 22 = .ok (.istore_n 2, 1) := by decide +kernel
theorem d_X6_recipe_23 : decode (bc mX6_recipe) 23 = .ok (.iconst 0, 1) := by decide +kernel
theorem d_X6_recipe_24 : decode (bc mX6_recipe) 24 = .ok (.istore_n 3, 1) := by decide +kernel
theorem d_X6_recipe_25 : decode (bc mX6_recipe) 25 = .ok (.iload_n 3, 1) := by decide +kernel
theorem d_X6_recipe_26 : decode (bc mX6_recipe) 26 = .ok (.aload_n 0, 1) := by decide +kernel
theorem d_X6_recipe_27 : decode (bc mX6_recipe) 27 = .ok (.getfield 104, 3) := by decide +kernel
theorem d_X6_recipe_30 : decode (bc mX6_recipe) 30 = .ok (.if_icmp .ge 51, 3) := by decide +kernel
theorem d_X6_recipe_33 : decode (bc mX6_recipe) 33 = .ok (.aload_n 0, 1) := by decide +kernel
theorem d_X6_recipe_34 : decode (bc mX6_recipe) 34 = .ok (.getfield 29, 3) := by decide +kernel
theorem d_X6_recipe_37 : decode (bc mX6_recipe) 37 = .ok (.iload_n 3, 1) := by decide +kernel
theorem d_X6_recipe_38 : decode (bc mX6_recipe) 38 = .ok (.iaload, 1) := by decide +kernel
theorem d_X6_recipe_39 : decode (bc mX6_recipe) 39 = .ok (.iconst 1, 1) := by decide +kernel
theorem d_X6_recipe_40 : decode (bc mX6_recipe) 40 = .ok (.if_icmp .ne 16, 3) := by decide +kernel
theorem d_X6_recipe_43 : decode (bc mX6_recipe) 43 = .ok (.aload_n 0, 1) := by decide +kernel
theorem d_X6_recipe_44 : decode (bc mX6_recipe) 44 = .ok (.getfield 32, 3) := by decide +kernel
theorem d_X6_recipe_47 : decode (bc mX6_recipe) 47 = .ok (.iload_n 3, 1) := by decide +kernel
theorem d_X6_recipe_48 : decode (bc mX6_recipe) 48 = .ok (.iaload, 1) := by decide +kernel
theorem d_X6_recipe_49 : decode (bc mX6_recipe) 49 = .ok (.iload_n 1, 1) := by decide +kernel
theorem d_X6_recipe_50 : decode (bc mX6_recipe) 50 = .ok (.if_icmp .lt 6, 3) := by decide +kernel
theorem d_X6_recipe_53 : decode (bc mX6_recipe) 53 = .ok (.bipush (-5), 2) := by decide +kernel
theorem d_X6_recipe_55 : decode (bc mX6_recipe) 55 = .ok (.ireturn, 1) := by decide +kernel
theorem d_X6_recipe_56 : decode (bc mX6_recipe) 56 = .ok (.iload_n 2, 1) := by decide +kernel
theorem d_X6_recipe_57 : decode (bc mX6_recipe) 57 = .ok (.aload_n 0, 1) := by decide +kernel
theorem d_X6_recipe_58 : decode (bc mX6_recipe) 58 = .ok (.getfield 29, 3) := by decide +kernel
theorem d_X6_recipe_61 : decode (bc mX6_recipe) 61 = .ok (.iload_n 3, 1) := by decide +kernel
theorem d_X6_recipe_62 : decode (bc mX6_recipe) 62 = .ok (.iaload, 1) := by decide +kernel
theorem d_X6_recipe_63 : decode (bc mX6_recipe) 63 = .ok (.bipush 7, 2) := by decide +kernel
theorem d_X6_recipe_65 : decode (bc mX6_recipe) 65 = .ok (.if_icmp .ne 7, 3) := by decide +kernel
theorem d_X6_recipe_68 : decode (bc mX6_recipe) 68 = .ok (.iconst 0, 1) := by decide +kernel
theorem d_X6_recipe_69 : decode (bc mX6_recipe) 69 = .ok (.goto 4, 3) := by decide +kernel
theorem d_X6_recipe_72 : decode (bc mX6_recipe) 72 = .ok (.iconst 1, 1) := by decide +kernel
theorem d_X6_recipe_73 : decode (bc mX6_recipe) 73 = .ok (.iadd, 1) := by decide +kernel
theorem d_X6_recipe_74 : decode (bc mX6_recipe) 74 = .ok (.istore_n 2, 1) := by decide +kernel
theorem d_X6_recipe_75 : decode (bc mX6_recipe) 75 = .ok (.iinc 3 1, 3) := by decide +kernel
theorem d_X6_recipe_78 : decode (bc mX6_recipe) 78 = .ok (.goto (-53), 3) := by decide +kernel
theorem d_X6_recipe_81 : decode (bc mX6_recipe) 81 = .ok (.aload_n 0, 1) := by decide +kernel
theorem d_X6_recipe_82 : decode (bc mX6_recipe) 82 = .ok (.invokevirtual 225, 3) := by decide +kernel
theorem d_X6_recipe_85 : decode (bc mX6_recipe) 85 = .ok (.aload_n 0, 1) := by decide +kernel
theorem d_X6_recipe_86 : decode (bc mX6_recipe) 86 = .ok (.iconst 0, 1) := by decide +kernel
theorem d_X6_recipe_87 : decode (bc mX6_recipe) 87 = .ok (.putfield 101, 3) := by decide +kernel
theorem d_X6_recipe_90 : decode (bc mX6_recipe) 90 = .ok (.aload_n 0, 1) := by decide +kernel
theorem d_X6_recipe_91 : decode (bc mX6_recipe) 91 = .ok (.getfield 7, 3) := by decide +kernel
theorem d_X6_recipe_94 : decode (bc mX6_recipe) 94 = .ok (.bipush 26, 2) := by decide +kernel
theorem d_X6_recipe_96 : decode (bc mX6_recipe) 96 = .ok (.iload_n 1, 1) := by decide +kernel
theorem d_X6_recipe_97 : decode (bc mX6_recipe) 97 = .ok (.iadd, 1) := by decide +kernel
theorem d_X6_recipe_98 : decode (bc mX6_recipe) 98 = .ok (.aload_n 0, 1) := by decide +kernel
theorem d_X6_recipe_99 : decode (bc mX6_recipe) 99 = .ok (.getfield 104, 3) := by decide +kernel
theorem d_X6_recipe_102 : decode (bc mX6_recipe) 102 = .ok (.iastore, 1) := by decide +kernel
theorem d_X6_recipe_103 : decode (bc mX6_recipe) 103 = .ok (.iconst 0, 1) := by decide +kernel
theorem d_X6_recipe_104 : decode (bc mX6_recipe) 104 = .ok (.istore_n 3, 1) := by decide +kernel
theorem d_X6_recipe_105 : decode (bc mX6_recipe) 105 = .ok (.iload_n 3, 1) := by decide +kernel
theorem d_X6_recipe_106 : decode (bc mX6_recipe) 106 = .ok (.aload_n 0, 1) := by decide +kernel
theorem d_X6_recipe_107 : decode (bc mX6_recipe) 107 = .ok (.getfield 104, 3) := by decide +kernel
theorem d_X6_recipe_110 : decode (bc mX6_recipe) 110 = .ok (.if_icmp .ge 50, 3) := by decide +kernel
theorem d_X6_recipe_113 : decode (bc mX6_recipe) 113 = .ok (.aload_n 0, 1) := by decide +kernel
theorem d_X6_recipe_114 : decode (bc mX6_recipe) 114 = .ok (.getfield 7, 3) := by decide +kernel
theorem d_X6_recipe_117 : decode (bc mX6_recipe) 117 = .ok (.bipush 32, 2) := by decide +kernel
theorem d_X6_recipe_119 : decode (bc mX6_recipe) 119 = .ok (.bipush 64, 2) := by decide +kernel
theorem d_X6_recipe_121 : decode (bc mX6_recipe) 121 = .ok (.iload_n 1, 1) := by decide +kernel
theorem d_X6_recipe_122 : decode (bc mX6_recipe) 122 = .ok (.imul, 1) := by decide +kernel
theorem d_X6_recipe_123 : decode (bc mX6_recipe) 123 = .ok (.iadd, 1) := by decide +kernel
theorem d_X6_recipe_124 : decode (bc mX6_recipe) 124 = .ok (.iload_n 3, 1) := by decide +kernel
theorem d_X6_recipe_125 : decode (bc mX6_recipe) 125 = .ok (.iadd, 1) := by decide +kernel
theorem d_X6_recipe_126 : decode (bc mX6_recipe) 126 = .ok (.aload_n 0, 1) := by decide +kernel
theorem d_X6_recipe_127 : decode (bc mX6_recipe) 127 = .ok (.getfield 29, 3) := by decide +kernel
theorem d_X6_recipe_130 : decode (bc mX6_recipe) 130 = .ok (.iload_n 3, 1) := by decide +kernel
theorem d_X6_recipe_131 : decode (bc mX6_recipe) 131 = .ok (.iaload, 1) := by decide +kernel
theorem d_X6_recipe_132 : decode (bc mX6_recipe) 132 = .ok (.iastore, 1) := by decide +kernel
theorem d_X6_recipe_133 : decode (bc mX6_recipe) 133 = .ok (.aload_n 0, 1) := by decide +kernel
theorem d_X6_recipe_134 : decode (bc mX6_recipe) 134 = .ok (.getfield 7, 3) := by decide +kernel
theorem d_X6_recipe_137 : decode (bc mX6_recipe) 137 = .ok (.sipush 416, 3) := by decide +kernel
theorem d_X6_recipe_140 : decode (bc mX6_recipe) 140 = .ok (.bipush 64, 2) := by decide +kernel
theorem d_X6_recipe_142 : decode (bc mX6_recipe) 142 = .ok (.iload_n 1, 1) := by decide +kernel
theorem d_X6_recipe_143 : decode (bc mX6_recipe) 143 = .ok (.imul, 1) := by decide +kernel
theorem d_X6_recipe_144 : decode (bc mX6_recipe) 144 = .ok (.iadd, 1) := by decide +kernel
theorem d_X6_recipe_145 : decode (bc mX6_recipe) 145 = .ok (.iload_n 3, 1) := by decide +kernel
theorem d_X6_recipe_146 : decode (bc mX6_recipe) 146 = .ok (.iadd, 1) := by decide +kernel
theorem d_X6_recipe_147 : decode (bc mX6_recipe) 147 = .ok (.aload_n 0, 1) := by decide +kernel
theorem d_X6_recipe_148 : decode (bc mX6_recipe) 148 = .ok (.getfield 32, 3) := by decide +kernel
theorem d_X6_recipe_151 : decode (bc mX6_recipe) 151 = .ok (.iload_n 3, 1) := by decide +kernel
theorem d_X6_recipe_152 : decode (bc mX6_recipe) 152 = .ok (.iaload, 1) := by decide +kernel
theorem d_X6_recipe_153 : decode (bc mX6_recipe) 153 = .ok (.iastore, 1) := by decide +kernel
theorem d_X6_recipe_154 : decode (bc mX6_recipe) 154 = .ok (.iinc 3 1, 3) := by decide +kernel
theorem d_X6_recipe_157 : decode (bc mX6_recipe) 157 = .ok (.goto (-52), 3) := by decide +kernel
theorem d_X6_recipe_160 : decode (bc mX6_recipe) 160 = .ok (.aload_n 0, 1) := by decide +kernel
theorem d_X6_recipe_161 : decode (bc mX6_recipe) 161 = .ok (.getfield 7, 3) := by decide +kernel
theorem d_X6_recipe_164 : decode (bc mX6_recipe) 164 = .ok (.sipush 814, 3) := by decide +kernel
theorem d_X6_recipe_167 : decode (bc mX6_recipe) 167 = .ok (.iaload, 1) := by decide +kernel
theorem d_X6_recipe_168 : decode (bc mX6_recipe) 168 = .ok (.iconst 1, 1) := by decide +kernel
theorem d_X6_recipe_169 : decode (bc mX6_recipe) 169 = .ok (.isub, 1) := by decide +kernel
theorem d_X6_recipe_170 : decode (bc mX6_recipe) 170 = .ok (.istore_n 3, 1) := by decide +kernel
theorem d_X6_recipe_171 : decode (bc mX6_recipe) 171 = .ok (.iload_n 3, 1) := by decide +kernel
theorem d_X6_recipe_172 : decode (bc mX6_recipe) 172 = .ok (.ifCond .lt 32, 3) := by decide +kernel
theorem d_X6_recipe_175 : decode (bc mX6_recipe) 175 = .ok (.aload_n 0, 1) := by decide +kernel
theorem d_X6_recipe_176 : decode (bc mX6_recipe) 176 = .ok (.getfield 7, 3) := by decide +kernel
theorem d_X6_recipe_179 : decode (bc mX6_recipe) 179 = .ok (.iload_n 3, 1) := by decide +kernel
theorem d_X6_recipe_180 : decode (bc mX6_recipe) 180 = .ok (.invokestatic 147, 3) := by decide +kernel
theorem d_X6_recipe_183 : decode (bc mX6_recipe) 183 = .ok (.iconst 1, 1) := by decide +kernel
theorem d_X6_recipe_184 : decode (bc mX6_recipe) 184 = .ok (.iadd, 1) := by decide +kernel
theorem d_X6_recipe_185 : decode (bc mX6_recipe) 185 = .ok (.iaload, 1) := by decide +kernel
theorem d_X6_recipe_186 : decode (bc mX6_recipe) 186 = .ok (.iload_n 1, 1) := by decide +kernel
theorem d_X6_recipe_187 : decode (bc mX6_recipe) 187 = .ok (.if_icmp .ne 11, 3) := by decide +kernel
theorem d_X6_recipe_190 : decode (bc mX6_recipe) 190 = .ok (.aload_n 0, 1) := by decide +kernel
theorem d_X6_recipe_191 : decode (bc mX6_recipe) 191 = .ok (.getfield 7, 3) := by decide +kernel
theorem d_X6_recipe_194 : decode (bc mX6_recipe) 194 = .ok (.iload_n 3, 1) := by decide +kernel
theorem d_X6_recipe_195 : decode (bc mX6_recipe) 195 = .ok (.invokestatic 240, 3) := by decide +kernel
theorem d_X6_recipe_198 : decode (bc mX6_recipe) 198 = .ok (.iinc 3 (-1), 3) := by decide +kernel
theorem d_X6_recipe_201 : decode (bc mX6_recipe) 201 = .ok (.goto (-30), 3) := by decide +kernel
theorem d_X6_recipe_204 : decode (bc mX6_recipe) 204 = .ok (.iload_n 2, 1) := by decide +kernel
theorem d_X6_recipe_205 : decode (bc mX6_recipe) 205 = .ok (.ireturn, 1) := by decide +kernel
theorem d_X6_namedBy_0 : decode (bc mX6_namedBy) 0 = .ok (.iconst 0, 1) := by decide +kernel
theorem d_X6_namedBy_1 : decode (bc mX6_namedBy) 1 = .ok (.istore_n 3, 1) := by decide +kernel
theorem d_X6_namedBy_2 : decode (bc mX6_namedBy) 2 = .ok (.iconst 0, 1) := by decide +kernel
theorem d_X6_namedBy_3 : decode (bc mX6_namedBy) 3 = .ok (.istore 4, 2) := by decide +kernel
theorem d_X6_namedBy_5 : decode (bc mX6_namedBy) 5 = .ok (.iload 4, 2) := by decide +kernel
theorem d_X6_namedBy_7 : decode (bc mX6_namedBy) 7 = .ok (.aload_n 0, 1) := by decide +kernel
theorem d_X6_namedBy_8 : decode (bc mX6_namedBy) 8 = .ok (.bipush 26, 2) := by decide +kernel
theorem d_X6_namedBy_10 : decode (bc mX6_namedBy) 10 = .ok (.iload_n 1, 1) := by decide +kernel
theorem d_X6_namedBy_11 : decode (bc mX6_namedBy) 11 = .ok (.iadd, 1) := by decide +kernel
theorem d_X6_namedBy_12 : decode (bc mX6_namedBy) 12 = .ok (.iaload, 1) := by decide +kernel
theorem d_X6_namedBy_13 : decode (bc mX6_namedBy) 13 = .ok (.if_icmp .ge 47, 3) := by decide +kernel
theorem d_X6_namedBy_16 : decode (bc mX6_namedBy) 16 = .ok (.iload_n 3, 1) := by decide +kernel
theorem d_X6_namedBy_17 : decode (bc mX6_namedBy) 17 = .ok (.aload_n 0, 1) := by decide +kernel
theorem d_X6_namedBy_18 : decode (bc mX6_namedBy) 18 = .ok (.bipush 32, 2) := by decide +kernel
theorem d_X6_namedBy_20 : decode (bc mX6_namedBy) 20 = .ok (.bipush 64, 2) := by decide +kernel
theorem d_X6_namedBy_22 : decode (bc mX6_namedBy) 22 = .ok (.iload_n 1, 1) := by decide +kernel
theorem d_X6_namedBy_23 : decode (bc mX6_namedBy) 23 = .ok (.imul, 1) := by decide +kernel
theorem d_X6_namedBy_24 : decode (bc mX6_namedBy) 24 = .ok (.iadd, 1) := by decide +kernel
theorem d_X6_namedBy_25 : decode (bc mX6_namedBy) 25 = .ok (.iload 4, 2) := by decide +kernel
theorem d_X6_namedBy_27 : decode (bc mX6_namedBy) 27 = .ok (.iadd, 1) := by decide +kernel
theorem d_X6_namedBy_28 : decode (bc mX6_namedBy) 28 = .ok (.iaload, 1) := by decide +kernel
theorem d_X6_namedBy_29 : decode (bc mX6_namedBy) 29 = .ok (.iload_n 2, 1) := by decide +kernel
theorem d_X6_namedBy_30 : decode (bc mX6_namedBy) 30 = .ok (.if_icmp .ne 21, 3) := by decide +kernel
theorem d_X6_namedBy_33 : decode (bc mX6_namedBy) 33 = .ok (.iconst 1, 1) := by decide +kernel
theorem d_X6_namedBy_34 : decode (bc mX6_namedBy) 34 = .ok (.aload_n 0, 1) := by decide +kernel
theorem d_X6_namedBy_35 : decode (bc mX6_namedBy) 35 = .ok (.sipush 416, 3) := by decide +kernel
theorem d_X6_namedBy_38 : decode (bc mX6_namedBy) 38 = .ok (.bipush 64, 2) := by decide +kernel
theorem d_X6_namedBy_40 : decode (bc mX6_namedBy) 40 = .ok (.iload_n 1, 1) := by decide +kernel
theorem d_X6_namedBy_41 : decode (bc mX6_namedBy) 41 = .ok (.imul, 1) := by decide +kernel
theorem d_X6_namedBy_42 : decode (bc mX6_namedBy) 42 = .ok (.iadd, 1) := by decide +kernel
theorem d_X6_namedBy_43 : decode (bc mX6_namedBy) 43 = .ok (.iload 4, 2) := by decide +kernel
theorem d_X6_namedBy_45 : decode (bc mX6_namedBy) 45 = .ok (.iadd, 1) := by decide +kernel
theorem d_X6_namedBy_46 : decode (bc mX6_namedBy) 46 = .ok (.iaload, 1) := by decide +kernel
theorem d_X6_namedBy_47 : decode (bc mX6_namedBy) 47 = .ok (.ishl, 1) := by decide +kernel
theorem d_X6_namedBy_48 : decode (bc mX6_namedBy) 48 = .ok (.goto 4, 3) := by decide +kernel
theorem d_X6_namedBy_51 : decode (bc mX6_namedBy) 51 = .ok (.iconst 0, 1) := by decide +kernel
theorem d_X6_namedBy_52 : decode (bc mX6_namedBy) 52 = .ok (.ior, 1) := by decide +kernel
theorem d_X6_namedBy_53 : decode (bc mX6_namedBy) 53 = .ok (.istore_n 3, 1) := by decide +kernel
theorem d_X6_namedBy_54 : decode (bc mX6_namedBy) 54 = .ok (.iinc 4 1, 3) := by decide +kernel
theorem d_X6_namedBy_57 : decode (bc mX6_namedBy) 57 = .ok (.goto (-52), 3) := by decide +kernel
theorem d_X6_namedBy_60 : decode (bc mX6_namedBy) 60 = .ok (.iload_n 3, 1) := by decide +kernel
theorem d_X6_namedBy_61 : decode (bc mX6_namedBy) 61 = .ok (.ireturn, 1) := by decide +kernel
theorem d_X6_ofShelf_0 : decode (bc mX6_ofShelf) 0 = .ok (.iload_n 1, 1) := by decide +kernel
theorem d_X6_ofShelf_1 : decode (bc mX6_ofShelf) 1 = .ok (.invokestatic 228, 3) := by decide +kernel
theorem d_X6_ofShelf_4 : decode (bc mX6_ofShelf) 4 = .ok (.ifCond .ne 5, 3) := by decide +kernel
theorem d_X6_ofShelf_7 : decode (bc mX6_ofShelf) 7 = .ok (.iconst (-1), 1) := by decide +kernel
theorem d_X6_ofShelf_8 : decode (bc mX6_ofShelf) 8 = .ok (.ireturn, 1) := by decide +kernel
theorem d_X6_ofShelf_9 : decode (bc mX6_ofShelf) 9 = .ok (.iload_n 2, 1) := by decide +kernel
theorem d_X6_ofShelf_10 : decode (bc mX6_ofShelf) 10 = .ok (.i2l, 1) := by decide +kernel
theorem d_X6_ofShelf_11 : decode (bc mX6_ofShelf) 11 = .ok (.lconst 0, 1) := by decide +kernel
theorem d_X6_ofShelf_12 : decode (bc mX6_ofShelf) 12 = .ok (.ldc2_w 243, 3) := by decide +kernel
theorem d_X6_ofShelf_15 : decode (bc mX6_ofShelf) 15 = .ok (.invokestatic 91, 3) := by decide +kernel
theorem d_X6_ofShelf_18 : decode (bc mX6_ofShelf) 18 = .ok (.ifCond .ne 6, 3) := by decide +kernel
theorem d_X6_ofShelf_21 : decode (bc mX6_ofShelf) 21 = .ok (.bipush (-2), 2) := by decide +kernel
theorem d_X6_ofShelf_23 : decode (bc mX6_ofShelf) 23 = .ok (.ireturn, 1) := by decide +kernel
theorem d_X6_ofShelf_24 : decode (bc mX6_ofShelf) 24 = .ok (.iconst 0, 1) := by decide +kernel
theorem d_X6_ofShelf_25 : decode (bc mX6_ofShelf) 25 = .ok (.istore_n 3, 1) := by decide +kernel
theorem d_X6_ofShelf_26 : decode (bc mX6_ofShelf) 26 = .ok (.iconst 0, 1) := by decide +kernel
theorem d_X6_ofShelf_27 : decode (bc mX6_ofShelf) 27 = .ok (.istore 4, 2) := by decide +kernel
theorem d_X6_ofShelf_29 : decode (bc mX6_ofShelf) 29 = .ok (.iload 4, 2) := by decide +kernel
theorem d_X6_ofShelf_31 : decode (bc mX6_ofShelf) 31 = .ok (.bipush 6, 2) := by decide +kernel
theorem d_X6_ofShelf_33 : decode (bc mX6_ofShelf) 33 = .ok (.if_icmp .ge 29, 3) := by decide +kernel
theorem d_X6_ofShelf_36 : decode (bc mX6_ofShelf) 36 = .ok (.iload_n 3, 1) := by decide +kernel
theorem d_X6_ofShelf_37 : decode (bc mX6_ofShelf) 37 = .ok (.aload_n 0, 1) := by decide +kernel
theorem d_X6_ofShelf_38 : decode (bc mX6_ofShelf) 38 = .ok (.getfield 7, 3) := by decide +kernel
theorem d_X6_ofShelf_41 : decode (bc mX6_ofShelf) 41 = .ok (.iload 4, 2) := by decide +kernel
end
section
theorem d_X6_ofShelf_43 : decode (bc mX6_ofShelf) 43 = .ok (.iconst 0, 1) := by decide +kernel
theorem d_X6_ofShelf_44 : decode (bc mX6_ofShelf) 44 = .ok (.invokestatic 245, 3) := by decide +kernel
theorem d_X6_ofShelf_47 : decode (bc mX6_ofShelf) 47 = .ok (.iload_n 1, 1) := by decide +kernel
theorem d_X6_ofShelf_48 : decode (bc mX6_ofShelf) 48 = .ok (.ishr, 1) := by decide +kernel
theorem d_X6_ofShelf_49 : decode (bc mX6_ofShelf) 49 = .ok (.iconst 1, 1) := by decide +kernel
theorem d_X6_ofShelf_50 : decode (bc mX6_ofShelf) 50 = .ok (.iand, 1) := by decide +kernel
theorem d_X6_ofShelf_51 : decode (bc mX6_ofShelf) 51 = .ok (.iload 4, 2) := by decide +kernel
theorem d_X6_ofShelf_53 : decode (bc mX6_ofShelf) 53 = .ok (.ishl, 1) := by decide +kernel
theorem d_X6_ofShelf_54 : decode (bc mX6_ofShelf) 54 = .ok (.ior, 1) := by decide +kernel
theorem d_X6_ofShelf_55 : decode (bc mX6_ofShelf) 55 = .ok (.istore_n 3, 1) := by decide +kernel
theorem d_X6_ofShelf_56 : decode (bc mX6_ofShelf) 56 = .ok (.iinc 4 1, 3) := by decide +kernel
theorem d_X6_ofShelf_59 : decode (bc mX6_ofShelf) 59 = .ok (.goto (-30), 3) := by decide +kernel
theorem d_X6_ofShelf_62 : decode (bc mX6_ofShelf) 62 = .ok (.iload_n 2, 1) := by decide +kernel
theorem d_X6_ofShelf_63 : decode (bc mX6_ofShelf) 63 = .ok (.ifCond .ne 14, 3) := by decide +kernel
theorem d_X6_ofShelf_66 : decode (bc mX6_ofShelf) 66 = .ok (.aload_n 0, 1) := by decide +kernel
theorem d_X6_ofShelf_67 : decode (bc mX6_ofShelf) 67 = .ok (.getfield 7, 3) := by decide +kernel
theorem d_X6_ofShelf_70 : decode (bc mX6_ofShelf) 70 = .ok (.iconst 2, 1) := by decide +kernel
theorem d_X6_ofShelf_71 : decode (bc mX6_ofShelf) 71 = .ok (.iload_n 1, 1) := by decide +kernel
theorem d_X6_ofShelf_72 : decode (bc mX6_ofShelf) 72 = .ok (.iadd, 1) := by decide +kernel
theorem d_X6_ofShelf_73 : decode (bc mX6_ofShelf) 73 = .ok (.iaload, 1) := by decide +kernel
theorem d_X6_ofShelf_74 : decode (bc mX6_ofShelf) 74 = .ok (.goto 21, 3) := by decide +kernel
theorem d_X6_ofShelf_77 : decode (bc mX6_ofShelf) 77 = .ok (.iload_n 2, 1) := by decide +kernel
theorem d_X6_ofShelf_78 : decode (bc mX6_ofShelf) 78 = .ok (.iconst 1, 1) := by decide +kernel
theorem d_X6_ofShelf_79 : decode (bc mX6_ofShelf) 79 = .ok (.if_icmp .ne 15, 3) := by decide +kernel
theorem d_X6_ofShelf_82 : decode (bc mX6_ofShelf) 82 = .ok (.aload_n 0, 1) := by decide +kernel
theorem d_X6_ofShelf_83 : decode (bc mX6_ofShelf) 83 = .ok (.getfield 7, 3) := by decide +kernel
theorem d_X6_ofShelf_86 : decode (bc mX6_ofShelf) 86 = .ok (.bipush 14, 2) := by decide +kernel
theorem d_X6_ofShelf_88 : decode (bc mX6_ofShelf) 88 = .ok (.iload_n 1, 1) := by decide +kernel
theorem d_X6_ofShelf_89 : decode (bc mX6_ofShelf) 89 = .ok (.iadd, 1) := by decide +kernel
theorem d_X6_ofShelf_90 : decode (bc mX6_ofShelf) 90 = .ok (.iaload, 1) := by decide +kernel
theorem d_X6_ofShelf_91 : decode (bc mX6_ofShelf) 91 = .ok (.goto 4, 3) := by decide +kernel
theorem d_X6_ofShelf_94 : decode (bc mX6_ofShelf) 94 = .ok (.iload_n 3, 1) := by decide +kernel
theorem d_X6_ofShelf_95 : decode (bc mX6_ofShelf) 95 = .ok (.ireturn, 1) := by decide +kernel
theorem d_X6_ofLoaf_0 : decode (bc mX6_ofLoaf) 0 = .ok (.iload_n 1, 1) := by decide +kernel
theorem d_X6_ofLoaf_1 : decode (bc mX6_ofLoaf) 1 = .ok (.invokestatic 234, 3) := by decide +kernel
theorem d_X6_ofLoaf_4 : decode (bc mX6_ofLoaf) 4 = .ok (.ifCond .ne 5, 3) := by decide +kernel
theorem d_X6_ofLoaf_7 : decode (bc mX6_ofLoaf) 7 = .ok (.iconst (-1), 1) := by decide +kernel
theorem d_X6_ofLoaf_8 : decode (bc mX6_ofLoaf) 8 = .ok (.ireturn, 1) := by decide +kernel
theorem d_X6_ofLoaf_9 : decode (bc mX6_ofLoaf) 9 = .ok (.iload_n 2, 1) := by decide +kernel
theorem d_X6_ofLoaf_10 : decode (bc mX6_ofLoaf) 10 = .ok (.tableswitch 148 0 5 #[38, 56, 66, 76, 87, 98], 38) := by decide +kernel
theorem d_X6_ofLoaf_48 : decode (bc mX6_ofLoaf) 48 = .ok (.aload_n 0, 1) := by decide +kernel
theorem d_X6_ofLoaf_49 : decode (bc mX6_ofLoaf) 49 = .ok (.getfield 7, 3) := by decide +kernel
theorem d_X6_ofLoaf_52 : decode (bc mX6_ofLoaf) 52 = .ok (.bipush 26, 2) := by decide +kernel
theorem d_X6_ofLoaf_54 : decode (bc mX6_ofLoaf) 54 = .ok (.iload_n 1, 1) := by decide +kernel
theorem d_X6_ofLoaf_55 : decode (bc mX6_ofLoaf) 55 = .ok (.iadd, 1) := by decide +kernel
theorem d_X6_ofLoaf_56 : decode (bc mX6_ofLoaf) 56 = .ok (.iaload, 1) := by decide +kernel
theorem d_X6_ofLoaf_57 : decode (bc mX6_ofLoaf) 57 = .ok (.ifCond .le 7, 3) := by decide +kernel
theorem d_X6_ofLoaf_60 : decode (bc mX6_ofLoaf) 60 = .ok (.iconst 1, 1) := by decide +kernel
theorem d_X6_ofLoaf_61 : decode (bc mX6_ofLoaf) 61 = .ok (.goto 4, 3) := by decide +kernel
theorem d_X6_ofLoaf_64 : decode (bc mX6_ofLoaf) 64 = .ok (.iconst 0, 1) := by decide +kernel
theorem d_X6_ofLoaf_65 : decode (bc mX6_ofLoaf) 65 = .ok (.ireturn, 1) := by decide +kernel
theorem d_X6_ofLoaf_66 : decode (bc mX6_ofLoaf) 66 = .ok (.aload_n 0, 1) := by decide +kernel
theorem d_X6_ofLoaf_67 : decode (bc mX6_ofLoaf) 67 = .ok (.getfield 7, 3) := by decide +kernel
theorem d_X6_ofLoaf_70 : decode (bc mX6_ofLoaf) 70 = .ok (.iload_n 1, 1) := by decide +kernel
theorem d_X6_ofLoaf_71 : decode (bc mX6_ofLoaf) 71 = .ok (.iconst 0, 1) := by decide +kernel
theorem d_X6_ofLoaf_72 : decode (bc mX6_ofLoaf) 72 = .ok (.invokestatic 245, 3) := by decide +kernel
theorem d_X6_ofLoaf_75 : decode (bc mX6_ofLoaf) 75 = .ok (.ireturn, 1) := by decide +kernel
theorem d_X6_ofLoaf_76 : decode (bc mX6_ofLoaf) 76 = .ok (.aload_n 0, 1) := by decide +kernel
theorem d_X6_ofLoaf_77 : decode (bc mX6_ofLoaf) 77 = .ok (.getfield 7, 3) := by decide +kernel
theorem d_X6_ofLoaf_80 : decode (bc mX6_ofLoaf) 80 = .ok (.iload_n 1, 1) := by decide +kernel
theorem d_X6_ofLoaf_81 : decode (bc mX6_ofLoaf) 81 = .ok (.iconst 1, 1) := by decide +kernel
theorem d_X6_ofLoaf_82 : decode (bc mX6_ofLoaf) 82 = .ok (.invokestatic 245, 3) := by decide +kernel
theorem d_X6_ofLoaf_85 : decode (bc mX6_ofLoaf) 85 = .ok (.ireturn, 1) := by decide +kernel
theorem d_X6_ofLoaf_86 : decode (bc mX6_ofLoaf) 86 = .ok (.aload_n 0, 1) := by decide +kernel
theorem d_X6_ofLoaf_87 : decode (bc mX6_ofLoaf) 87 = .ok (.getfield 7, 3) := by decide +kernel
theorem d_X6_ofLoaf_90 : decode (bc mX6_ofLoaf) 90 = .ok (.sipush 800, 3) := by decide +kernel
theorem d_X6_ofLoaf_93 : decode (bc mX6_ofLoaf) 93 = .ok (.iload_n 1, 1) := by decide +kernel
theorem d_X6_ofLoaf_94 : decode (bc mX6_ofLoaf) 94 = .ok (.iadd, 1) := by decide +kernel
theorem d_X6_ofLoaf_95 : decode (bc mX6_ofLoaf) 95 = .ok (.iaload, 1) := by decide +kernel
theorem d_X6_ofLoaf_96 : decode (bc mX6_ofLoaf) 96 = .ok (.ireturn, 1) := by decide +kernel
theorem d_X6_ofLoaf_97 : decode (bc mX6_ofLoaf) 97 = .ok (.aload_n 0, 1) := by decide +kernel
theorem d_X6_ofLoaf_98 : decode (bc mX6_ofLoaf) 98 = .ok (.getfield 7, 3) := by decide +kernel
theorem d_X6_ofLoaf_101 : decode (bc mX6_ofLoaf) 101 = .ok (.sipush 806, 3) := by decide +kernel
theorem d_X6_ofLoaf_104 : decode (bc mX6_ofLoaf) 104 = .ok (.iload_n 1, 1) := by decide +kernel
theorem d_X6_ofLoaf_105 : decode (bc mX6_ofLoaf) 105 = .ok (.iadd, 1) := by decide +kernel
theorem d_X6_ofLoaf_106 : decode (bc mX6_ofLoaf) 106 = .ok (.iaload, 1) := by decide +kernel
theorem d_X6_ofLoaf_107 : decode (bc mX6_ofLoaf) 107 = .ok (.ireturn, 1) := by decide +kernel
theorem d_X6_ofLoaf_108 : decode (bc mX6_ofLoaf) 108 = .ok (.iconst 0, 1) := by decide +kernel
theorem d_X6_ofLoaf_109 : decode (bc mX6_ofLoaf) 109 = .ok (.istore_n 3, 1) := by decide +kernel
theorem d_X6_ofLoaf_110 : decode (bc mX6_ofLoaf) 110 = .ok (.iconst 0, 1) := by decide +kernel
theorem d_X6_ofLoaf_111 : decode (bc mX6_ofLoaf) 111 = .ok (.istore 4, 2) := by decide +kernel
theorem d_X6_ofLoaf_113 : decode (bc mX6_ofLoaf) 113 = .ok (.iload 4, 2) := by decide +kernel
theorem d_X6_ofLoaf_115 : decode (bc mX6_ofLoaf) 115 = .ok (.aload_n 0, 1) := by decide +kernel
theorem d_X6_ofLoaf_116 : decode (bc mX6_ofLoaf) 116 = .ok (.getfield 7, 3) := by decide +kernel
theorem d_X6_ofLoaf_119 : decode (bc mX6_ofLoaf) 119 = .ok (.sipush 814, 3) := by decide +kernel
theorem d_X6_ofLoaf_122 : decode (bc mX6_ofLoaf) 122 = .ok (.iaload, 1) := by decide +kernel
theorem d_X6_ofLoaf_123 : decode (bc mX6_ofLoaf) 123 = .ok (.if_icmp .ge 33, 3) := by decide +kernel
theorem d_X6_ofLoaf_126 : decode (bc mX6_ofLoaf) 126 = .ok (.iload_n 3, 1) := by decide +kernel
theorem d_X6_ofLoaf_127 : decode (bc mX6_ofLoaf) 127 = .ok (.aload_n 0, 1) := by decide +kernel
theorem d_X6_ofLoaf_128 : decode (bc mX6_ofLoaf) 128 = .ok (.getfield 7, 3) := by decide +kernel
theorem d_X6_ofLoaf_131 : decode (bc mX6_ofLoaf) 131 = .ok (.iload 4, 2) := by decide +kernel
theorem d_X6_ofLoaf_133 : decode (bc mX6_ofLoaf) 133 = .ok (.invokestatic 147, 3) := by decide +kernel
theorem d_X6_ofLoaf_136 : decode (bc mX6_ofLoaf) 136 = .ok (.iconst 1, 1) := by decide +kernel
theorem d_X6_ofLoaf_137 : decode (bc mX6_ofLoaf) 137 = .ok (.iadd, 1) := by decide +kernel
theorem d_X6_ofLoaf_138 : decode (bc mX6_ofLoaf) 138 = .ok (.iaload, 1) := by decide +kernel
theorem d_X6_ofLoaf_139 : decode (bc mX6_ofLoaf) 139 = .ok (.iload_n 1, 1) := by decide +kernel
theorem d_X6_ofLoaf_140 : decode (bc mX6_ofLoaf) 140 = .ok (.if_icmp .ne 7, 3) := by decide +kernel
theorem d_X6_ofLoaf_143 : decode (bc mX6_ofLoaf) 143 = .ok (.iconst 1, 1) := by decide +kernel
theorem d_X6_ofLoaf_144 : decode (bc mX6_ofLoaf) 144 = .ok (.goto 4, 3) := by decide +kernel
theorem d_X6_ofLoaf_147 : decode (bc mX6_ofLoaf) 147 = .ok (.iconst 0, 1) := by decide +kernel
theorem d_X6_ofLoaf_148 : decode (bc mX6_ofLoaf) 148 = .ok (.iadd, 1) := by decide +kernel
theorem d_X6_ofLoaf_149 : decode (bc mX6_ofLoaf) 149 = .ok (.istore_n 3, 1) := by decide +kernel
theorem d_X6_ofLoaf_150 : decode (bc mX6_ofLoaf) 150 = .ok (.iinc 4 1, 3) := by decide +kernel
theorem d_X6_ofLoaf_153 : decode (bc mX6_ofLoaf) 153 = .ok (.goto (-40), 3) := by decide +kernel
theorem d_X6_ofLoaf_156 : decode (bc mX6_ofLoaf) 156 = .ok (.iload_n 3, 1) := by decide +kernel
theorem d_X6_ofLoaf_157 : decode (bc mX6_ofLoaf) 157 = .ok (.ireturn, 1) := by decide +kernel
theorem d_X6_ofLoaf_158 : decode (bc mX6_ofLoaf) 158 = .ok (.bipush (-2), 2) := by decide +kernel
theorem d_X6_ofLoaf_160 : decode (bc mX6_ofLoaf) 160 = .ok (.ireturn, 1) := by decide +kernel
theorem d_X6_ofMemory_0 : decode (bc mX6_ofMemory) 0 = .ok (.iload_n 1, 1) := by decide +kernel
theorem d_X6_ofMemory_1 : decode (bc mX6_ofMemory) 1 = .ok (.i2l, 1) := by decide +kernel
theorem d_X6_ofMemory_2 : decode (bc mX6_ofMemory) 2 = .ok (.lconst 0, 1) := by decide +kernel
theorem d_X6_ofMemory_3 : decode (bc mX6_ofMemory) 3 = .ok (.aload_n 0, 1) := by decide +kernel
theorem d_X6_ofMemory_4 : decode (bc mX6_ofMemory) 4 = .ok (.getfield 7, 3) := by decide +kernel
theorem d_X6_ofMemory_7 : decode (bc mX6_ofMemory) 7 = .ok (.sipush 814, 3) := by decide +kernel
theorem d_X6_ofMemory_10 : decode (bc mX6_ofMemory) 10 = .ok (.iaload, 1) := by decide +kernel
theorem d_X6_ofMemory_11 : decode (bc mX6_ofMemory) 11 = .ok (.iconst 1, 1) := by decide +kernel
theorem d_X6_ofMemory_12 : decode (bc mX6_ofMemory) 12 = .ok (.isub, 1) := by decide +kernel
theorem d_X6_ofMemory_13 : decode (bc mX6_ofMemory) 13 = .ok (.i2l, 1) := by decide +kernel
theorem d_X6_ofMemory_14 : decode (bc mX6_ofMemory) 14 = .ok (.invokestatic 91, 3) := by decide +kernel
theorem d_X6_ofMemory_17 : decode (bc mX6_ofMemory) 17 = .ok (.ifCond .ne 5, 3) := by decide +kernel
theorem d_X6_ofMemory_20 : decode (bc mX6_ofMemory) 20 = .ok (.iconst (-1), 1) := by decide +kernel
theorem d_X6_ofMemory_21 : decode (bc mX6_ofMemory) 21 = .ok (.ireturn, 1) := by decide +kernel
theorem d_X6_ofMemory_22 : decode (bc mX6_ofMemory) 22 = .ok (.iload_n 2, 1) := by decide +kernel
theorem d_X6_ofMemory_23 : decode (bc mX6_ofMemory) 23 = .ok (.i2l, 1) := by decide +kernel
theorem d_X6_ofMemory_24 : decode (bc mX6_ofMemory) 24 = .ok (.lconst 0, 1) := by decide +kernel
theorem d_X6_ofMemory_25 : decode (bc mX6_ofMemory) 25 = .ok (.ldc2_w 249, 3) := by decide +kernel
theorem d_X6_ofMemory_28 : decode (bc mX6_ofMemory) 28 = .ok (.invokestatic 91, 3) := by decide +kernel
theorem d_X6_ofMemory_31 : decode (bc mX6_ofMemory) 31 = .ok (.ifCond .eq 19, 3) := by decide +kernel
theorem d_X6_ofMemory_34 : decode (bc mX6_ofMemory) 34 = .ok (.aload_n 0, 1) := by decide +kernel
theorem d_X6_ofMemory_35 : decode (bc mX6_ofMemory) 35 = .ok (.getfield 7, 3) := by decide +kernel
theorem d_X6_ofMemory_38 : decode (bc mX6_ofMemory) 38 = .ok (.iload_n 1, 1) := by decide +kernel
theorem d_X6_ofMemory_39 : decode (bc mX6_ofMemory) 39 = .ok (.invokestatic 147, 3) := by decide +kernel
theorem d_X6_ofMemory_42 : decode (bc mX6_ofMemory) 42 = .ok (.iconst 1, 1) := by decide +kernel
theorem d_X6_ofMemory_43 : decode (bc mX6_ofMemory) 43 = .ok (.iadd, 1) := by decide +kernel
theorem d_X6_ofMemory_44 : decode (bc mX6_ofMemory) 44 = .ok (.iload_n 2, 1) := by decide +kernel
theorem d_X6_ofMemory_45 : decode (bc mX6_ofMemory) 45 = .ok (.iadd, 1) := by decide +kernel
theorem d_X6_ofMemory_46 : decode (bc mX6_ofMemory) 46 = .ok (.iaload, 1) := by decide +kernel
theorem d_X6_ofMemory_47 : decode (bc mX6_ofMemory) 47 = .ok (.goto 5, 3) := by decide +kernel
theorem d_X6_ofMemory_50 : decode (bc mX6_ofMemory) 50 = .ok (.bipush (-2), 2) := by decide +kernel
theorem d_X6_ofMemory_52 : decode (bc mX6_ofMemory) 52 = .ok (.ireturn, 1) := by decide +kernel
theorem d_X6_look_0 : decode (bc mX6_look) 0 = .ok (.iload_n 1, 1) := by decide +kernel
theorem d_X6_look_1 : decode (bc mX6_look) 1 = .ok (.i2l, 1) := by decide +kernel
theorem d_X6_look_2 : decode (bc mX6_look) 2 = .ok (.lconst 0, 1) := by decide +kernel
theorem d_X6_look_3 : decode (bc mX6_look) 3 = .ok (.aload_n 0, 1) := by decide +kernel
theorem d_X6_look_4 : decode (bc mX6_look) 4 = .ok (.getfield 7, 3) := by decide +kernel
theorem d_X6_look_7 : decode (bc mX6_look) 7 = .ok (.sipush 814, 3) := by decide +kernel
theorem d_X6_look_10 : decode (bc mX6_look) 10 = .ok (.iaload, 1) := by decide +kernel
theorem d_X6_look_11 : decode (bc mX6_look) 11 = .ok (.iconst 1, 1) := by decide +kernel
theorem d_X6_look_12 : decode (bc mX6_look) 12 = .ok (.isub, 1) := by decide +kernel
theorem d_X6_look_13 : decode (bc mX6_look) 13 = .ok (.i2l, 1) := by decide +kernel
theorem d_X6_look_14 : decode (bc mX6_look) 14 = .ok (.invokestatic 91, 3) := by decide +kernel
theorem d_X6_look_17 : decode (bc mX6_look) 17 = .ok (.ifCond .eq 26, 3) := by decide +kernel
theorem d_X6_look_20 : decode (bc mX6_look) 20 = .ok (.iload_n 2, 1) := by decide +kernel
theorem d_X6_look_21 : decode (bc mX6_look) 21 = .ok (.i2l, 1) := by decide +kernel
theorem d_X6_look_22 : decode (bc mX6_look) 22 = .ok (.lconst 0, 1) := by decide +kernel
theorem d_X6_look_23 : decode (bc mX6_look) 23 = .ok (.aload_n 0, 1) := by decide +kernel
theorem d_X6_look_24 : decode (bc mX6_look) 24 = .ok (.getfield 7, 3) := by decide +kernel
theorem d_X6_look_27 : decode (bc mX6_look) 27 = .ok (.iload_n 1, 1) := by decide +kernel
theorem d_X6_look_28 : decode (bc mX6_look) 28 = .ok (.invokestatic 147, 3) := by decide +kernel
theorem d_X6_look_31 : decode (bc mX6_look) 31 = .ok (.iconst 3, 1) := by decide +kernel
theorem d_X6_look_32 : decode (bc mX6_look) 32 = .ok (.iadd, 1) := by decide +kernel
theorem d_X6_look_33 : decode (bc mX6_look) 33 = .ok (.iaload, 1) := by decide +kernel
theorem d_X6_look_34 : decode (bc mX6_look) 34 = .ok (.iconst 1, 1) := by decide +kernel
theorem d_X6_look_35 : decode (bc mX6_look) 35 = .ok (.isub, 1) := by decide +kernel
theorem d_X6_look_36 : decode (bc mX6_look) 36 = .ok (.i2l, 1) := by decide +kernel
theorem d_X6_look_37 : decode (bc mX6_look) 37 = .ok (.invokestatic 91, 3) := by decide +kernel
theorem d_X6_look_40 : decode (bc mX6_look) 40 = .ok (.ifCond .ne 5, 3) := by decide +kernel
theorem d_X6_look_43 : decode (bc mX6_look) 43 = .ok (.iconst (-1), 1) := by decide +kernel
theorem d_X6_look_44 : decode (bc mX6_look) 44 = .ok (.ireturn, 1) := by decide +kernel
theorem d_X6_look_45 : decode (bc mX6_look) 45 = .ok (.iload_n 3, 1) := by decide +kernel
theorem d_X6_look_46 : decode (bc mX6_look) 46 = .ok (.i2l, 1) := by decide +kernel
theorem d_X6_look_47 : decode (bc mX6_look) 47 = .ok (.lconst 0, 1) := by decide +kernel
theorem d_X6_look_48 : decode (bc mX6_look) 48 = .ok (.lconst 1, 1) := by decide +kernel
theorem d_X6_look_49 : decode (bc mX6_look) 49 = .ok (.invokestatic 91, 3) := by decide +kernel
theorem d_X6_look_52 : decode (bc mX6_look) 52 = .ok (.ifCond .ne 8, 3) := by decide +kernel
theorem d_X6_look_55 : decode (bc mX6_look) 55 = .ok (.bipush (-2), 2) := by decide +kernel
theorem d_X6_look_57 : decode (bc mX6_look) 57 = .ok (.goto 26, 3) := by decide +kernel
theorem d_X6_look_60 : decode (bc mX6_look) 60 = .ok (.aload_n 0, 1) := by decide +kernel
theorem d_X6_look_61 : decode (bc mX6_look) 61 = .ok (.getfield 7, 3) := by decide +kernel
theorem d_X6_look_64 : decode (bc mX6_look) 64 = .ok (.iload_n 1, 1) := by decide +kernel
theorem d_X6_look_65 : decode (bc mX6_look) 65 = .ok (.invokestatic 147, 3) := by decide +kernel
theorem d_X6_look_68 : decode (bc mX6_look) 68 = .ok (.iload_n 3, 1) := by decide +kernel
theorem d_X6_look_69 : decode (bc mX6_look) 69 = .ok (.ifCond .ne 8, 3) := by decide +kernel
theorem d_X6_look_72 : decode (bc mX6_look) 72 = .ok (.bipush 6, 2) := by decide +kernel
theorem d_X6_look_74 : decode (bc mX6_look) 74 = .ok (.goto 5, 3) := by decide +kernel
theorem d_X6_look_77 : decode (bc mX6_look) 77 = .ok (.bipush 23, 2) := by decide +kernel
theorem d_X6_look_79 : decode (bc mX6_look) 79 = .ok (.iadd, 1) := by decide +kernel
theorem d_X6_look_80 : decode (bc mX6_look) 80 = .ok (.iload_n 2, 1) := by decide +kernel
theorem d_X6_look_81 : decode (bc mX6_look) 81 = .ok (.iadd, 1) := by decide +kernel
theorem d_X6_look_82 : decode (bc mX6_look) 82 = .ok (.iaload, 1) := by decide +kernel
theorem d_X6_look_83 : decode (bc mX6_look) 83 = .ok (.ireturn, 1) := by decide +kernel
theorem d_X6_count_0 : decode (bc mX6_count) 0 = .ok (.iload_n 1, 1) := by decide +kernel
theorem d_X6_count_1 : decode (bc mX6_count) 1 = .ok (.tableswitch 138 0 7 #[47, 56, 65, 74, 79, 84, 91, 98], 47) := by decide +kernel
theorem d_X6_count_48 : decode (bc mX6_count) 48 = .ok (.aload_n 0, 1) := by decide +kernel
theorem d_X6_count_49 : decode (bc mX6_count) 49 = .ok (.getfield 7, 3) := by decide +kernel
theorem d_X6_count_52 : decode (bc mX6_count) 52 = .ok (.sipush 814, 3) := by decide +kernel
theorem d_X6_count_55 : decode (bc mX6_count) 55 = .ok (.iaload, 1) := by decide +kernel
theorem d_X6_count_56 : decode (bc mX6_count) 56 = .ok (.ireturn, 1) := by decide +kernel
theorem d_X6_count_57 : decode (bc mX6_count) 57 = .ok (.aload_n 0, 1) := by decide +kernel
theorem d_X6_count_58 : decode (bc mX6_count) 58 = .ok (.getfield 7, 3) := by decide +kernel
theorem d_X6_count_61 : decode (bc mX6_count) 61 = .ok (.sipush 812, 3) := by decide +kernel
theorem d_X6_count_64 : decode (bc mX6_count) 64 = .ok (.iaload, 1) := by decide +kernel
theorem d_X6_count_65 : decode (bc mX6_count) 65 = .ok (.ireturn, 1) := by decide +kernel
theorem d_X6_count_66 : decode (bc mX6_count) 66 = .ok (.aload_n 0, 1) := by decide +kernel
theorem d_X6_count_67 : decode (bc mX6_count) 67 = .ok (.getfield 7, 3) := by decide +kernel
theorem d_X6_count_70 : decode (bc mX6_count) 70 = .ok (.sipush 813, 3) := by decide +kernel
theorem d_X6_count_73 : decode (bc mX6_count) 73 = .ok (.iaload, 1) := by decide +kernel
theorem d_X6_count_74 : decode (bc mX6_count) 74 = .ok (.ireturn, 1) := by decide +kernel
theorem d_X6_count_75 : decode (bc mX6_count) 75 = .ok (.aload_n 0, 1) := by decide +kernel
theorem d_X6_count_76 : decode (bc mX6_count) 76 = .ok (.getfield 101, 3) := by decide +kernel
theorem d_X6_count_79 : decode (bc mX6_count) 79 = .ok (.ireturn, 1) := by decide +kernel
theorem d_X6_count_80 : decode (bc mX6_count) 80 = .ok (.aload_n 0, 1) := by decide +kernel
theorem d_X6_count_81 : decode (bc mX6_count) 81 = .ok (.getfield 216, 3) := by decide +kernel
theorem d_X6_count_84 : decode (bc mX6_count) 84 = .ok (.ireturn, 1) := by decide +kernel
theorem d_X6_count_85 : decode (bc mX6_count) 85 = .ok (.aload_n 0, 1) := by decide +kernel
theorem d_X6_count_86 : decode (bc mX6_count) 86 = .ok (.getfield 7, 3) := by decide +kernel
theorem d_X6_count_89 : decode (bc mX6_count) 89 = .ok (.iconst 0, 1) := by decide +kernel
theorem d_X6_count_90 : decode (bc mX6_count) 90 = .ok (.iaload, 1) := by decide +kernel
theorem d_X6_count_91 : decode (bc mX6_count) 91 = .ok (.ireturn, 1) := by decide +kernel
theorem d_X6_count_92 : decode (bc mX6_count) 92 = .ok (.aload_n 0, 1) := by decide +kernel
theorem d_X6_count_93 : decode (bc mX6_count) 93 = .ok (.getfield 7, 3) := by decide +kernel
theorem d_X6_count_96 : decode (bc mX6_count) 96 = .ok (.iconst 1, 1) := by decide +kernel
theorem d_X6_count_97 : decode (bc mX6_count) 97 = .ok (.iaload, 1) := by decide +kernel
theorem d_X6_count_98 : decode (bc mX6_count) 98 = .ok (.ireturn, 1) := by decide +kernel
theorem d_X6_count_99 : decode (bc mX6_count) 99 = .ok (.iconst 0, 1) := by decide +kernel
theorem d_X6_count_100 : decode (bc mX6_count) 100 = .ok (.istore_n 2, 1) := by decide +kernel
theorem d_X6_count_101 : decode (bc mX6_count) 101 = .ok (.iconst 0, 1) := by decide +kernel
theorem d_X6_count_102 : decode (bc mX6_count) 102 = .ok (.istore_n 3, 1) := by decide +kernel
theorem d_X6_count_103 : decode (bc mX6_count) 103 = .ok (.iload_n 3, 1) := by decide +kernel
theorem d_X6_count_104 : decode (bc mX6_count) 104 = .ok (.bipush 6, 2) := by decide +kernel
theorem d_X6_count_106 : decode (bc mX6_count) 106 = .ok (.if_icmp .ge 31, 3) := by decide +kernel
theorem d_X6_count_109 : decode (bc mX6_count) 109 = .ok (.iload_n 2, 1) := by decide +kernel
theorem d_X6_count_110 : decode (bc mX6_count) 110 = .ok (.aload_n 0, 1) := by decide +kernel
theorem d_X6_count_111 : decode (bc mX6_count) 111 = .ok (.getfield 7, 3) := by decide +kernel
theorem d_X6_count_114 : decode (bc mX6_count) 114 = .ok (.bipush 26, 2) := by decide +kernel
theorem d_X6_count_116 : decode (bc mX6_count) 116 = .ok (.iload_n 3, 1) := by decide +kernel
theorem d_X6_count_117 : decode (bc mX6_count) 117 = .ok (.iadd, 1) := by decide +kernel
theorem d_X6_count_118 : decode (bc mX6_count) 118 = .ok (.iaload, 1) := by decide +kernel
theorem d_X6_count_119 : decode (bc mX6_count) 119 = .ok (.ifCond .le 9, 3) := by decide +kernel
theorem d_X6_count_122 : decode (bc mX6_count) 122 = .ok (.iconst 1, 1) := by decide +kernel
theorem d_X6_count_123 : decode (bc mX6_count) 123 = .ok (.iload_n 3, 1) := by decide +kernel
theorem d_X6_count_124 : decode (bc mX6_count) 124 = .ok (.ishl, 1) := by decide +kernel
theorem d_X6_count_125 : decode (bc mX6_count) 125 = .ok (.goto 4, 3) := by decide +kernel
theorem d_X6_count_128 : decode (bc mX6_count) 128 = .ok (.iconst 0, 1) := by decide +kernel
theorem d_X6_count_129 : decode (bc mX6_count) 129 = .ok (.ior, 1) := by decide +kernel
theorem d_X6_count_130 : decode (bc mX6_count) 130 = .ok (.istore_n 2, 1) := by decide +kernel
theorem d_X6_count_131 : decode (bc mX6_count) 131 = .ok (.iinc 3 1, 3) := by decide +kernel
theorem d_X6_count_134 : decode (bc mX6_count) 134 = .ok (.goto (-31), 3) := by decide +kernel
theorem d_X6_count_137 : decode (bc mX6_count) 137 = .ok (.iload_n 2, 1) := by decide +kernel
theorem d_X6_count_138 : decode (bc mX6_count) 138 = .ok (.ireturn, 1) := by decide +kernel
theorem d_X6_count_139 : decode (bc mX6_count) 139 = .ok (.bipush (-2), 2) := by decide +kernel
theorem d_X6_count_141 : decode (bc mX6_count) 141 = .ok (.ireturn, 1) := by decide +kernel
theorem d_X6_reckonLoaf_0 : decode (bc mX6_reckonLoaf) 0 = .ok (.aload_n 0, 1) := by decide +kernel
theorem d_X6_reckonLoaf_1 : decode (bc mX6_reckonLoaf) 1 = .ok (.getfield 83, 3) := by decide +kernel
theorem d_X6_reckonLoaf_4 : decode (bc mX6_reckonLoaf) 4 = .ok (.iload_n 2, 1) := by decide +kernel
theorem d_X6_reckonLoaf_5 : decode (bc mX6_reckonLoaf) 5 = .ok (.bipush 100, 2) := by decide +kernel
theorem d_X6_reckonLoaf_7 : decode (bc mX6_reckonLoaf) 7 = .ok (.iastore, 1) := by decide +kernel
theorem d_X6_reckonLoaf_8 : decode (bc mX6_reckonLoaf) 8 = .ok (.aload_n 0, 1) := by decide +kernel
theorem d_X6_reckonLoaf_9 : decode (bc mX6_reckonLoaf) 9 = .ok (.getfield 86, 3) := by decide +kernel
theorem d_X6_reckonLoaf_12 : decode (bc mX6_reckonLoaf) 12 = .ok (.iload_n 2, 1) := by decide +kernel
theorem d_X6_reckonLoaf_13 : decode (bc mX6_reckonLoaf) 13 = .ok (.iconst 0, 1) := by decide +kernel
theorem d_X6_reckonLoaf_14 : decode (bc mX6_reckonLoaf) 14 = .ok (.iastore, 1) := by decide +kernel
theorem d_X6_reckonLoaf_15 : decode (bc mX6_reckonLoaf) 15 = .ok (.aload_n 0, 1) := by decide +kernel
theorem d_X6_reckonLoaf_16 : decode (bc mX6_reckonLoaf) 16 = .ok (.getfield 68, 3) := by decide +kernel
theorem d_X6_reckonLoaf_19 : decode (bc mX6_reckonLoaf) 19 = .ok (.iload_n 2, 1) := by decide +kernel
theorem d_X6_reckonLoaf_20 : decode (bc mX6_reckonLoaf) 20 = .ok (.iconst 0, 1) := by decide +kernel
theorem d_X6_reckonLoaf_21 : decode (bc mX6_reckonLoaf) 21 = .ok (.iastore, 1) := by decide +kernel
theorem d_X6_reckonLoaf_22 : decode (bc mX6_reckonLoaf) 22 = .ok (.iconst 0, 1) := by decide +kernel
theorem d_X6_reckonLoaf_23 : decode (bc mX6_reckonLoaf) 23 = .ok (.istore_n 3, 1) := by decide +kernel
theorem d_X6_reckonLoaf_24 : decode (bc mX6_reckonLoaf) 24 = .ok (.iload_n 3, 1) := by decide +kernel
theorem d_X6_reckonLoaf_25 : decode (bc mX6_reckonLoaf) 25 = .ok (.aload_n 1, 1) := by decide +kernel
theorem d_X6_reckonLoaf_26 : decode (bc mX6_reckonLoaf) 26 = .ok (.bipush 26, 2) := by decide +kernel
theorem d_X6_reckonLoaf_28 : decode (bc mX6_reckonLoaf) 28 = .ok (.iload_n 2, 1) := by decide +kernel
theorem d_X6_reckonLoaf_29 : decode (bc mX6_reckonLoaf) 29 = .ok (.iadd, 1) := by decide +kernel
theorem d_X6_reckonLoaf_30 : decode (bc mX6_reckonLoaf) 30 = .ok (.iaload, 1) := by decide +kernel
theorem d_X6_reckonLoaf_31 : decode (bc mX6_reckonLoaf) 31 = .ok (.if_icmp .ge 191, 3) := by decide +kernel
theorem d_X6_reckonLoaf_34 : decode (bc mX6_reckonLoaf) 34 = .ok (.aload_n 1, 1) := by decide +kernel
theorem d_X6_reckonLoaf_35 : decode (bc mX6_reckonLoaf) 35 = .ok (.bipush 32, 2) := by decide +kernel
theorem d_X6_reckonLoaf_37 : decode (bc mX6_reckonLoaf) 37 = .ok (.bipush 64, 2) := by decide +kernel
theorem d_X6_reckonLoaf_39 : decode (bc mX6_reckonLoaf) 39 = .ok (.iload_n 2, 1) := by decide +kernel
theorem d_X6_reckonLoaf_40 : decode (bc mX6_reckonLoaf) 40 = .ok (.imul, 1) := by decide +kernel
theorem d_X6_reckonLoaf_41 : decode (bc mX6_reckonLoaf) 41 = .ok (.iadd, 1) := by decide +kernel
theorem d_X6_reckonLoaf_42 : decode (bc mX6_reckonLoaf) 42 = .ok (.iload_n 3, 1) := by decide +kernel
theorem d_X6_reckonLoaf_43 : decode (bc mX6_reckonLoaf) 43 = .ok (.iadd, 1) := by decide +kernel
theorem d_X6_reckonLoaf_44 : decode (bc mX6_reckonLoaf) 44 = .ok (.iaload, 1) := by decide +kernel
theorem d_X6_reckonLoaf_45 : decode (bc mX6_reckonLoaf) 45 = .ok (.istore 4, 2) := by decide +kernel
theorem d_X6_reckonLoaf_47 : decode (bc mX6_reckonLoaf) 47 = .ok (.aload_n 1, 1) := by decide +kernel
theorem d_X6_reckonLoaf_48 : decode (bc mX6_reckonLoaf) 48 = .ok (.sipush 416, 3) := by decide +kernel
theorem d_X6_reckonLoaf_51 : decode (bc mX6_reckonLoaf) 51 = .ok (.bipush 64, 2) := by decide +kernel
theorem d_X6_reckonLoaf_53 : decode (bc mX6_reckonLoaf) 53 = .ok (.iload_n 2, 1) := by decide +kernel
theorem d_X6_reckonLoaf_54 : decode (bc mX6_reckonLoaf) 54 = .ok (.imul, 1) := by decide +kernel
theorem d_X6_reckonLoaf_55 : decode (bc mX6_reckonLoaf) 55 = .ok (.iadd, 1) := by decide +kernel
theorem d_X6_reckonLoaf_56 : decode (bc mX6_reckonLoaf) 56 = .ok (.iload_n 3, 1) := by decide +kernel
theorem d_X6_reckonLoaf_57 : decode (bc mX6_reckonLoaf) 57 = .ok (.iadd, 1) := by decide +kernel
theorem d_X6_reckonLoaf_58 : decode (bc mX6_reckonLoaf) 58 = .ok (.iaload, 1) := by decide +kernel
theorem d_X6_reckonLoaf_59 : decode (bc mX6_reckonLoaf) 59 = .ok (.istore 5, 2) := by decide +kernel
theorem d_X6_reckonLoaf_61 : decode (bc mX6_reckonLoaf) 61 = .ok (.iinc 3 1, 3) := by decide +kernel
theorem d_X6_reckonLoaf_64 : decode (bc mX6_reckonLoaf) 64 = .ok (.iload 4, 2) := by decide +kernel
theorem d_X6_reckonLoaf_66 : decode (bc mX6_reckonLoaf) 66 = .ok (.bipush 7, 2) := by decide +kernel
theorem d_X6_reckonLoaf_68 : decode (bc mX6_reckonLoaf) 68 = .ok (.if_icmp .eq 18, 3) := by decide +kernel
theorem d_X6_reckonLoaf_71 : decode (bc mX6_reckonLoaf) 71 = .ok (.iload 4, 2) := by decide +kernel
theorem d_X6_reckonLoaf_73 : decode (bc mX6_reckonLoaf) 73 = .ok (.bipush 6, 2) := by decide +kernel
theorem d_X6_reckonLoaf_75 : decode (bc mX6_reckonLoaf) 75 = .ok (.if_icmp .ne 17, 3) := by decide +kernel
theorem d_X6_reckonLoaf_78 : decode (bc mX6_reckonLoaf) 78 = .ok (.aload_n 0, 1) := by decide +kernel
theorem d_X6_reckonLoaf_79 : decode (bc mX6_reckonLoaf) 79 = .ok (.iload_n 2, 1) := by decide +kernel
theorem d_X6_reckonLoaf_80 : decode (bc mX6_reckonLoaf) 80 = .ok (.invokevirtual 189, 3) := by decide +kernel
theorem d_X6_reckonLoaf_83 : decode (bc mX6_reckonLoaf) 83 = .ok (.ifCond .ne 9, 3) := by decide +kernel
theorem d_X6_reckonLoaf_86 : decode (bc mX6_reckonLoaf) 86 = .ok (.iload 5, 2) := by decide +kernel
theorem d_X6_reckonLoaf_88 : decode (bc mX6_reckonLoaf) 88 = .ok (.istore_n 3, 1) := by decide +kernel
theorem d_X6_reckonLoaf_89 : decode (bc mX6_reckonLoaf) 89 = .ok (.goto 130, 3) := by decide +kernel
theorem d_X6_reckonLoaf_92 : decode (bc mX6_reckonLoaf) 92 = .ok (.iload 4, 2) := by decide +kernel
theorem d_X6_reckonLoaf_94 : decode (bc mX6_reckonLoaf) 94 = .ok (.iconst 2, 1) := by decide +kernel
theorem d_X6_reckonLoaf_95 : decode (bc mX6_reckonLoaf) 95 = .ok (.if_icmp .ne 13, 3) := by decide +kernel
theorem d_X6_reckonLoaf_98 : decode (bc mX6_reckonLoaf) 98 = .ok (.aload_n 0, 1) := by decide +kernel
theorem d_X6_reckonLoaf_99 : decode (bc mX6_reckonLoaf) 99 = .ok (.iload_n 2, 1) := by decide +kernel
theorem d_X6_reckonLoaf_100 : decode (bc mX6_reckonLoaf) 100 = .ok (.iload 5, 2) := by decide +kernel
theorem d_X6_reckonLoaf_102 : decode (bc mX6_reckonLoaf) 102 = .ok (.invokevirtual 186, 3) := by decide +kernel
theorem d_X6_reckonLoaf_105 : decode (bc mX6_reckonLoaf) 105 = .ok (.goto 114, 3) := by decide +kernel
theorem d_X6_reckonLoaf_108 : decode (bc mX6_reckonLoaf) 108 = .ok (.iload 4, 2) := by decide +kernel
theorem d_X6_reckonLoaf_110 : decode (bc mX6_reckonLoaf) 110 = .ok (.ifCond .eq 9, 3) := by decide +kernel
theorem d_X6_reckonLoaf_113 : decode (bc mX6_reckonLoaf) 113 = .ok (.iload 4, 2) := by decide +kernel
theorem d_X6_reckonLoaf_115 : decode (bc mX6_reckonLoaf) 115 = .ok (.iconst 1, 1) := by decide +kernel
theorem d_X6_reckonLoaf_116 : decode (bc mX6_reckonLoaf) 116 = .ok (.if_icmp .ne 72, 3) := by decide +kernel
theorem d_X6_reckonLoaf_119 : decode (bc mX6_reckonLoaf) 119 = .ok (.aload_n 0, 1) := by decide +kernel
theorem d_X6_reckonLoaf_120 : decode (bc mX6_reckonLoaf) 120 = .ok (.getfield 86, 3) := by decide +kernel
theorem d_X6_reckonLoaf_123 : decode (bc mX6_reckonLoaf) 123 = .ok (.iload_n 2, 1) := by decide +kernel
theorem d_X6_reckonLoaf_124 : decode (bc mX6_reckonLoaf) 124 = .ok (.dup2, 1) := by decide +kernel
theorem d_X6_reckonLoaf_125 : decode (bc mX6_reckonLoaf) 125 = .ok (.iaload, 1) := by decide +kernel
theorem d_X6_reckonLoaf_126 : decode (bc mX6_reckonLoaf) 126 = .ok (.iload 4, 2) := by decide +kernel
theorem d_X6_reckonLoaf_128 : decode (bc mX6_reckonLoaf) 128 = .ok (.ifCond .ne 10, 3) := by decide +kernel
theorem d_X6_reckonLoaf_131 : decode (bc mX6_reckonLoaf) 131 = .ok (.iconst 1, 1) := by decide +kernel
theorem d_X6_reckonLoaf_132 : decode (bc mX6_reckonLoaf) 132 = .ok (.iload 5, 2) := by decide +kernel
theorem d_X6_reckonLoaf_134 : decode (bc mX6_reckonLoaf) 134 = .ok (.ishl, 1) := by decide +kernel
theorem d_X6_reckonLoaf_135 : decode (bc mX6_reckonLoaf) 135 = .ok (.goto 10, 3) := by decide +kernel
theorem d_X6_reckonLoaf_138 : decode (bc mX6_reckonLoaf) 138 = .ok (.aload_n 0, 1) := by decide +kernel
theorem d_X6_reckonLoaf_139 : decode (bc mX6_reckonLoaf) 139 = .ok (.getfield 86, 3) := by decide +kernel
theorem d_X6_reckonLoaf_142 : decode (bc mX6_reckonLoaf) 142 = .ok (.iload 5, 2) := by decide +kernel
theorem d_X6_reckonLoaf_144 : decode (bc mX6_reckonLoaf) 144 = .ok (.iaload, 1) := by decide +kernel
theorem d_X6_reckonLoaf_145 : decode (bc mX6_reckonLoaf) 145 = .ok (.ior, 1) := by decide +kernel
theorem d_X6_reckonLoaf_146 : decode (bc mX6_reckonLoaf) 146 = .ok (.iastore, 1) := by decide +kernel
theorem d_X6_reckonLoaf_147 : decode (bc mX6_reckonLoaf) 147 = .ok (.iload 4, 2) := by decide +kernel
theorem d_X6_reckonLoaf_149 : decode (bc mX6_reckonLoaf) 149 = .ok (.ifCond .ne 12, 3) := by decide +kernel
theorem d_X6_reckonLoaf_152 : decode (bc mX6_reckonLoaf) 152 = .ok (.aload_n 1, 1) := by decide +kernel
theorem d_X6_reckonLoaf_153 : decode (bc mX6_reckonLoaf) 153 = .ok (.iload 5, 2) := by decide +kernel
theorem d_X6_reckonLoaf_155 : decode (bc mX6_reckonLoaf) 155 = .ok (.invokestatic 172, 3) := by decide +kernel
theorem d_X6_reckonLoaf_158 : decode (bc mX6_reckonLoaf) 158 = .ok (.goto 10, 3) := by decide +kernel
theorem d_X6_reckonLoaf_161 : decode (bc mX6_reckonLoaf) 161 = .ok (.aload_n 0, 1) := by decide +kernel
theorem d_X6_reckonLoaf_162 : decode (bc mX6_reckonLoaf) 162 = .ok (.getfield 83, 3) := by decide +kernel
theorem d_X6_reckonLoaf_165 : decode (bc mX6_reckonLoaf) 165 = .ok (.iload 5, 2) := by decide +kernel
theorem d_X6_reckonLoaf_167 : decode (bc mX6_reckonLoaf) 167 = .ok (.iaload, 1) := by decide +kernel
theorem d_X6_reckonLoaf_168 : decode (bc mX6_reckonLoaf) 168 = .ok (.istore 6, 2) := by decide +kernel
theorem d_X6_reckonLoaf_170 : decode (bc mX6_reckonLoaf) 170 = .ok (.iload 6, 2) := by decide +kernel
theorem d_X6_reckonLoaf_172 : decode (bc mX6_reckonLoaf) 172 = .ok (.bipush 100, 2) := by decide +kernel
theorem d_X6_reckonLoaf_174 : decode (bc mX6_reckonLoaf) 174 = .ok (.if_icmp .ne 4, 3) := by decide +kernel
theorem d_X6_reckonLoaf_177 : decode (bc mX6_reckonLoaf) 177 = .ok (.return_, 1) := by decide +kernel
theorem d_X6_reckonLoaf_178 : decode (bc mX6_reckonLoaf) 178 = .ok (.aload_n 0, 1) := by decide +kernel
theorem d_X6_reckonLoaf_179 : decode (bc mX6_reckonLoaf) 179 = .ok (.iload_n 2, 1) := by decide +kernel
theorem d_X6_reckonLoaf_180 : decode (bc mX6_reckonLoaf) 180 = .ok (.iload 6, 2) := by decide +kernel
theorem d_X6_reckonLoaf_182 : decode (bc mX6_reckonLoaf) 182 = .ok (.invokevirtual 186, 3) := by decide +kernel
theorem d_X6_reckonLoaf_185 : decode (bc mX6_reckonLoaf) 185 = .ok (.goto 34, 3) := by decide +kernel
theorem d_X6_reckonLoaf_188 : decode (bc mX6_reckonLoaf) 188 = .ok (.iload 4, 2) := by decide +kernel
theorem d_X6_reckonLoaf_190 : decode (bc mX6_reckonLoaf) 190 = .ok (.bipush 6, 2) := by decide +kernel
theorem d_X6_reckonLoaf_192 : decode (bc mX6_reckonLoaf) 192 = .ok (.if_icmp .eq 27, 3) := by decide +kernel
theorem d_X6_reckonLoaf_195 : decode (bc mX6_reckonLoaf) 195 = .ok (.aload_n 0, 1) := by decide +kernel
theorem d_X6_reckonLoaf_196 : decode (bc mX6_reckonLoaf) 196 = .ok (.iload_n 2, 1) := by decide +kernel
theorem d_X6_reckonLoaf_197 : decode (bc mX6_reckonLoaf) 197 = .ok (.invokevirtual 189, 3) := by decide +kernel
theorem d_X6_reckonLoaf_200 : decode (bc mX6_reckonLoaf) 200 = .ok (.istore 6, 2) := by decide +kernel
theorem d_X6_reckonLoaf_202 : decode (bc mX6_reckonLoaf) 202 = .ok (.aload_n 0, 1) := by decide +kernel
theorem d_X6_reckonLoaf_203 : decode (bc mX6_reckonLoaf) 203 = .ok (.iload_n 2, 1) := by decide +kernel
theorem d_X6_reckonLoaf_204 : decode (bc mX6_reckonLoaf) 204 = .ok (.iload 4, 2) := by decide +kernel
theorem d_X6_reckonLoaf_206 : decode (bc mX6_reckonLoaf) 206 = .ok (.aload_n 0, 1) := by decide +kernel
theorem d_X6_reckonLoaf_207 : decode (bc mX6_reckonLoaf) 207 = .ok (.iload_n 2, 1) := by decide +kernel
theorem d_X6_reckonLoaf_208 : decode (bc mX6_reckonLoaf) 208 = .ok (.invokevirtual 189, 3) := by decide +kernel
theorem d_X6_reckonLoaf_211 : decode (bc mX6_reckonLoaf) 211 = .ok (.iload 6, 2) := by decide +kernel
theorem d_X6_reckonLoaf_213 : decode (bc mX6_reckonLoaf) 213 = .ok (.invokestatic 200, 3) := by decide +kernel
theorem d_X6_reckonLoaf_216 : decode (bc mX6_reckonLoaf) 216 = .ok (.invokevirtual 186, 3) := by decide +kernel
theorem d_X6_reckonLoaf_219 : decode (bc mX6_reckonLoaf) 219 = .ok (.goto (-195), 3) := by decide +kernel
theorem d_X6_reckonLoaf_222 : decode (bc mX6_reckonLoaf) 222 = .ok (.aload_n 0, 1) := by decide +kernel
theorem d_X6_reckonLoaf_223 : decode (bc mX6_reckonLoaf) 223 = .ok (.getfield 83, 3) := by decide +kernel
theorem d_X6_reckonLoaf_226 : decode (bc mX6_reckonLoaf) 226 = .ok (.iload_n 2, 1) := by decide +kernel
theorem d_X6_reckonLoaf_227 : decode (bc mX6_reckonLoaf) 227 = .ok (.aload_n 1, 1) := by decide +kernel
theorem d_X6_reckonLoaf_228 : decode (bc mX6_reckonLoaf) 228 = .ok (.bipush 26, 2) := by decide +kernel
theorem d_X6_reckonLoaf_230 : decode (bc mX6_reckonLoaf) 230 = .ok (.iload_n 2, 1) := by decide +kernel
theorem d_X6_reckonLoaf_231 : decode (bc mX6_reckonLoaf) 231 = .ok (.iadd, 1) := by decide +kernel
theorem d_X6_reckonLoaf_232 : decode (bc mX6_reckonLoaf) 232 = .ok (.iaload, 1) := by decide +kernel
theorem d_X6_reckonLoaf_233 : decode (bc mX6_reckonLoaf) 233 = .ok (.ifCond .ne 8, 3) := by decide +kernel
theorem d_X6_reckonLoaf_236 : decode (bc mX6_reckonLoaf) 236 = .ok (.bipush 100, 2) := by decide +kernel
theorem d_X6_reckonLoaf_238 : decode (bc mX6_reckonLoaf) 238 = .ok (.goto 8, 3) := by decide +kernel
theorem d_X6_reckonLoaf_241 : decode (bc mX6_reckonLoaf) 241 = .ok (.aload_n 0, 1) := by decide +kernel
theorem d_X6_reckonLoaf_242 : decode (bc mX6_reckonLoaf) 242 = .ok (.iload_n 2, 1) := by decide +kernel
theorem d_X6_reckonLoaf_243 : decode (bc mX6_reckonLoaf) 243 = .ok (.invokevirtual 189, 3) := by decide +kernel
theorem d_X6_reckonLoaf_246 : decode (bc mX6_reckonLoaf) 246 = .ok (.iastore, 1) := by decide +kernel
theorem d_X6_reckonLoaf_247 : decode (bc mX6_reckonLoaf) 247 = .ok (.return_, 1) := by decide +kernel
theorem d_X6_reckonAll_0 : decode (bc mX6_reckonAll) 0 = .ok (.iconst 0, 1) := by decide +kernel
theorem d_X6_reckonAll_1 : decode (bc mX6_reckonAll) 1 = .ok (.istore_n 2, 1) := by decide +kernel
theorem d_X6_reckonAll_2 : decode (bc mX6_reckonAll) 2 = .ok (.iload_n 2, 1) := by decide +kernel
theorem d_X6_reckonAll_3 : decode (bc mX6_reckonAll) 3 = .ok (.bipush 6, 2) := by decide +kernel
theorem d_X6_reckonAll_5 : decode (bc mX6_reckonAll) 5 = .ok (.if_icmp .ge 15, 3) := by decide +kernel
theorem d_X6_reckonAll_8 : decode (bc mX6_reckonAll) 8 = .ok (.aload_n 0, 1) := by decide +kernel
theorem d_X6_reckonAll_9 : decode (bc mX6_reckonAll) 9 = .ok (.aload_n 1, 1) := by decide +kernel
theorem d_X6_reckonAll_10 : decode (bc mX6_reckonAll) 10 = .ok (.iload_n 2, 1) := by decide +kernel
theorem d_X6_reckonAll_11 : decode (bc mX6_reckonAll) 11 = .ok (.invokevirtual 251, 3) := by decide +kernel
theorem d_X6_reckonAll_14 : decode (bc mX6_reckonAll) 14 = .ok (.iinc 2 1, 3) := by decide +kernel
theorem d_X6_reckonAll_17 : decode (bc mX6_reckonAll) 17 = .ok (.goto (-15), 3) := by decide +kernel
theorem d_X6_reckonAll_20 : decode (bc mX6_reckonAll) 20 = .ok (.return_, 1) := by decide +kernel
theorem d_X6_fresh_0 : decode (bc mX6_fresh) 0 = .ok (.iload_n 1, 1) := by decide +kernel
theorem d_X6_fresh_1 : decode (bc mX6_fresh) 1 = .ok (.invokestatic 234, 3) := by decide +kernel
theorem d_X6_fresh_4 : decode (bc mX6_fresh) 4 = .ok (.ifCond .ne 5, 3) := by decide +kernel
theorem d_X6_fresh_7 : decode (bc mX6_fresh) 7 = .ok (.iconst (-1), 1) := by decide +kernel
theorem d_X6_fresh_8 : decode (bc mX6_fresh) 8 = .ok (.ireturn, 1) := by decide +kernel
theorem d_X6_fresh_9 : decode (bc mX6_fresh) 9 = .ok (.aload_n 0, 1) := by decide +kernel
theorem d_X6_fresh_10 : decode (bc mX6_fresh) 10 = .ok (.aload_n 0, 1) := by decide +kernel
theorem d_X6_fresh_11 : decode (bc mX6_fresh) 11 = .ok (.getfield 7, 3) := by decide +kernel
theorem d_X6_fresh_14 : decode (bc mX6_fresh) 14 = .ok (.invokevirtual 254, 3) := by decide +kernel
theorem d_X6_fresh_17 : decode (bc mX6_fresh) 17 = .ok (.aload_n 0, 1) := by decide +kernel
theorem d_X6_fresh_18 : decode (bc mX6_fresh) 18 = .ok (.getfield 83, 3) := by decide +kernel
theorem d_X6_fresh_21 : decode (bc mX6_fresh) 21 = .ok (.iload_n 1, 1) := by decide +kernel
theorem d_X6_fresh_22 : decode (bc mX6_fresh) 22 = .ok (.iaload, 1) := by decide +kernel
theorem d_X6_fresh_23 : decode (bc mX6_fresh) 23 = .ok (.ireturn, 1) := by decide +kernel
theorem d_X6_allAlike_0 : decode (bc mX6_allAlike) 0 = .ok (.iconst 1, 1) := by decide +kernel
theorem d_X6_allAlike_1 : decode (bc mX6_allAlike) 1 = .ok (.istore_n 2, 1) := by decide +kernel
theorem d_X6_allAlike_2 : decode (bc mX6_allAlike) 2 = .ok (.iconst 0, 1) := by decide +kernel
theorem d_X6_allAlike_3 : decode (bc mX6_allAlike) 3 = .ok (.istore_n 3, 1) := by decide +kernel
theorem d_X6_allAlike_4 : decode (bc mX6_allAlike) 4 = .ok (.iload_n 3, 1) := by decide +kernel
theorem d_X6_allAlike_5 : decode (bc mX6_allAlike) 5 = .ok (.aload_n 0, 1) := by decide +kernel
theorem d_X6_allAlike_6 : decode (bc mX6_allAlike) 6 = .ok (.getfield 7, 3) := by decide +kernel
theorem d_X6_allAlike_9 : decode (bc mX6_allAlike) 9 = .ok (.iload_n 1, 1) := by decide +kernel
theorem d_X6_allAlike_10 : decode (bc mX6_allAlike) 10 = .ok (.invokestatic 147, 3) := by decide +kernel
theorem d_X6_allAlike_13 : decode (bc mX6_allAlike) 13 = .ok (.iconst 3, 1) := by decide +kernel
theorem d_X6_allAlike_14 : decode (bc mX6_allAlike) 14 = .ok (.iadd, 1) := by decide +kernel
theorem d_X6_allAlike_15 : decode (bc mX6_allAlike) 15 = .ok (.iaload, 1) := by decide +kernel
theorem d_X6_allAlike_16 : decode (bc mX6_allAlike) 16 = .ok (.if_icmp .ge 85, 3) := by decide +kernel
theorem d_X6_allAlike_19 : decode (bc mX6_allAlike) 19 = .ok (.iload_n 2, 1) := by decide +kernel
theorem d_X6_allAlike_20 : decode (bc mX6_allAlike) 20 = .ok (.ifCond .eq 81, 3) := by decide +kernel
theorem d_X6_allAlike_23 : decode (bc mX6_allAlike) 23 = .ok (.aload_n 0, 1) := by decide +kernel
theorem d_X6_allAlike_24 : decode (bc mX6_allAlike) 24 = .ok (.getfield 7, 3) := by decide +kernel
theorem d_X6_allAlike_27 : decode (bc mX6_allAlike) 27 = .ok (.iload_n 1, 1) := by decide +kernel
theorem d_X6_allAlike_28 : decode (bc mX6_allAlike) 28 = .ok (.invokestatic 147, 3) := by decide +kernel
theorem d_X6_allAlike_31 : decode (bc mX6_allAlike) 31 = .ok (.bipush 6, 2) := by decide +kernel
theorem d_X6_allAlike_33 : decode (bc mX6_allAlike) 33 = .ok (.iadd, 1) := by decide +kernel
theorem d_X6_allAlike_34 : decode (bc mX6_allAlike) 34 = .ok (.iload_n 3, 1) := by decide +kernel
theorem d_X6_allAlike_35 : decode (bc mX6_allAlike) 35 = .ok (.iadd, 1) := by decide +kernel
theorem d_X6_allAlike_36 : decode (bc mX6_allAlike) 36 = .ok (.iaload, 1) := by decide +kernel
theorem d_X6_allAlike_37 : decode (bc mX6_allAlike) 37 = .ok (.istore 4, 2) := by decide +kernel
theorem d_X6_allAlike_39 : decode (bc mX6_allAlike) 39 = .ok (.iload 4, 2) := by decide +kernel
theorem d_X6_allAlike_41 : decode (bc mX6_allAlike) 41 = .ok (.bipush 20, 2) := by decide +kernel
theorem d_X6_allAlike_43 : decode (bc mX6_allAlike) 43 = .ok (.if_icmp .lt 16, 3) := by decide +kernel
theorem d_X6_allAlike_46 : decode (bc mX6_allAlike) 46 = .ok (.aload_n 0, 1) := by decide +kernel
theorem d_X6_allAlike_47 : decode (bc mX6_allAlike) 47 = .ok (.getfield 83, 3) := by decide +kernel
theorem d_X6_allAlike_50 : decode (bc mX6_allAlike) 50 = .ok (.iload 4, 2) := by decide +kernel
theorem d_X6_allAlike_52 : decode (bc mX6_allAlike) 52 = .ok (.bipush 20, 2) := by decide +kernel
theorem d_X6_allAlike_54 : decode (bc mX6_allAlike) 54 = .ok (.isub, 1) := by decide +kernel
theorem d_X6_allAlike_55 : decode (bc mX6_allAlike) 55 = .ok (.iaload, 1) := by decide +kernel
theorem d_X6_allAlike_56 : decode (bc mX6_allAlike) 56 = .ok (.goto 12, 3) := by decide +kernel
theorem d_X6_allAlike_59 : decode (bc mX6_allAlike) 59 = .ok (.aload_n 0, 1) := by decide +kernel
theorem d_X6_allAlike_60 : decode (bc mX6_allAlike) 60 = .ok (.getfield 7, 3) := by decide +kernel
theorem d_X6_allAlike_63 : decode (bc mX6_allAlike) 63 = .ok (.iload 4, 2) := by decide +kernel
theorem d_X6_allAlike_65 : decode (bc mX6_allAlike) 65 = .ok (.invokestatic 172, 3) := by decide +kernel
theorem d_X6_allAlike_68 : decode (bc mX6_allAlike) 68 = .ok (.istore 5, 2) := by decide +kernel
theorem d_X6_allAlike_70 : decode (bc mX6_allAlike) 70 = .ok (.iload 5, 2) := by decide +kernel
theorem d_X6_allAlike_72 : decode (bc mX6_allAlike) 72 = .ok (.aload_n 0, 1) := by decide +kernel
theorem d_X6_allAlike_73 : decode (bc mX6_allAlike) 73 = .ok (.getfield 7, 3) := by decide +kernel
theorem d_X6_allAlike_76 : decode (bc mX6_allAlike) 76 = .ok (.iload_n 1, 1) := by decide +kernel
theorem d_X6_allAlike_77 : decode (bc mX6_allAlike) 77 = .ok (.invokestatic 147, 3) := by decide +kernel
theorem d_X6_allAlike_80 : decode (bc mX6_allAlike) 80 = .ok (.bipush 23, 2) := by decide +kernel
theorem d_X6_allAlike_82 : decode (bc mX6_allAlike) 82 = .ok (.iadd, 1) := by decide +kernel
theorem d_X6_allAlike_83 : decode (bc mX6_allAlike) 83 = .ok (.iload_n 3, 1) := by decide +kernel
theorem d_X6_allAlike_84 : decode (bc mX6_allAlike) 84 = .ok (.iadd, 1) := by decide +kernel
theorem d_X6_allAlike_85 : decode (bc mX6_allAlike) 85 = .ok (.iaload, 1) := by decide +kernel
theorem d_X6_allAlike_86 : decode (bc mX6_allAlike) 86 = .ok (.if_icmp .ne 7, 3) := by decide +kernel
theorem d_X6_allAlike_89 : decode (bc mX6_allAlike) 89 = .ok (.iconst 1, 1) := by decide +kernel
theorem d_X6_allAlike_90 : decode (bc mX6_allAlike) 90 = .ok (.goto 4, 3) := by decide +kernel
theorem d_X6_allAlike_93 : decode (bc mX6_allAlike) 93 = .ok (.iconst 0, 1) := by decide +kernel
theorem d_X6_allAlike_94 : decode (bc mX6_allAlike) 94 = .ok (.istore_n 2, 1) := by decide +kernel
theorem d_X6_allAlike_95 : decode (bc mX6_allAlike) 95 = .ok (.iinc 3 1, 3) := by decide +kernel
theorem d_X6_allAlike_98 : decode (bc mX6_allAlike) 98 = .ok (.goto (-94), 3) := by decide +kernel
theorem d_X6_allAlike_101 : decode (bc mX6_allAlike) 101 = .ok (.iload_n 2, 1) := by decide +kernel
theorem d_X6_allAlike_102 : decode (bc mX6_allAlike) 102 = .ok (.ireturn, 1) := by decide +kernel
theorem d_X6_fits_0 : decode (bc mX6_fits) 0 = .ok (.iload_n 1, 1) := by decide +kernel
theorem d_X6_fits_1 : decode (bc mX6_fits) 1 = .ok (.invokestatic 234, 3) := by decide +kernel
theorem d_X6_fits_4 : decode (bc mX6_fits) 4 = .ok (.ifCond .ne 5, 3) := by decide +kernel
theorem d_X6_fits_7 : decode (bc mX6_fits) 7 = .ok (.iconst (-1), 1) := by decide +kernel
theorem d_X6_fits_8 : decode (bc mX6_fits) 8 = .ok (.ireturn, 1) := by decide +kernel
theorem d_X6_fits_9 : decode (bc mX6_fits) 9 = .ok (.aload_n 0, 1) := by decide +kernel
theorem d_X6_fits_10 : decode (bc mX6_fits) 10 = .ok (.aload_n 0, 1) := by decide +kernel
theorem d_X6_fits_11 : decode (bc mX6_fits) 11 = .ok (.getfield 7, 3) := by decide +kernel
theorem d_X6_fits_14 : decode (bc mX6_fits) 14 = .ok (.invokevirtual 254, 3) := by decide +kernel
theorem d_X6_fits_17 : decode (bc mX6_fits) 17 = .ok (.iconst 0, 1) := by decide +kernel
theorem d_X6_fits_18 : decode (bc mX6_fits) 18 = .ok (.istore_n 2, 1) := by decide +kernel
theorem d_X6_fits_19 : decode (bc mX6_fits) 19 = .ok (.iload_n 2, 1) := by decide +kernel
theorem d_X6_fits_20 : decode (bc mX6_fits) 20 = .ok (.aload_n 0, 1) := by decide +kernel
theorem d_X6_fits_21 : decode (bc mX6_fits) 21 = .ok (.getfield 7, 3) := by decide +kernel
theorem d_X6_fits_24 : decode (bc mX6_fits) 24 = .ok (.sipush 814, 3) := by decide +kernel
theorem d_X6_fits_27 : decode (bc mX6_fits) 27 = .ok (.iaload, 1) := by decide +kernel
theorem d_X6_fits_28 : decode (bc mX6_fits) 28 = .ok (.if_icmp .ge 34, 3) := by decide +kernel
theorem d_X6_fits_31 : decode (bc mX6_fits) 31 = .ok (.aload_n 0, 1) := by decide +kernel
theorem d_X6_fits_32 : decode (bc mX6_fits) 32 = .ok (.getfield 7, 3) := by decide +kernel
theorem d_X6_fits_35 : decode (bc mX6_fits) 35 = .ok (.iload_n 2, 1) := by decide +kernel
theorem d_X6_fits_36 : decode (bc mX6_fits) 36 = .ok (.invokestatic 147, 3) := by decide +kernel
theorem d_X6_fits_39 : decode (bc mX6_fits) 39 = .ok (.iconst 1, 1) := by decide +kernel
theorem d_X6_fits_40 : decode (bc mX6_fits) 40 = .ok (.iadd, 1) := by decide +kernel
theorem d_X6_fits_41 : decode (bc mX6_fits) 41 = .ok (.iaload, 1) := by decide +kernel
theorem d_X6_fits_42 : decode (bc mX6_fits) 42 = .ok (.iload_n 1, 1) := by decide +kernel
theorem d_X6_fits_43 : decode (bc mX6_fits) 43 = .ok (.if_icmp .ne 13, 3) := by decide +kernel
theorem d_X6_fits_46 : decode (bc mX6_fits) 46 = .ok (.aload_n 0, 1) := by decide +kernel
theorem d_X6_fits_47 : decode (bc mX6_fits) 47 = .ok (.iload_n 2, 1) := by decide +kernel
theorem d_X6_fits_48 : decode (bc mX6_fits) 48 = .ok (.invokevirtual 257, 3) := by decide +kernel
theorem d_X6_fits_51 : decode (bc mX6_fits) 51 = .ok (.ifCond .eq 5, 3) := by decide +kernel
theorem d_X6_fits_54 : decode (bc mX6_fits) 54 = .ok (.iload_n 2, 1) := by decide +kernel
theorem d_X6_fits_55 : decode (bc mX6_fits) 55 = .ok (.ireturn, 1) := by decide +kernel
theorem d_X6_fits_56 : decode (bc mX6_fits) 56 = .ok (.iinc 2 1, 3) := by decide +kernel
theorem d_X6_fits_59 : decode (bc mX6_fits) 59 = .ok (.goto (-40), 3) := by decide +kernel
theorem d_X6_fits_62 : decode (bc mX6_fits) 62 = .ok (.bipush (-6), 2) := by decide +kernel
theorem d_X6_fits_64 : decode (bc mX6_fits) 64 = .ok (.ireturn, 1) := by decide +kernel
theorem d_X6_looksAt_0 : decode (bc mX6_looksAt) 0 = .ok (.iload_n 1, 1) := by decide +kernel
theorem d_X6_looksAt_1 : decode (bc mX6_looksAt) 1 = .ok (.invokestatic 234, 3) := by decide +kernel
theorem d_X6_looksAt_4 : decode (bc mX6_looksAt) 4 = .ok (.ifCond .ne 5, 3) := by decide +kernel
theorem d_X6_looksAt_7 : decode (bc mX6_looksAt) 7 = .ok (.iconst (-1), 1) := by decide +kernel
theorem d_X6_looksAt_8 : decode (bc mX6_looksAt) 8 = .ok (.ireturn, 1) := by decide +kernel
theorem d_X6_looksAt_9 : decode (bc mX6_looksAt) 9 = .ok (.aload_n 0, 1) := by decide +kernel
theorem d_X6_looksAt_10 : decode (bc mX6_looksAt) 10 = .ok (.aload_n 0, 1) := by decide +kernel
theorem d_X6_looksAt_11 : decode (bc mX6_looksAt) 11 = .ok (.getfield 7, 3) := by decide +kernel
theorem d_X6_looksAt_14 : decode (bc mX6_looksAt) 14 = .ok (.invokevirtual 254, 3) := by decide +kernel
theorem d_X6_looksAt_17 : decode (bc mX6_looksAt) 17 = .ok (.aload_n 0, 1) := by decide +kernel
theorem d_X6_looksAt_18 : decode (bc mX6_looksAt) 18 = .ok (.getfield 86, 3) := by decide +kernel
theorem d_X6_looksAt_21 : decode (bc mX6_looksAt) 21 = .ok (.iload_n 1, 1) := by decide +kernel
theorem d_X6_looksAt_22 : decode (bc mX6_looksAt) 22 = .ok (.iaload, 1) := by decide +kernel
theorem d_X6_looksAt_23 : decode (bc mX6_looksAt) 23 = .ok (.ireturn, 1) := by decide +kernel
theorem d_X6_changes_0 : decode (bc mX6_changes) 0 = .ok (.iload_n 1, 1) := by decide +kernel
theorem d_X6_changes_1 : decode (bc mX6_changes) 1 = .ok (.invokestatic 228, 3) := by decide +kernel
theorem d_X6_changes_4 : decode (bc mX6_changes) 4 = .ok (.ifCond .ne 5, 3) := by decide +kernel
theorem d_X6_changes_7 : decode (bc mX6_changes) 7 = .ok (.iconst (-1), 1) := by decide +kernel
theorem d_X6_changes_8 : decode (bc mX6_changes) 8 = .ok (.ireturn, 1) := by decide +kernel
theorem d_X6_changes_9 : decode (bc mX6_changes) 9 = .ok (.iload_n 2, 1) := by decide +kernel
theorem d_X6_changes_10 : decode (bc mX6_changes) 10 = .ok (.i2l, 1) := by decide +kernel
theorem d_X6_changes_11 : decode (bc mX6_changes) 11 = .ok (.lconst 0, 1) := by decide +kernel
theorem d_X6_changes_12 : decode (bc mX6_changes) 12 = .ok (.ldc2_w 232, 3) := by decide +kernel
theorem d_X6_changes_15 : decode (bc mX6_changes) 15 = .ok (.invokestatic 91, 3) := by decide +kernel
theorem d_X6_changes_18 : decode (bc mX6_changes) 18 = .ok (.ifCond .ne 6, 3) := by decide +kernel
theorem d_X6_changes_21 : decode (bc mX6_changes) 21 = .ok (.bipush (-2), 2) := by decide +kernel
theorem d_X6_changes_23 : decode (bc mX6_changes) 23 = .ok (.ireturn, 1) := by decide +kernel
theorem d_X6_changes_24 : decode (bc mX6_changes) 24 = .ok (.aload_n 0, 1) := by decide +kernel
theorem d_X6_changes_25 : decode (bc mX6_changes) 25 = .ok (.getfield 7, 3) := by decide +kernel
theorem d_X6_changes_28 : decode (bc mX6_changes) 28 = .ok (.iconst 0, 1) := by decide +kernel
theorem d_X6_changes_29 : decode (bc mX6_changes) 29 = .ok (.aload_n 0, 1) := by decide +kernel
theorem d_X6_changes_30 : decode (bc mX6_changes) 30 = .ok (.getfield 13, 3) := by decide +kernel
theorem d_X6_changes_33 : decode (bc mX6_changes) 33 = .ok (.iconst 0, 1) := by decide +kernel
theorem d_X6_changes_34 : decode (bc mX6_changes) 34 = .ok (.invokestatic 219, 3) := by decide +kernel
theorem d_X6_changes_37 : decode (bc mX6_changes) 37 = .ok (.aload_n 0, 1) := by decide +kernel
theorem d_X6_changes_38 : decode (bc mX6_changes) 38 = .ok (.getfield 13, 3) := by decide +kernel
theorem d_X6_changes_41 : decode (bc mX6_changes) 41 = .ok (.iconst 2, 1) := by decide +kernel
theorem d_X6_changes_42 : decode (bc mX6_changes) 42 = .ok (.iload_n 1, 1) := by decide +kernel
theorem d_X6_changes_43 : decode (bc mX6_changes) 43 = .ok (.iadd, 1) := by decide +kernel
theorem d_X6_changes_44 : decode (bc mX6_changes) 44 = .ok (.iload_n 2, 1) := by decide +kernel
theorem d_X6_changes_45 : decode (bc mX6_changes) 45 = .ok (.iastore, 1) := by decide +kernel
theorem d_X6_changes_46 : decode (bc mX6_changes) 46 = .ok (.iconst 0, 1) := by decide +kernel
theorem d_X6_changes_47 : decode (bc mX6_changes) 47 = .ok (.istore_n 3, 1) := by decide +kernel
theorem d_X6_changes_48 : decode (bc mX6_changes) 48 = .ok (.iconst 0, 1) := by decide +kernel
theorem d_X6_changes_49 : decode (bc mX6_changes) 49 = .ok (.istore 4, 2) := by decide +kernel
theorem d_X6_changes_51 : decode (bc mX6_changes) 51 = .ok (.iload 4, 2) := by decide +kernel
theorem d_X6_changes_53 : decode (bc mX6_changes) 53 = .ok (.bipush 6, 2) := by decide +kernel
theorem d_X6_changes_55 : decode (bc mX6_changes) 55 = .ok (.if_icmp .ge 57, 3) := by decide +kernel
theorem d_X6_changes_58 : decode (bc mX6_changes) 58 = .ok (.aload_n 0, 1) := by decide +kernel
theorem d_X6_changes_59 : decode (bc mX6_changes) 59 = .ok (.aload_n 0, 1) := by decide +kernel
theorem d_X6_changes_60 : decode (bc mX6_changes) 60 = .ok (.getfield 7, 3) := by decide +kernel
theorem d_X6_changes_63 : decode (bc mX6_changes) 63 = .ok (.invokevirtual 254, 3) := by decide +kernel
theorem d_X6_changes_66 : decode (bc mX6_changes) 66 = .ok (.aload_n 0, 1) := by decide +kernel
theorem d_X6_changes_67 : decode (bc mX6_changes) 67 = .ok (.getfield 83, 3) := by decide +kernel
theorem d_X6_changes_70 : decode (bc mX6_changes) 70 = .ok (.iload 4, 2) := by decide +kernel
theorem d_X6_changes_72 : decode (bc mX6_changes) 72 = .ok (.iaload, 1) := by decide +kernel
theorem d_X6_changes_73 : decode (bc mX6_changes) 73 = .ok (.istore 5, 2) := by decide +kernel
theorem d_X6_changes_75 : decode (bc mX6_changes) 75 = .ok (.aload_n 0, 1) := by decide +kernel
theorem d_X6_changes_76 : decode (bc mX6_changes) 76 = .ok (.aload_n 0, 1) := by decide +kernel
theorem d_X6_changes_77 : decode (bc mX6_changes) 77 = .ok (.getfield 13, 3) := by decide +kernel
theorem d_X6_changes_80 : decode (bc mX6_changes) 80 = .ok (.invokevirtual 254, 3) := by decide +kernel
theorem d_X6_changes_83 : decode (bc mX6_changes) 83 = .ok (.iload_n 3, 1) := by decide +kernel
theorem d_X6_changes_84 : decode (bc mX6_changes) 84 = .ok (.aload_n 0, 1) := by decide +kernel
theorem d_X6_changes_85 : decode (bc mX6_changes) 85 = .ok (.getfield 83, 3) := by decide +kernel
theorem d_X6_changes_88 : decode (bc mX6_changes) 88 = .ok (.iload 4, 2) := by decide +kernel
theorem d_X6_changes_90 : decode (bc mX6_changes) 90 = .ok (.iaload, 1) := by decide +kernel
theorem d_X6_changes_91 : decode (bc mX6_changes) 91 = .ok (.iload 5, 2) := by decide +kernel
theorem d_X6_changes_93 : decode (bc mX6_changes) 93 = .ok (.if_icmp .eq 10, 3) := by decide +kernel
theorem d_X6_changes_96 : decode (bc mX6_changes) 96 = .ok (.iconst 1, 1) := by decide +kernel
theorem d_X6_changes_97 : decode (bc mX6_changes) 97 = .ok (.iload 4, 2) := by decide +kernel
theorem d_X6_changes_99 : decode (bc mX6_changes) 99 = .ok (.ishl, 1) := by decide +kernel
theorem d_X6_changes_100 : decode (bc mX6_changes) 100 = .ok (.goto 4, 3) := by decide +kernel
theorem d_X6_changes_103 : decode (bc mX6_changes) 103 = .ok (.iconst 0, 1) := by decide +kernel
theorem d_X6_changes_104 : decode (bc mX6_changes) 104 = .ok (.ior, 1) := by decide +kernel
theorem d_X6_changes_105 : decode (bc mX6_changes) 105 = .ok (.istore_n 3, 1) := by decide +kernel
theorem d_X6_changes_106 : decode (bc mX6_changes) 106 = .ok (.iinc 4 1, 3) := by decide +kernel
theorem d_X6_changes_109 : decode (bc mX6_changes) 109 = .ok (.goto (-58), 3) := by decide +kernel
theorem d_X6_changes_112 : decode (bc mX6_changes) 112 = .ok (.iload_n 3, 1) := by decide +kernel
theorem d_X6_changes_113 : decode (bc mX6_changes) 113 = .ok (.ireturn, 1) := by decide +kernel
theorem d_X6_numberFor_0 : decode (bc mX6_numberFor) 0 = .ok (.iload_n 1, 1) := by decide +kernel
theorem d_X6_numberFor_1 : decode (bc mX6_numberFor) 1 = .ok (.invokestatic 228, 3) := by decide +kernel
theorem d_X6_numberFor_4 : decode (bc mX6_numberFor) 4 = .ok (.ifCond .eq 10, 3) := by decide +kernel
theorem d_X6_numberFor_7 : decode (bc mX6_numberFor) 7 = .ok (.iload_n 2, 1) := by decide +kernel
theorem d_X6_numberFor_8 : decode (bc mX6_numberFor) 8 = .ok (.invokestatic 234, 3) := by decide +kernel
theorem d_X6_numberFor_11 : decode (bc mX6_numberFor) 11 = .ok (.ifCond .ne 5, 3) := by decide +kernel
theorem d_X6_numberFor_14 : decode (bc mX6_numberFor) 14 = .ok (.iconst (-1), 1) := by decide +kernel
theorem d_X6_numberFor_15 : decode (bc mX6_numberFor) 15 = .ok (.ireturn, 1) := by decide +kernel
theorem d_X6_numberFor_16 : decode (bc mX6_numberFor) 16 = .ok (.iload_n 3, 1) := by decide +kernel
theorem d_X6_numberFor_17 : decode (bc mX6_numberFor) 17 = .ok (.i2l, 1) := by decide +kernel
theorem d_X6_numberFor_18 : decode (bc mX6_numberFor) 18 = .ok (.lconst 0, 1) := by decide +kernel
theorem d_X6_numberFor_19 : decode (bc mX6_numberFor) 19 = .ok (.ldc2_w 260, 3) := by decide +kernel
theorem d_X6_numberFor_22 : decode (bc mX6_numberFor) 22 = .ok (.invokestatic 91, 3) := by decide +kernel
theorem d_X6_numberFor_25 : decode (bc mX6_numberFor) 25 = .ok (.ifCond .ne 6, 3) := by decide +kernel
theorem d_X6_numberFor_28 : decode (bc mX6_numberFor) 28 = .ok (.bipush (-2), 2) := by decide +kernel
theorem d_X6_numberFor_30 : decode (bc mX6_numberFor) 30 = .ok (.ireturn, 1) := by decide +kernel
theorem d_X6_numberFor_31 : decode (bc mX6_numberFor) 31 = .ok (.aload_n 0, 1) := by decide +kernel
theorem d_X6_numberFor_32 : decode (bc mX6_numberFor) 32 = .ok (.getfield 7, 3) := by decide +kernel
theorem d_X6_numberFor_35 : decode (bc mX6_numberFor) 35 = .ok (.iconst 0, 1) := by decide +kernel
theorem d_X6_numberFor_36 : decode (bc mX6_numberFor) 36 = .ok (.aload_n 0, 1) := by decide +kernel
theorem d_X6_numberFor_37 : decode (bc mX6_numberFor) 37 = .ok (.getfield 13, 3) := by decide +kernel
theorem d_X6_numberFor_40 : decode (bc mX6_numberFor) 40 = .ok (.iconst 0, 1) := by decide +kernel
theorem d_X6_numberFor_41 : decode (bc mX6_numberFor) 41 = .ok (.invokestatic 219, 3) := by decide +kernel
theorem d_X6_numberFor_44 : decode (bc mX6_numberFor) 44 = .ok (.iconst 0, 1) := by decide +kernel
theorem d_X6_numberFor_45 : decode (bc mX6_numberFor) 45 = .ok (.istore 4, 2) := by decide +kernel
theorem d_X6_numberFor_47 : decode (bc mX6_numberFor) 47 = .ok (.iload 4, 2) := by decide +kernel
theorem d_X6_numberFor_49 : decode (bc mX6_numberFor) 49 = .ok (.bipush 99, 2) := by decide +kernel
theorem d_X6_numberFor_51 : decode (bc mX6_numberFor) 51 = .ok (.if_icmp .gt 40, 3) := by decide +kernel
theorem d_X6_numberFor_54 : decode (bc mX6_numberFor) 54 = .ok (.aload_n 0, 1) := by decide +kernel
theorem d_X6_numberFor_55 : decode (bc mX6_numberFor) 55 = .ok (.getfield 13, 3) := by decide +kernel
theorem d_X6_numberFor_58 : decode (bc mX6_numberFor) 58 = .ok (.iconst 2, 1) := by decide +kernel
theorem d_X6_numberFor_59 : decode (bc mX6_numberFor) 59 = .ok (.iload_n 1, 1) := by decide +kernel
theorem d_X6_numberFor_60 : decode (bc mX6_numberFor) 60 = .ok (.iadd, 1) := by decide +kernel
theorem d_X6_numberFor_61 : decode (bc mX6_numberFor) 61 = .ok (.iload 4, 2) := by decide +kernel
theorem d_X6_numberFor_63 : decode (bc mX6_numberFor) 63 = .ok (.iastore, 1) := by decide +kernel
theorem d_X6_numberFor_64 : decode (bc mX6_numberFor) 64 = .ok (.aload_n 0, 1) := by decide +kernel
theorem d_X6_numberFor_65 : decode (bc mX6_numberFor) 65 = .ok (.aload_n 0, 1) := by decide +kernel
theorem d_X6_numberFor_66 : decode (bc mX6_numberFor) 66 = .ok (.getfield 13, 3) := by decide +kernel
theorem d_X6_numberFor_69 : decode (bc mX6_numberFor) 69 = .ok (.invokevirtual 254, 3) := by decide +kernel
theorem d_X6_numberFor_72 : decode (bc mX6_numberFor) 72 = .ok (.aload_n 0, 1) := by decide +kernel
theorem d_X6_numberFor_73 : decode (bc mX6_numberFor) 73 = .ok (.getfield 83, 3) := by decide +kernel
theorem d_X6_numberFor_76 : decode (bc mX6_numberFor) 76 = .ok (.iload_n 2, 1) := by decide +kernel
theorem d_X6_numberFor_77 : decode (bc mX6_numberFor) 77 = .ok (.iaload, 1) := by decide +kernel
theorem d_X6_numberFor_78 : decode (bc mX6_numberFor) 78 = .ok (.iload_n 3, 1) := by decide +kernel
theorem d_X6_numberFor_79 : decode (bc mX6_numberFor) 79 = .ok (.if_icmp .ne 6, 3) := by decide +kernel
theorem d_X6_numberFor_82 : decode (bc mX6_numberFor) 82 = .ok (.iload 4, 2) := by decide +kernel
theorem d_X6_numberFor_84 : decode (bc mX6_numberFor) 84 = .ok (.ireturn, 1) := by decide +kernel
theorem d_X6_numberFor_85 : decode (bc mX6_numberFor) 85 = .ok (.iinc 4 1, 3) := by decide +kernel
theorem d_X6_numberFor_88 : decode (bc mX6_numberFor) 88 = .ok (.goto (-41), 3) := by decide +kernel
theorem d_X6_numberFor_91 : decode (bc mX6_numberFor) 91 = .ok (.bipush (-6), 2) := by decide +kernel
theorem d_X6_numberFor_93 : decode (bc mX6_numberFor) 93 = .ok (.ireturn, 1) := by decide +kernel
theorem d_X6_stepsFor_0 : decode (bc mX6_stepsFor) 0 = .ok (.iload_n 1, 1) := by decide +kernel
theorem d_X6_stepsFor_1 : decode (bc mX6_stepsFor) 1 = .ok (.invokestatic 234, 3) := by decide +kernel
theorem d_X6_stepsFor_4 : decode (bc mX6_stepsFor) 4 = .ok (.ifCond .ne 5, 3) := by decide +kernel
theorem d_X6_stepsFor_7 : decode (bc mX6_stepsFor) 7 = .ok (.iconst (-1), 1) := by decide +kernel
theorem d_X6_stepsFor_8 : decode (bc mX6_stepsFor) 8 = .ok (.ireturn, 1) := by decide +kernel
theorem d_X6_stepsFor_9 : decode (bc mX6_stepsFor) 9 = .ok (.aload_n 0, 1) := by decide +kernel
theorem d_X6_stepsFor_10 : decode (bc mX6_stepsFor) 10 = .ok (.getfield 7, 3) := by decide +kernel
theorem d_X6_stepsFor_13 : decode (bc mX6_stepsFor) 13 = .ok (.iconst 0, 1) := by decide +kernel
theorem d_X6_stepsFor_14 : decode (bc mX6_stepsFor) 14 = .ok (.aload_n 0, 1) := by decide +kernel
theorem d_X6_stepsFor_15 : decode (bc mX6_stepsFor) 15 = .ok (.getfield 13, 3) := by decide +kernel
theorem d_X6_stepsFor_18 : decode (bc mX6_stepsFor) 18 = .ok (.iconst 0, 1) := by decide +kernel
theorem d_X6_stepsFor_19 : decode (bc mX6_stepsFor) 19 = .ok (.invokestatic 219, 3) := by decide +kernel
theorem d_X6_stepsFor_22 : decode (bc mX6_stepsFor) 22 = .ok (.aload_n 0, 1) := by decide +kernel
theorem d_X6_stepsFor_23 : decode (bc mX6_stepsFor) 23 = .ok (.aload_n 0, 1) := by decide +kernel
theorem d_X6_stepsFor_24 : decode (bc mX6_stepsFor) 24 = .ok (.getfield 13, 3) := by decide +kernel
theorem d_X6_stepsFor_27 : decode (bc mX6_stepsFor) 27 = .ok (.iload_n 1, 1) := by decide +kernel
theorem d_X6_stepsFor_28 : decode (bc mX6_stepsFor) 28 = .ok (.invokevirtual 237, 3) := by decide +kernel
theorem d_X6_stepsFor_31 : decode (bc mX6_stepsFor) 31 = .ok (.pop, 1) := by decide +kernel
theorem d_X6_stepsFor_32 : decode (bc mX6_stepsFor) 32 = .ok (.aload_n 0, 1) := by decide +kernel
theorem d_X6_stepsFor_33 : decode (bc mX6_stepsFor) 33 = .ok (.getfield 13, 3) := by decide +kernel
theorem d_X6_stepsFor_36 : decode (bc mX6_stepsFor) 36 = .ok (.sipush 812, 3) := by decide +kernel
theorem d_X6_stepsFor_39 : decode (bc mX6_stepsFor) 39 = .ok (.iaload, 1) := by decide +kernel
theorem d_X6_stepsFor_40 : decode (bc mX6_stepsFor) 40 = .ok (.aload_n 0, 1) := by decide +kernel
theorem d_X6_stepsFor_41 : decode (bc mX6_stepsFor) 41 = .ok (.getfield 7, 3) := by decide +kernel
theorem d_X6_stepsFor_44 : decode (bc mX6_stepsFor) 44 = .ok (.sipush 812, 3) := by decide +kernel
theorem d_X6_stepsFor_47 : decode (bc mX6_stepsFor) 47 = .ok (.iaload, 1) := by decide +kernel
theorem d_X6_stepsFor_48 : decode (bc mX6_stepsFor) 48 = .ok (.isub, 1) := by decide +kernel
theorem d_X6_stepsFor_49 : decode (bc mX6_stepsFor) 49 = .ok (.ireturn, 1) := by decide +kernel
theorem d_X6_undo_0 : decode (bc mX6_undo) 0 = .ok (.aload_n 0, 1) := by decide +kernel
theorem d_X6_undo_1 : decode (bc mX6_undo) 1 = .ok (.getfield 216, 3) := by decide +kernel
theorem d_X6_undo_4 : decode (bc mX6_undo) 4 = .ok (.ifCond .ne 6, 3) := by decide +kernel
theorem d_X6_undo_7 : decode (bc mX6_undo) 7 = .ok (.bipush (-5), 2) := by decide +kernel
theorem d_X6_undo_9 : decode (bc mX6_undo) 9 = .ok (.ireturn, 1) := by decide +kernel
theorem d_X6_undo_10 : decode (bc mX6_undo) 10 = .ok (.aload_n 0, 1) := by decide +kernel
theorem d_X6_undo_11 : decode (bc mX6_undo) 11 = .ok (.dup, 1) := by decide +kernel
theorem d_X6_undo_12 : decode (bc mX6_undo) 12 = .ok (.getfield 216, 3) := by decide +kernel
theorem d_X6_undo_15 : decode (bc mX6_undo) 15 = .ok (.iconst 1, 1) := by decide +kernel
theorem d_X6_undo_16 : decode (bc mX6_undo) 16 = .ok (.isub, 1) := by decide +kernel
theorem d_X6_undo_17 : decode (bc mX6_undo) 17 = .ok (.putfield 216, 3) := by decide +kernel
theorem d_X6_undo_20 : decode (bc mX6_undo) 20 = .ok (.aload_n 0, 1) := by decide +kernel
theorem d_X6_undo_21 : decode (bc mX6_undo) 21 = .ok (.getfield 16, 3) := by decide +kernel
theorem d_X6_undo_24 : decode (bc mX6_undo) 24 = .ok (.sipush 1496, 3) := by decide +kernel
theorem d_X6_undo_27 : decode (bc mX6_undo) 27 = .ok (.aload_n 0, 1) := by decide +kernel
theorem d_X6_undo_28 : decode (bc mX6_undo) 28 = .ok (.getfield 216, 3) := by decide +kernel
theorem d_X6_undo_31 : decode (bc mX6_undo) 31 = .ok (.imul, 1) := by decide +kernel
theorem d_X6_undo_32 : decode (bc mX6_undo) 32 = .ok (.aload_n 0, 1) := by decide +kernel
theorem d_X6_undo_33 : decode (bc mX6_undo) 33 = .ok (.getfield 7, 3) := by decide +kernel
theorem d_X6_undo_36 : decode (bc mX6_undo) 36 = .ok (.iconst 0, 1) := by decide +kernel
theorem d_X6_undo_37 : decode (bc mX6_undo) 37 = .ok (.invokestatic 219, 3) := by decide +kernel
theorem d_X6_undo_40 : decode (bc mX6_undo) 40 = .ok (.aload_n 0, 1) := by decide +kernel
theorem d_X6_undo_41 : decode (bc mX6_undo) 41 = .ok (.getfield 216, 3) := by decide +kernel
theorem d_X6_undo_44 : decode (bc mX6_undo) 44 = .ok (.ireturn, 1) := by decide +kernel
theorem d_X6_save_0 : decode (bc mX6_save) 0 = .ok (.iload_n 1, 1) := by decide +kernel
theorem d_X6_save_1 : decode (bc mX6_save) 1 = .ok (.i2l, 1) := by decide +kernel
theorem d_X6_save_2 : decode (bc mX6_save) 2 = .ok (.lconst 0, 1) := by decide +kernel
theorem d_X6_save_3 : decode (bc mX6_save) 3 = .ok (.lconst 1, 1) := by decide +kernel
theorem d_X6_save_4 : decode (bc mX6_save) 4 = .ok (.invokestatic 91, 3) := by decide +kernel
theorem d_X6_save_7 : decode (bc mX6_save) 7 = .ok (.ifCond .ne 6, 3) := by decide +kernel
theorem d_X6_save_10 : decode (bc mX6_save) 10 = .ok (.bipush (-2), 2) := by decide +kernel
theorem d_X6_save_12 : decode (bc mX6_save) 12 = .ok (.ireturn, 1) := by decide +kernel
theorem d_X6_save_13 : decode (bc mX6_save) 13 = .ok (.aload_n 0, 1) := by decide +kernel
theorem d_X6_save_14 : decode (bc mX6_save) 14 = .ok (.getfield 7, 3) := by decide +kernel
theorem d_X6_save_17 : decode (bc mX6_save) 17 = .ok (.iconst 0, 1) := by decide +kernel
theorem d_X6_save_18 : decode (bc mX6_save) 18 = .ok (.aload_n 0, 1) := by decide +kernel
theorem d_X6_save_19 : decode (bc mX6_save) 19 = .ok (.getfield 19, 3) := by decide +kernel
theorem d_X6_save_22 : decode (bc mX6_save) 22 = .ok (.sipush 1496, 3) := by decide +kernel
theorem d_X6_save_25 : decode (bc mX6_save) 25 = .ok (.iload_n 1, 1) := by decide +kernel
theorem d_X6_save_26 : decode (bc mX6_save) 26 = .ok (.imul, 1) := by decide +kernel
theorem d_X6_save_27 : decode (bc mX6_save) 27 = .ok (.invokestatic 219, 3) := by decide +kernel
theorem d_X6_save_30 : decode (bc mX6_save) 30 = .ok (.aload_n 0, 1) := by decide +kernel
theorem d_X6_save_31 : decode (bc mX6_save) 31 = .ok (.getfield 22, 3) := by decide +kernel
theorem d_X6_save_34 : decode (bc mX6_save) 34 = .ok (.iload_n 1, 1) := by decide +kernel
theorem d_X6_save_35 : decode (bc mX6_save) 35 = .ok (.iconst 1, 1) := by decide +kernel
theorem d_X6_save_36 : decode (bc mX6_save) 36 = .ok (.bastore, 1) := by decide +kernel
theorem d_X6_save_37 : decode (bc mX6_save) 37 = .ok (.aload_n 0, 1) := by decide +kernel
theorem d_X6_save_38 : decode (bc mX6_save) 38 = .ok (.getfield 7, 3) := by decide +kernel
theorem d_X6_save_41 : decode (bc mX6_save) 41 = .ok (.sipush 814, 3) := by decide +kernel
theorem d_X6_save_44 : decode (bc mX6_save) 44 = .ok (.iaload, 1) := by decide +kernel
theorem d_X6_save_45 : decode (bc mX6_save) 45 = .ok (.ireturn, 1) := by decide +kernel
theorem d_X6_restore_0 : decode (bc mX6_restore) 0 = .ok (.iload_n 1, 1) := by decide +kernel
theorem d_X6_restore_1 : decode (bc mX6_restore) 1 = .ok (.i2l, 1) := by decide +kernel
theorem d_X6_restore_2 : decode (bc mX6_restore) 2 = .ok (.lconst 0, 1) := by decide +kernel
theorem d_X6_restore_3 : decode (bc mX6_restore) 3 = .ok (.lconst 1, 1) := by decide +kernel
theorem d_X6_restore_4 : decode (bc mX6_restore) 4 = .ok (.invokestatic 91, 3) := by decide +kernel
theorem d_X6_restore_7 : decode (bc mX6_restore) 7 = .ok (.ifCond .ne 6, 3) := by decide +kernel
theorem d_X6_restore_10 : decode (bc mX6_restore) 10 = .ok (.bipush (-2), 2) := by decide +kernel
theorem d_X6_restore_12 : decode (bc mX6_restore) 12 = .ok (.ireturn, 1) := by decide +kernel
theorem d_X6_restore_13 : decode (bc mX6_restore) 13 = .ok (.aload_n 0, 1) := by decide +kernel
theorem d_X6_restore_14 : decode (bc mX6_restore) 14 = .ok (.getfield 22, 3) := by decide +kernel
theorem d_X6_restore_17 : decode (bc mX6_restore) 17 = .ok (.iload_n 1, 1) := by decide +kernel
theorem d_X6_restore_18 : decode (bc mX6_restore) 18 = .ok (.baload, 1) := by decide +kernel
theorem d_X6_restore_19 : decode (bc mX6_restore) 19 = .ok (.ifCond .ne 6, 3) := by decide +kernel
theorem d_X6_restore_22 : decode (bc mX6_restore) 22 = .ok (.bipush (-5), 2) := by decide +kernel
theorem d_X6_restore_24 : decode (bc mX6_restore) 24 = .ok (.ireturn, 1) := by decide +kernel
theorem d_X6_restore_25 : decode (bc mX6_restore) 25 = .ok (.aload_n 0, 1) := by decide +kernel
theorem d_X6_restore_26 : decode (bc mX6_restore) 26 = .ok (.invokevirtual 225, 3) := by decide +kernel
theorem d_X6_restore_29 : decode (bc mX6_restore) 29 = .ok (.aload_n 0, 1) := by decide +kernel
theorem d_X6_restore_30 : decode (bc mX6_restore) 30 = .ok (.getfield 19, 3) := by decide +kernel
theorem d_X6_restore_33 : decode (bc mX6_restore) 33 = .ok (.sipush 1496, 3) := by decide +kernel
theorem d_X6_restore_36 : decode (bc mX6_restore) 36 = .ok (.iload_n 1, 1) := by decide +kernel
theorem d_X6_restore_37 : decode (bc mX6_restore) 37 = .ok (.imul, 1) := by decide +kernel
theorem d_X6_restore_38 : decode (bc mX6_restore) 38 = .ok (.aload_n 0, 1) := by decide +kernel
theorem d_X6_restore_39 : decode (bc mX6_restore) 39 = .ok (.getfield 7, 3) := by decide +kernel
theorem d_X6_restore_42 : decode (bc mX6_restore) 42 = .ok (.iconst 0, 1) := by decide +kernel
theorem d_X6_restore_43 : decode (bc mX6_restore) 43 = .ok (.invokestatic 219, 3) := by decide +kernel
theorem d_X6_restore_46 : decode (bc mX6_restore) 46 = .ok (.aload_n 0, 1) := by decide +kernel
theorem d_X6_restore_47 : decode (bc mX6_restore) 47 = .ok (.getfield 7, 3) := by decide +kernel
theorem d_X6_restore_50 : decode (bc mX6_restore) 50 = .ok (.sipush 814, 3) := by decide +kernel
theorem d_X6_restore_53 : decode (bc mX6_restore) 53 = .ok (.iaload, 1) := by decide +kernel
theorem d_X6_restore_54 : decode (bc mX6_restore) 54 = .ok (.ireturn, 1) := by decide +kernel
theorem d_J7_fill_53178_0 : decode (bc mJ7_fill_53178) 0 = .ok (.iconst 0, 1) := by decide +kernel
theorem d_J7_fill_53178_1 : decode (bc mJ7_fill_53178) 1 = .ok (.istore_n 2, 1) := by decide +kernel
theorem d_J7_fill_53178_2 : decode (bc mJ7_fill_53178) 2 = .ok (.aload_n 0, 1) := by decide +kernel
theorem d_J7_fill_53178_3 : decode (bc mJ7_fill_53178) 3 = .ok (.arraylength, 1) := by decide +kernel
theorem d_J7_fill_53178_4 : decode (bc mJ7_fill_53178) 4 = .ok (.istore_n 3, 1) := by decide +kernel
theorem d_J7_fill_53178_5 : decode (bc mJ7_fill_53178) 5 = .ok (.iload_n 2, 1) := by decide +kernel
theorem d_J7_fill_53178_6 : decode (bc mJ7_fill_53178) 6 = .ok (.iload_n 3, 1) := by decide +kernel
theorem d_J7_fill_53178_7 : decode (bc mJ7_fill_53178) 7 = .ok (.if_icmp .ge 13, 3) := by decide +kernel
theorem d_J7_fill_53178_10 : decode (bc mJ7_fill_53178) 10 = .ok (.aload_n 0, 1) := by decide +kernel
theorem d_J7_fill_53178_11 : decode (bc mJ7_fill_53178) 11 = .ok (.iload_n 2, 1) := by decide +kernel
theorem d_J7_fill_53178_12 : decode (bc mJ7_fill_53178) 12 = .ok (.iload_n 1, 1) := by decide +kernel
theorem d_J7_fill_53178_13 : decode (bc mJ7_fill_53178) 13 = .ok (.iastore, 1) := by decide +kernel
theorem d_J7_fill_53178_14 : decode (bc mJ7_fill_53178) 14 = .ok (.iinc 2 1, 3) := by decide +kernel
theorem d_J7_fill_53178_17 : decode (bc mJ7_fill_53178) 17 = .ok (.goto (-12), 3) := by decide +kernel
theorem d_J7_fill_53178_20 : decode (bc mJ7_fill_53178) 20 = .ok (.return_, 1) := by decide +kernel
theorem d_J7_copyOf_59c91_0 : decode (bc mJ7_copyOf_59c91) 0 = .ok (.iload_n 1, 1) := by decide +kernel
theorem d_J7_copyOf_59c91_1 : decode (bc mJ7_copyOf_59c91) 1 = .ok (.aload_n 0, 1) := by decide +kernel
theorem d_J7_copyOf_59c91_2 : decode (bc mJ7_copyOf_59c91) 2 = .ok (.arraylength, 1) := by decide +kernel
theorem d_J7_copyOf_59c91_3 : decode (bc mJ7_copyOf_59c91) 3 = .ok (.if_icmp .ne 11, 3) := by decide +kernel
theorem d_J7_copyOf_59c91_6 : decode (bc mJ7_copyOf_59c91) 6 = .ok (.aload_n 0, 1) := by decide +kernel
theorem d_J7_copyOf_59c91_7 : decode (bc mJ7_copyOf_59c91) 7 = .ok (.invokevirtual 316, 3) := by decide +kernel
theorem d_J7_copyOf_59c91_10 : decode (bc mJ7_copyOf_59c91) 10 = .ok (.checkcast 317, 3) := by decide +kernel
theorem d_J7_copyOf_59c91_13 : decode (bc mJ7_copyOf_59c91) 13 = .ok (.areturn, 1) := by decide +kernel
theorem d_J7_copyOf_59c91_14 : decode (bc mJ7_copyOf_59c91) 14 = .ok (.iload_n 1, 1) := by decide +kernel
theorem d_J7_copyOf_59c91_15 : decode (bc mJ7_copyOf_59c91) 15 = .ok (.newarray .int, 2) := by decide +kernel
theorem d_J7_copyOf_59c91_17 : decode (bc mJ7_copyOf_59c91) 17 = .ok (.astore_n 2, 1) := by decide +kernel
theorem d_J7_copyOf_59c91_18 : decode (bc mJ7_copyOf_59c91) 18 = .ok (.aload_n 0, 1) := by decide +kernel
theorem d_J7_copyOf_59c91_19 : decode (bc mJ7_copyOf_59c91) 19 = .ok (.iconst 0, 1) := by decide +kernel
theorem d_J7_copyOf_59c91_20 : decode (bc mJ7_copyOf_59c91) 20 = .ok (.aload_n 2, 1) := by decide +kernel
theorem d_J7_copyOf_59c91_21 : decode (bc mJ7_copyOf_59c91) 21 = .ok (.iconst 0, 1) := by decide +kernel
theorem d_J7_copyOf_59c91_22 : decode (bc mJ7_copyOf_59c91) 22 = .ok (.aload_n 0, 1) := by decide +kernel
theorem d_J7_copyOf_59c91_23 : decode (bc mJ7_copyOf_59c91) 23 = .ok (.arraylength, 1) := by decide +kernel
theorem d_J7_copyOf_59c91_24 : decode (bc mJ7_copyOf_59c91) 24 = .ok (.iload_n 1, 1) := by decide +kernel
theorem d_J7_copyOf_59c91_25 : decode (bc mJ7_copyOf_59c91) 25 = .ok (.invokestatic 304, 3) := by decide +kernel
theorem d_J7_copyOf_59c91_28 : decode (bc mJ7_copyOf_59c91) 28 = .ok (.invokestatic 150, 3) := by decide +kernel
theorem d_J7_copyOf_59c91_31 : decode (bc mJ7_copyOf_59c91) 31 = .ok (.aload_n 2, 1) := by decide +kernel
theorem d_J7_copyOf_59c91_32 : decode (bc mJ7_copyOf_59c91) 32 = .ok (.areturn, 1) := by decide +kernel
theorem d_L_law_0 : decode (bc mL_law) 0 = .ok (.new 7, 3) := by decide +kernel
theorem d_L_law_3 : decode (bc mL_law) 3 = .ok (.dup, 1) := by decide +kernel
theorem d_L_law_4 : decode (bc mL_law) 4 = .ok (.invokespecial 9, 3) := by decide +kernel
theorem d_L_law_7 : decode (bc mL_law) 7 = .ok (.astore_n 1, 1) := by decide +kernel
theorem d_L_law_8 : decode (bc mL_law) 8 = .ok (.new 10, 3) := by decide +kernel
theorem d_L_law_11 : decode (bc mL_law) 11 = .ok (.dup, 1) := by decide +kernel
theorem d_L_law_12 : decode (bc mL_law) 12 = .ok (.invokespecial 12, 3) := by decide +kernel
theorem d_L_law_15 : decode (bc mL_law) 15 = .ok (.astore_n 2, 1) := by decide +kernel
theorem d_L_law_16 : decode (bc mL_law) 16 = .ok (.iconst 0, 1) := by decide +kernel
theorem d_L_law_17 : decode (bc mL_law) 17 = .ok (.istore_n 3, 1) := by decide +kernel
theorem d_L_law_18 : decode (bc mL_law) 18 = .ok (.iload_n 3, 1) := by decide +kernel
theorem d_L_law_19 : decode (bc mL_law) 19 = .ok (.aload_n 0, 1) := by decide +kernel
theorem d_L_law_20 : decode (bc mL_law) 20 = .ok (.arraylength, 1) := by decide +kernel
theorem d_L_law_21 : decode (bc mL_law) 21 = .ok (.iconst 4, 1) := by decide +kernel
theorem d_L_law_22 : decode (bc mL_law) 22 = .ok (.isub, 1) := by decide +kernel
theorem d_L_law_23 : decode (bc mL_law) 23 = .ok (.if_icmp .gt 762, 3) := by decide +kernel
theorem d_L_law_26 : decode (bc mL_law) 26 = .ok (.aload_n 0, 1) := by decide +kernel
theorem d_L_law_27 : decode (bc mL_law) 27 = .ok (.iload_n 3, 1) := by decide +kernel
theorem d_L_law_28 : decode (bc mL_law) 28 = .ok (.iaload, 1) := by decide +kernel
theorem d_L_law_29 : decode (bc mL_law) 29 = .ok (.bipush 31, 2) := by decide +kernel
theorem d_L_law_31 : decode (bc mL_law) 31 = .ok (.iand, 1) := by decide +kernel
theorem d_L_law_32 : decode (bc mL_law) 32 = .ok (.tableswitch 747 0 22 #[108, 141, 174, 207, 230, 253, 306, 319, 332, 355, 388, 421, 454, 497, 520, 543, 566, 589, 622, 665, 688, 701, 724], 108) := by decide +kernel
theorem d_L_law_140 : decode (bc mL_law) 140 = .ok (.aload_n 1, 1) := by decide +kernel
theorem d_L_law_141 : decode (bc mL_law) 141 = .ok (.aload_n 0, 1) := by decide +kernel
theorem d_L_law_142 : decode (bc mL_law) 142 = .ok (.iload_n 3, 1) := by decide +kernel
theorem d_L_law_143 : decode (bc mL_law) 143 = .ok (.iconst 1, 1) := by decide +kernel
theorem d_L_law_144 : decode (bc mL_law) 144 = .ok (.iadd, 1) := by decide +kernel
theorem d_L_law_145 : decode (bc mL_law) 145 = .ok (.iaload, 1) := by decide +kernel
theorem d_L_law_146 : decode (bc mL_law) 146 = .ok (.aload_n 0, 1) := by decide +kernel
theorem d_L_law_147 : decode (bc mL_law) 147 = .ok (.iload_n 3, 1) := by decide +kernel
theorem d_L_law_148 : decode (bc mL_law) 148 = .ok (.iconst 2, 1) := by decide +kernel
theorem d_L_law_149 : decode (bc mL_law) 149 = .ok (.iadd, 1) := by decide +kernel
theorem d_L_law_150 : decode (bc mL_law) 150 = .ok (.iaload, 1) := by decide +kernel
theorem d_L_law_151 : decode (bc mL_law) 151 = .ok (.invokevirtual 13, 3) := by decide +kernel
theorem d_L_law_154 : decode (bc mL_law) 154 = .ok (.aload_n 2, 1) := by decide +kernel
theorem d_L_law_155 : decode (bc mL_law) 155 = .ok (.aload_n 0, 1) := by decide +kernel
theorem d_L_law_156 : decode (bc mL_law) 156 = .ok (.iload_n 3, 1) := by decide +kernel
theorem d_L_law_157 : decode (bc mL_law) 157 = .ok (.iconst 1, 1) := by decide +kernel
theorem d_L_law_158 : decode (bc mL_law) 158 = .ok (.iadd, 1) := by decide +kernel
theorem d_L_law_159 : decode (bc mL_law) 159 = .ok (.iaload, 1) := by decide +kernel
theorem d_L_law_160 : decode (bc mL_law) 160 = .ok (.aload_n 0, 1) := by decide +kernel
theorem d_L_law_161 : decode (bc mL_law) 161 = .ok (.iload_n 3, 1) := by decide +kernel
theorem d_L_law_162 : decode (bc mL_law) 162 = .ok (.iconst 2, 1) := by decide +kernel
theorem d_L_law_163 : decode (bc mL_law) 163 = .ok (.iadd, 1) := by decide +kernel
theorem d_L_law_164 : decode (bc mL_law) 164 = .ok (.iaload, 1) := by decide +kernel
theorem d_L_law_165 : decode (bc mL_law) 165 = .ok (.invokevirtual 17, 3) := by decide +kernel
theorem d_L_law_168 : decode (bc mL_law) 168 = .ok (.if_icmp .eq 611, 3) := by decide +kernel
theorem d_L_law_171 : decode (bc mL_law) 171 = .ok (.iconst 0, 1) := by decide +kernel
theorem d_L_law_172 : decode (bc mL_law) 172 = .ok (.ireturn, 1) := by decide +kernel
theorem d_L_law_173 : decode (bc mL_law) 173 = .ok (.aload_n 1, 1) := by decide +kernel
theorem d_L_law_174 : decode (bc mL_law) 174 = .ok (.aload_n 0, 1) := by decide +kernel
theorem d_L_law_175 : decode (bc mL_law) 175 = .ok (.iload_n 3, 1) := by decide +kernel
theorem d_L_law_176 : decode (bc mL_law) 176 = .ok (.iconst 1, 1) := by decide +kernel
theorem d_L_law_177 : decode (bc mL_law) 177 = .ok (.iadd, 1) := by decide +kernel
theorem d_L_law_178 : decode (bc mL_law) 178 = .ok (.iaload, 1) := by decide +kernel
theorem d_L_law_179 : decode (bc mL_law) 179 = .ok (.aload_n 0, 1) := by decide +kernel
theorem d_L_law_180 : decode (bc mL_law) 180 = .ok (.iload_n 3, 1) := by decide +kernel
theorem d_L_law_181 : decode (bc mL_law) 181 = .ok (.iconst 2, 1) := by decide +kernel
theorem d_L_law_182 : decode (bc mL_law) 182 = .ok (.iadd, 1) := by decide +kernel
theorem d_L_law_183 : decode (bc mL_law) 183 = .ok (.iaload, 1) := by decide +kernel
theorem d_L_law_184 : decode (bc mL_law) 184 = .ok (.invokevirtual 18, 3) := by decide +kernel
theorem d_L_law_187 : decode (bc mL_law) 187 = .ok (.aload_n 2, 1) := by decide +kernel
theorem d_L_law_188 : decode (bc mL_law) 188 = .ok (.aload_n 0, 1) := by decide +kernel
theorem d_L_law_189 : decode (bc mL_law) 189 = .ok (.iload_n 3, 1) := by decide +kernel
theorem d_L_law_190 : decode (bc mL_law) 190 = .ok (.iconst 1, 1) := by decide +kernel
theorem d_L_law_191 : decode (bc mL_law) 191 = .ok (.iadd, 1) := by decide +kernel
theorem d_L_law_192 : decode (bc mL_law) 192 = .ok (.iaload, 1) := by decide +kernel
theorem d_L_law_193 : decode (bc mL_law) 193 = .ok (.aload_n 0, 1) := by decide +kernel
theorem d_L_law_194 : decode (bc mL_law) 194 = .ok (.iload_n 3, 1) := by decide +kernel
theorem d_L_law_195 : decode (bc mL_law) 195 = .ok (.iconst 2, 1) := by decide +kernel
theorem d_L_law_196 : decode (bc mL_law) 196 = .ok (.iadd, 1) := by decide +kernel
theorem d_L_law_197 : decode (bc mL_law) 197 = .ok (.iaload, 1) := by decide +kernel
theorem d_L_law_198 : decode (bc mL_law) 198 = .ok (.invokevirtual 21, 3) := by decide +kernel
theorem d_L_law_201 : decode (bc mL_law) 201 = .ok (.if_icmp .eq 578, 3) := by decide +kernel
theorem d_L_law_204 : decode (bc mL_law) 204 = .ok (.iconst 0, 1) := by decide +kernel
theorem d_L_law_205 : decode (bc mL_law) 205 = .ok (.ireturn, 1) := by decide +kernel
theorem d_L_law_206 : decode (bc mL_law) 206 = .ok (.aload_n 1, 1) := by decide +kernel
theorem d_L_law_207 : decode (bc mL_law) 207 = .ok (.aload_n 0, 1) := by decide +kernel
theorem d_L_law_208 : decode (bc mL_law) 208 = .ok (.iload_n 3, 1) := by decide +kernel
theorem d_L_law_209 : decode (bc mL_law) 209 = .ok (.iconst 1, 1) := by decide +kernel
theorem d_L_law_210 : decode (bc mL_law) 210 = .ok (.iadd, 1) := by decide +kernel
theorem d_L_law_211 : decode (bc mL_law) 211 = .ok (.iaload, 1) := by decide +kernel
theorem d_L_law_212 : decode (bc mL_law) 212 = .ok (.aload_n 0, 1) := by decide +kernel
theorem d_L_law_213 : decode (bc mL_law) 213 = .ok (.iload_n 3, 1) := by decide +kernel
theorem d_L_law_214 : decode (bc mL_law) 214 = .ok (.iconst 2, 1) := by decide +kernel
theorem d_L_law_215 : decode (bc mL_law) 215 = .ok (.iadd, 1) := by decide +kernel
theorem d_L_law_216 : decode (bc mL_law) 216 = .ok (.iaload, 1) := by decide +kernel
theorem d_L_law_217 : decode (bc mL_law) 217 = .ok (.invokevirtual 22, 3) := by decide +kernel
theorem d_L_law_220 : decode (bc mL_law) 220 = .ok (.aload_n 2, 1) := by decide +kernel
theorem d_L_law_221 : decode (bc mL_law) 221 = .ok (.aload_n 0, 1) := by decide +kernel
theorem d_L_law_222 : decode (bc mL_law) 222 = .ok (.iload_n 3, 1) := by decide +kernel
theorem d_L_law_223 : decode (bc mL_law) 223 = .ok (.iconst 1, 1) := by decide +kernel
theorem d_L_law_224 : decode (bc mL_law) 224 = .ok (.iadd, 1) := by decide +kernel
theorem d_L_law_225 : decode (bc mL_law) 225 = .ok (.iaload, 1) := by decide +kernel
theorem d_L_law_226 : decode (bc mL_law) 226 = .ok (.aload_n 0, 1) := by decide +kernel
theorem d_L_law_227 : decode (bc mL_law) 227 = .ok (.iload_n 3, 1) := by decide +kernel
theorem d_L_law_228 : decode (bc mL_law) 228 = .ok (.iconst 2, 1) := by decide +kernel
theorem d_L_law_229 : decode (bc mL_law) 229 = .ok (.iadd, 1) := by decide +kernel
theorem d_L_law_230 : decode (bc mL_law) 230 = .ok (.iaload, 1) := by decide +kernel
theorem d_L_law_231 : decode (bc mL_law) 231 = .ok (.invokevirtual 25, 3) := by decide +kernel
theorem d_L_law_234 : decode (bc mL_law) 234 = .ok (.if_icmp .eq 545, 3) := by decide +kernel
theorem d_L_law_237 : decode (bc mL_law) 237 = .ok (.iconst 0, 1) := by decide +kernel
theorem d_L_law_238 : decode (bc mL_law) 238 = .ok (.ireturn, 1) := by decide +kernel
theorem d_L_law_239 : decode (bc mL_law) 239 = .ok (.aload_n 1, 1) := by decide +kernel
theorem d_L_law_240 : decode (bc mL_law) 240 = .ok (.aload_n 0, 1) := by decide +kernel
theorem d_L_law_241 : decode (bc mL_law) 241 = .ok (.iload_n 3, 1) := by decide +kernel
theorem d_L_law_242 : decode (bc mL_law) 242 = .ok (.iconst 1, 1) := by decide +kernel
theorem d_L_law_243 : decode (bc mL_law) 243 = .ok (.iadd, 1) := by decide +kernel
theorem d_L_law_244 : decode (bc mL_law) 244 = .ok (.iaload, 1) := by decide +kernel
theorem d_L_law_245 : decode (bc mL_law) 245 = .ok (.invokevirtual 26, 3) := by decide +kernel
theorem d_L_law_248 : decode (bc mL_law) 248 = .ok (.aload_n 2, 1) := by decide +kernel
theorem d_L_law_249 : decode (bc mL_law) 249 = .ok (.aload_n 0, 1) := by decide +kernel
theorem d_L_law_250 : decode (bc mL_law) 250 = .ok (.iload_n 3, 1) := by decide +kernel
theorem d_L_law_251 : decode (bc mL_law) 251 = .ok (.iconst 1, 1) := by decide +kernel
theorem d_L_law_252 : decode (bc mL_law) 252 = .ok (.iadd, 1) := by decide +kernel
theorem d_L_law_253 : decode (bc mL_law) 253 = .ok (.iaload, 1) := by decide +kernel
theorem d_L_law_254 : decode (bc mL_law) 254 = .ok (.invokevirtual 30, 3) := by decide +kernel
theorem d_L_law_257 : decode (bc mL_law) 257 = .ok (.if_icmp .eq 522, 3) := by decide +kernel
theorem d_L_law_260 : decode (bc mL_law) 260 = .ok (.iconst 0, 1) := by decide +kernel
theorem d_L_law_261 : decode (bc mL_law) 261 = .ok (.ireturn, 1) := by decide +kernel
theorem d_L_law_262 : decode (bc mL_law) 262 = .ok (.aload_n 1, 1) := by decide +kernel
theorem d_L_law_263 : decode (bc mL_law) 263 = .ok (.aload_n 0, 1) := by decide +kernel
theorem d_L_law_264 : decode (bc mL_law) 264 = .ok (.iload_n 3, 1) := by decide +kernel
theorem d_L_law_265 : decode (bc mL_law) 265 = .ok (.iconst 1, 1) := by decide +kernel
theorem d_L_law_266 : decode (bc mL_law) 266 = .ok (.iadd, 1) := by decide +kernel
theorem d_L_law_267 : decode (bc mL_law) 267 = .ok (.iaload, 1) := by decide +kernel
theorem d_L_law_268 : decode (bc mL_law) 268 = .ok (.invokevirtual 31, 3) := by decide +kernel
theorem d_L_law_271 : decode (bc mL_law) 271 = .ok (.aload_n 2, 1) := by decide +kernel
theorem d_L_law_272 : decode (bc mL_law) 272 = .ok (.aload_n 0, 1) := by decide +kernel
theorem d_L_law_273 : decode (bc mL_law) 273 = .ok (.iload_n 3, 1) := by decide +kernel
theorem d_L_law_274 : decode (bc mL_law) 274 = .ok (.iconst 1, 1) := by decide +kernel
theorem d_L_law_275 : decode (bc mL_law) 275 = .ok (.iadd, 1) := by decide +kernel
theorem d_L_law_276 : decode (bc mL_law) 276 = .ok (.iaload, 1) := by decide +kernel
theorem d_L_law_277 : decode (bc mL_law) 277 = .ok (.invokevirtual 34, 3) := by decide +kernel
theorem d_L_law_280 : decode (bc mL_law) 280 = .ok (.if_icmp .eq 499, 3) := by decide +kernel
theorem d_L_law_283 : decode (bc mL_law) 283 = .ok (.iconst 0, 1) := by decide +kernel
theorem d_L_law_284 : decode (bc mL_law) 284 = .ok (.ireturn, 1) := by decide +kernel
theorem d_L_law_285 : decode (bc mL_law) 285 = .ok (.aload_n 1, 1) := by decide +kernel
theorem d_L_law_286 : decode (bc mL_law) 286 = .ok (.aload_n 0, 1) := by decide +kernel
theorem d_L_law_287 : decode (bc mL_law) 287 = .ok (.iload_n 3, 1) := by decide +kernel
theorem d_L_law_288 : decode (bc mL_law) 288 = .ok (.iconst 1, 1) := by decide +kernel
theorem d_L_law_289 : decode (bc mL_law) 289 = .ok (.iadd, 1) := by decide +kernel
theorem d_L_law_290 : decode (bc mL_law) 290 = .ok (.iaload, 1) := by decide +kernel
theorem d_L_law_291 : decode (bc mL_law) 291 = .ok (.i2l, 1) := by decide +kernel
theorem d_L_law_292 : decode (bc mL_law) 292 = .ok (.bipush 32, 2) := by decide +kernel
theorem d_L_law_294 : decode (bc mL_law) 294 = .ok (.lshl, 1) := by decide +kernel
theorem d_L_law_295 : decode (bc mL_law) 295 = .ok (.aload_n 0, 1) := by decide +kernel
theorem d_L_law_296 : decode (bc mL_law) 296 = .ok (.iload_n 3, 1) := by decide +kernel
theorem d_L_law_297 : decode (bc mL_law) 297 = .ok (.iconst 2, 1) := by decide +kernel
theorem d_L_law_298 : decode (bc mL_law) 298 = .ok (.iadd, 1) := by decide +kernel
theorem d_L_law_299 : decode (bc mL_law) 299 = .ok (.iaload, 1) := by decide +kernel
theorem d_L_law_300 : decode (bc mL_law) 300 = .ok (.i2l, 1) := by decide +kernel
theorem d_L_law_301 : decode (bc mL_law) 301 = .ok (.ldc2_w 35, 3) := by decide +kernel
theorem d_L_law_304 : decode (bc mL_law) 304 = .ok (.land, 1) := by decide +kernel
theorem d_L_law_305 : decode (bc mL_law) 305 = .ok (.lor, 1) := by decide +kernel
theorem d_L_law_306 : decode (bc mL_law) 306 = .ok (.invokevirtual 37, 3) := by decide +kernel
theorem d_L_law_309 : decode (bc mL_law) 309 = .ok (.aload_n 2, 1) := by decide +kernel
theorem d_L_law_310 : decode (bc mL_law) 310 = .ok (.aload_n 0, 1) := by decide +kernel
theorem d_L_law_311 : decode (bc mL_law) 311 = .ok (.iload_n 3, 1) := by decide +kernel
theorem d_L_law_312 : decode (bc mL_law) 312 = .ok (.iconst 1, 1) := by decide +kernel
theorem d_L_law_313 : decode (bc mL_law) 313 = .ok (.iadd, 1) := by decide +kernel
theorem d_L_law_314 : decode (bc mL_law) 314 = .ok (.iaload, 1) := by decide +kernel
theorem d_L_law_315 : decode (bc mL_law) 315 = .ok (.i2l, 1) := by decide +kernel
theorem d_L_law_316 : decode (bc mL_law) 316 = .ok (.bipush 32, 2) := by decide +kernel
theorem d_L_law_318 : decode (bc mL_law) 318 = .ok (.lshl, 1) := by decide +kernel
theorem d_L_law_319 : decode (bc mL_law) 319 = .ok (.aload_n 0, 1) := by decide +kernel
theorem d_L_law_320 : decode (bc mL_law) 320 = .ok (.iload_n 3, 1) := by decide +kernel
theorem d_L_law_321 : decode (bc mL_law) 321 = .ok (.iconst 2, 1) := by decide +kernel
theorem d_L_law_322 : decode (bc mL_law) 322 = .ok (.iadd, 1) := by decide +kernel
theorem d_L_law_323 : decode (bc mL_law) 323 = .ok (.iaload, 1) := by decide +kernel
theorem d_L_law_324 : decode (bc mL_law) 324 = .ok (.i2l, 1) := by decide +kernel
theorem d_L_law_325 : decode (bc mL_law) 325 = .ok (.ldc2_w 35, 3) := by decide +kernel
theorem d_L_law_328 : decode (bc mL_law) 328 = .ok (.land, 1) := by decide +kernel
theorem d_L_law_329 : decode (bc mL_law) 329 = .ok (.lor, 1) := by decide +kernel
theorem d_L_law_330 : decode (bc mL_law) 330 = .ok (.invokevirtual 41, 3) := by decide +kernel
theorem d_L_law_333 : decode (bc mL_law) 333 = .ok (.if_icmp .eq 446, 3) := by decide +kernel
theorem d_L_law_336 : decode (bc mL_law) 336 = .ok (.iconst 0, 1) := by decide +kernel
theorem d_L_law_337 : decode (bc mL_law) 337 = .ok (.ireturn, 1) := by decide +kernel
theorem d_L_law_338 : decode (bc mL_law) 338 = .ok (.aload_n 1, 1) := by decide +kernel
theorem d_L_law_339 : decode (bc mL_law) 339 = .ok (.invokevirtual 42, 3) := by decide +kernel
theorem d_L_law_342 : decode (bc mL_law) 342 = .ok (.aload_n 2, 1) := by decide +kernel
theorem d_L_law_343 : decode (bc mL_law) 343 = .ok (.invokevirtual 46, 3) := by decide +kernel
theorem d_L_law_346 : decode (bc mL_law) 346 = .ok (.if_icmp .eq 433, 3) := by decide +kernel
theorem d_L_law_349 : decode (bc mL_law) 349 = .ok (.iconst 0, 1) := by decide +kernel
theorem d_L_law_350 : decode (bc mL_law) 350 = .ok (.ireturn, 1) := by decide +kernel
theorem d_L_law_351 : decode (bc mL_law) 351 = .ok (.aload_n 1, 1) := by decide +kernel
theorem d_L_law_352 : decode (bc mL_law) 352 = .ok (.invokevirtual 47, 3) := by decide +kernel
theorem d_L_law_355 : decode (bc mL_law) 355 = .ok (.aload_n 2, 1) := by decide +kernel
theorem d_L_law_356 : decode (bc mL_law) 356 = .ok (.invokevirtual 50, 3) := by decide +kernel
theorem d_L_law_359 : decode (bc mL_law) 359 = .ok (.if_icmp .eq 420, 3) := by decide +kernel
theorem d_L_law_362 : decode (bc mL_law) 362 = .ok (.iconst 0, 1) := by decide +kernel
theorem d_L_law_363 : decode (bc mL_law) 363 = .ok (.ireturn, 1) := by decide +kernel
theorem d_L_law_364 : decode (bc mL_law) 364 = .ok (.aload_n 1, 1) := by decide +kernel
theorem d_L_law_365 : decode (bc mL_law) 365 = .ok (.aload_n 0, 1) := by decide +kernel
theorem d_L_law_366 : decode (bc mL_law) 366 = .ok (.iload_n 3, 1) := by decide +kernel
theorem d_L_law_367 : decode (bc mL_law) 367 = .ok (.iconst 1, 1) := by decide +kernel
theorem d_L_law_368 : decode (bc mL_law) 368 = .ok (.iadd, 1) := by decide +kernel
theorem d_L_law_369 : decode (bc mL_law) 369 = .ok (.iaload, 1) := by decide +kernel
theorem d_L_law_370 : decode (bc mL_law) 370 = .ok (.invokevirtual 51, 3) := by decide +kernel
theorem d_L_law_373 : decode (bc mL_law) 373 = .ok (.aload_n 2, 1) := by decide +kernel
theorem d_L_law_374 : decode (bc mL_law) 374 = .ok (.aload_n 0, 1) := by decide +kernel
theorem d_L_law_375 : decode (bc mL_law) 375 = .ok (.iload_n 3, 1) := by decide +kernel
theorem d_L_law_376 : decode (bc mL_law) 376 = .ok (.iconst 1, 1) := by decide +kernel
theorem d_L_law_377 : decode (bc mL_law) 377 = .ok (.iadd, 1) := by decide +kernel
theorem d_L_law_378 : decode (bc mL_law) 378 = .ok (.iaload, 1) := by decide +kernel
theorem d_L_law_379 : decode (bc mL_law) 379 = .ok (.invokevirtual 54, 3) := by decide +kernel
theorem d_L_law_382 : decode (bc mL_law) 382 = .ok (.if_icmp .eq 397, 3) := by decide +kernel
theorem d_L_law_385 : decode (bc mL_law) 385 = .ok (.iconst 0, 1) := by decide +kernel
theorem d_L_law_386 : decode (bc mL_law) 386 = .ok (.ireturn, 1) := by decide +kernel
theorem d_L_law_387 : decode (bc mL_law) 387 = .ok (.aload_n 1, 1) := by decide +kernel
theorem d_L_law_388 : decode (bc mL_law) 388 = .ok (.aload_n 0, 1) := by decide +kernel
theorem d_L_law_389 : decode (bc mL_law) 389 = .ok (.iload_n 3, 1) := by decide +kernel
theorem d_L_law_390 : decode (bc mL_law) 390 = .ok (.iconst 1, 1) := by decide +kernel
theorem d_L_law_391 : decode (bc mL_law) 391 = .ok (.iadd, 1) := by decide +kernel
theorem d_L_law_392 : decode (bc mL_law) 392 = .ok (.iaload, 1) := by decide +kernel
theorem d_L_law_393 : decode (bc mL_law) 393 = .ok (.aload_n 0, 1) := by decide +kernel
theorem d_L_law_394 : decode (bc mL_law) 394 = .ok (.iload_n 3, 1) := by decide +kernel
theorem d_L_law_395 : decode (bc mL_law) 395 = .ok (.iconst 2, 1) := by decide +kernel
theorem d_L_law_396 : decode (bc mL_law) 396 = .ok (.iadd, 1) := by decide +kernel
theorem d_L_law_397 : decode (bc mL_law) 397 = .ok (.iaload, 1) := by decide +kernel
theorem d_L_law_398 : decode (bc mL_law) 398 = .ok (.invokevirtual 55, 3) := by decide +kernel
theorem d_L_law_401 : decode (bc mL_law) 401 = .ok (.aload_n 2, 1) := by decide +kernel
theorem d_L_law_402 : decode (bc mL_law) 402 = .ok (.aload_n 0, 1) := by decide +kernel
theorem d_L_law_403 : decode (bc mL_law) 403 = .ok (.iload_n 3, 1) := by decide +kernel
theorem d_L_law_404 : decode (bc mL_law) 404 = .ok (.iconst 1, 1) := by decide +kernel
theorem d_L_law_405 : decode (bc mL_law) 405 = .ok (.iadd, 1) := by decide +kernel
theorem d_L_law_406 : decode (bc mL_law) 406 = .ok (.iaload, 1) := by decide +kernel
theorem d_L_law_407 : decode (bc mL_law) 407 = .ok (.aload_n 0, 1) := by decide +kernel
theorem d_L_law_408 : decode (bc mL_law) 408 = .ok (.iload_n 3, 1) := by decide +kernel
theorem d_L_law_409 : decode (bc mL_law) 409 = .ok (.iconst 2, 1) := by decide +kernel
theorem d_L_law_410 : decode (bc mL_law) 410 = .ok (.iadd, 1) := by decide +kernel
theorem d_L_law_411 : decode (bc mL_law) 411 = .ok (.iaload, 1) := by decide +kernel
theorem d_L_law_412 : decode (bc mL_law) 412 = .ok (.invokevirtual 58, 3) := by decide +kernel
theorem d_L_law_415 : decode (bc mL_law) 415 = .ok (.if_icmp .eq 364, 3) := by decide +kernel
theorem d_L_law_418 : decode (bc mL_law) 418 = .ok (.iconst 0, 1) := by decide +kernel
theorem d_L_law_419 : decode (bc mL_law) 419 = .ok (.ireturn, 1) := by decide +kernel
theorem d_L_law_420 : decode (bc mL_law) 420 = .ok (.aload_n 1, 1) := by decide +kernel
theorem d_L_law_421 : decode (bc mL_law) 421 = .ok (.aload_n 0, 1) := by decide +kernel
theorem d_L_law_422 : decode (bc mL_law) 422 = .ok (.iload_n 3, 1) := by decide +kernel
theorem d_L_law_423 : decode (bc mL_law) 423 = .ok (.iconst 1, 1) := by decide +kernel
theorem d_L_law_424 : decode (bc mL_law) 424 = .ok (.iadd, 1) := by decide +kernel
theorem d_L_law_425 : decode (bc mL_law) 425 = .ok (.iaload, 1) := by decide +kernel
theorem d_L_law_426 : decode (bc mL_law) 426 = .ok (.aload_n 0, 1) := by decide +kernel
theorem d_L_law_427 : decode (bc mL_law) 427 = .ok (.iload_n 3, 1) := by decide +kernel
theorem d_L_law_428 : decode (bc mL_law) 428 = .ok (.iconst 2, 1) := by decide +kernel
theorem d_L_law_429 : decode (bc mL_law) 429 = .ok (.iadd, 1) := by decide +kernel
theorem d_L_law_430 : decode (bc mL_law) 430 = .ok (.iaload, 1) := by decide +kernel
theorem d_L_law_431 : decode (bc mL_law) 431 = .ok (.invokevirtual 59, 3) := by decide +kernel
theorem d_L_law_434 : decode (bc mL_law) 434 = .ok (.aload_n 2, 1) := by decide +kernel
theorem d_L_law_435 : decode (bc mL_law) 435 = .ok (.aload_n 0, 1) := by decide +kernel
theorem d_L_law_436 : decode (bc mL_law) 436 = .ok (.iload_n 3, 1) := by decide +kernel
theorem d_L_law_437 : decode (bc mL_law) 437 = .ok (.iconst 1, 1) := by decide +kernel
theorem d_L_law_438 : decode (bc mL_law) 438 = .ok (.iadd, 1) := by decide +kernel
theorem d_L_law_439 : decode (bc mL_law) 439 = .ok (.iaload, 1) := by decide +kernel
theorem d_L_law_440 : decode (bc mL_law) 440 = .ok (.aload_n 0, 1) := by decide +kernel
theorem d_L_law_441 : decode (bc mL_law) 441 = .ok (.iload_n 3, 1) := by decide +kernel
theorem d_L_law_442 : decode (bc mL_law) 442 = .ok (.iconst 2, 1) := by decide +kernel
theorem d_L_law_443 : decode (bc mL_law) 443 = .ok (.iadd, 1) := by decide +kernel
theorem d_L_law_444 : decode (bc mL_law) 444 = .ok (.iaload, 1) := by decide +kernel
theorem d_L_law_445 : decode (bc mL_law) 445 = .ok (.invokevirtual 62, 3) := by decide +kernel
theorem d_L_law_448 : decode (bc mL_law) 448 = .ok (.if_icmp .eq 331, 3) := by decide +kernel
theorem d_L_law_451 : decode (bc mL_law) 451 = .ok (.iconst 0, 1) := by decide +kernel
theorem d_L_law_452 : decode (bc mL_law) 452 = .ok (.ireturn, 1) := by decide +kernel
theorem d_L_law_453 : decode (bc mL_law) 453 = .ok (.aload_n 1, 1) := by decide +kernel
theorem d_L_law_454 : decode (bc mL_law) 454 = .ok (.aload_n 0, 1) := by decide +kernel
theorem d_L_law_455 : decode (bc mL_law) 455 = .ok (.iload_n 3, 1) := by decide +kernel
theorem d_L_law_456 : decode (bc mL_law) 456 = .ok (.iconst 1, 1) := by decide +kernel
theorem d_L_law_457 : decode (bc mL_law) 457 = .ok (.iadd, 1) := by decide +kernel
theorem d_L_law_458 : decode (bc mL_law) 458 = .ok (.iaload, 1) := by decide +kernel
theorem d_L_law_459 : decode (bc mL_law) 459 = .ok (.aload_n 0, 1) := by decide +kernel
theorem d_L_law_460 : decode (bc mL_law) 460 = .ok (.iload_n 3, 1) := by decide +kernel
theorem d_L_law_461 : decode (bc mL_law) 461 = .ok (.iconst 2, 1) := by decide +kernel
theorem d_L_law_462 : decode (bc mL_law) 462 = .ok (.iadd, 1) := by decide +kernel
theorem d_L_law_463 : decode (bc mL_law) 463 = .ok (.iaload, 1) := by decide +kernel
theorem d_L_law_464 : decode (bc mL_law) 464 = .ok (.invokevirtual 63, 3) := by decide +kernel
theorem d_L_law_467 : decode (bc mL_law) 467 = .ok (.aload_n 2, 1) := by decide +kernel
theorem d_L_law_468 : decode (bc mL_law) 468 = .ok (.aload_n 0, 1) := by decide +kernel
theorem d_L_law_469 : decode (bc mL_law) 469 = .ok (.iload_n 3, 1) := by decide +kernel
theorem d_L_law_470 : decode (bc mL_law) 470 = .ok (.iconst 1, 1) := by decide +kernel
theorem d_L_law_471 : decode (bc mL_law) 471 = .ok (.iadd, 1) := by decide +kernel
theorem d_L_law_472 : decode (bc mL_law) 472 = .ok (.iaload, 1) := by decide +kernel
theorem d_L_law_473 : decode (bc mL_law) 473 = .ok (.aload_n 0, 1) := by decide +kernel
theorem d_L_law_474 : decode (bc mL_law) 474 = .ok (.iload_n 3, 1) := by decide +kernel
theorem d_L_law_475 : decode (bc mL_law) 475 = .ok (.iconst 2, 1) := by decide +kernel
theorem d_L_law_476 : decode (bc mL_law) 476 = .ok (.iadd, 1) := by decide +kernel
theorem d_L_law_477 : decode (bc mL_law) 477 = .ok (.iaload, 1) := by decide +kernel
theorem d_L_law_478 : decode (bc mL_law) 478 = .ok (.invokevirtual 66, 3) := by decide +kernel
theorem d_L_law_481 : decode (bc mL_law) 481 = .ok (.if_icmp .eq 298, 3) := by decide +kernel
theorem d_L_law_484 : decode (bc mL_law) 484 = .ok (.iconst 0, 1) := by decide +kernel
theorem d_L_law_485 : decode (bc mL_law) 485 = .ok (.ireturn, 1) := by decide +kernel
theorem d_L_law_486 : decode (bc mL_law) 486 = .ok (.aload_n 1, 1) := by decide +kernel
theorem d_L_law_487 : decode (bc mL_law) 487 = .ok (.aload_n 0, 1) := by decide +kernel
theorem d_L_law_488 : decode (bc mL_law) 488 = .ok (.iload_n 3, 1) := by decide +kernel
theorem d_L_law_489 : decode (bc mL_law) 489 = .ok (.iconst 1, 1) := by decide +kernel
theorem d_L_law_490 : decode (bc mL_law) 490 = .ok (.iadd, 1) := by decide +kernel
theorem d_L_law_491 : decode (bc mL_law) 491 = .ok (.iaload, 1) := by decide +kernel
theorem d_L_law_492 : decode (bc mL_law) 492 = .ok (.aload_n 0, 1) := by decide +kernel
theorem d_L_law_493 : decode (bc mL_law) 493 = .ok (.iload_n 3, 1) := by decide +kernel
theorem d_L_law_494 : decode (bc mL_law) 494 = .ok (.iconst 2, 1) := by decide +kernel
theorem d_L_law_495 : decode (bc mL_law) 495 = .ok (.iadd, 1) := by decide +kernel
theorem d_L_law_496 : decode (bc mL_law) 496 = .ok (.iaload, 1) := by decide +kernel
theorem d_L_law_497 : decode (bc mL_law) 497 = .ok (.aload_n 0, 1) := by decide +kernel
theorem d_L_law_498 : decode (bc mL_law) 498 = .ok (.iload_n 3, 1) := by decide +kernel
theorem d_L_law_499 : decode (bc mL_law) 499 = .ok (.iconst 3, 1) := by decide +kernel
theorem d_L_law_500 : decode (bc mL_law) 500 = .ok (.iadd, 1) := by decide +kernel
theorem d_L_law_501 : decode (bc mL_law) 501 = .ok (.iaload, 1) := by decide +kernel
theorem d_L_law_502 : decode (bc mL_law) 502 = .ok (.invokevirtual 67, 3) := by decide +kernel
theorem d_L_law_505 : decode (bc mL_law) 505 = .ok (.aload_n 2, 1) := by decide +kernel
theorem d_L_law_506 : decode (bc mL_law) 506 = .ok (.aload_n 0, 1) := by decide +kernel
theorem d_L_law_507 : decode (bc mL_law) 507 = .ok (.iload_n 3, 1) := by decide +kernel
theorem d_L_law_508 : decode (bc mL_law) 508 = .ok (.iconst 1, 1) := by decide +kernel
theorem d_L_law_509 : decode (bc mL_law) 509 = .ok (.iadd, 1) := by decide +kernel
theorem d_L_law_510 : decode (bc mL_law) 510 = .ok (.iaload, 1) := by decide +kernel
theorem d_L_law_511 : decode (bc mL_law) 511 = .ok (.aload_n 0, 1) := by decide +kernel
theorem d_L_law_512 : decode (bc mL_law) 512 = .ok (.iload_n 3, 1) := by decide +kernel
theorem d_L_law_513 : decode (bc mL_law) 513 = .ok (.iconst 2, 1) := by decide +kernel
theorem d_L_law_514 : decode (bc mL_law) 514 = .ok (.iadd, 1) := by decide +kernel
theorem d_L_law_515 : decode (bc mL_law) 515 = .ok (.iaload, 1) := by decide +kernel
theorem d_L_law_516 : decode (bc mL_law) 516 = .ok (.aload_n 0, 1) := by decide +kernel
theorem d_L_law_517 : decode (bc mL_law) 517 = .ok (.iload_n 3, 1) := by decide +kernel
theorem d_L_law_518 : decode (bc mL_law) 518 = .ok (.iconst 3, 1) := by decide +kernel
theorem d_L_law_519 : decode (bc mL_law) 519 = .ok (.iadd, 1) := by decide +kernel
theorem d_L_law_520 : decode (bc mL_law) 520 = .ok (.iaload, 1) := by decide +kernel
theorem d_L_law_521 : decode (bc mL_law) 521 = .ok (.invokevirtual 71, 3) := by decide +kernel
theorem d_L_law_524 : decode (bc mL_law) 524 = .ok (.if_icmp .eq 255, 3) := by decide +kernel
theorem d_L_law_527 : decode (bc mL_law) 527 = .ok (.iconst 0, 1) := by decide +kernel
theorem d_L_law_528 : decode (bc mL_law) 528 = .ok (.ireturn, 1) := by decide +kernel
theorem d_L_law_529 : decode (bc mL_law) 529 = .ok (.aload_n 1, 1) := by decide +kernel
theorem d_L_law_530 : decode (bc mL_law) 530 = .ok (.aload_n 0, 1) := by decide +kernel
theorem d_L_law_531 : decode (bc mL_law) 531 = .ok (.iload_n 3, 1) := by decide +kernel
theorem d_L_law_532 : decode (bc mL_law) 532 = .ok (.iconst 1, 1) := by decide +kernel
theorem d_L_law_533 : decode (bc mL_law) 533 = .ok (.iadd, 1) := by decide +kernel
theorem d_L_law_534 : decode (bc mL_law) 534 = .ok (.iaload, 1) := by decide +kernel
theorem d_L_law_535 : decode (bc mL_law) 535 = .ok (.invokevirtual 72, 3) := by decide +kernel
theorem d_L_law_538 : decode (bc mL_law) 538 = .ok (.aload_n 2, 1) := by decide +kernel
theorem d_L_law_539 : decode (bc mL_law) 539 = .ok (.aload_n 0, 1) := by decide +kernel
theorem d_L_law_540 : decode (bc mL_law) 540 = .ok (.iload_n 3, 1) := by decide +kernel
theorem d_L_law_541 : decode (bc mL_law) 541 = .ok (.iconst 1, 1) := by decide +kernel
theorem d_L_law_542 : decode (bc mL_law) 542 = .ok (.iadd, 1) := by decide +kernel
theorem d_L_law_543 : decode (bc mL_law) 543 = .ok (.iaload, 1) := by decide +kernel
theorem d_L_law_544 : decode (bc mL_law) 544 = .ok (.invokevirtual 75, 3) := by decide +kernel
theorem d_L_law_547 : decode (bc mL_law) 547 = .ok (.if_icmp .eq 232, 3) := by decide +kernel
theorem d_L_law_550 : decode (bc mL_law) 550 = .ok (.iconst 0, 1) := by decide +kernel
theorem d_L_law_551 : decode (bc mL_law) 551 = .ok (.ireturn, 1) := by decide +kernel
theorem d_L_law_552 : decode (bc mL_law) 552 = .ok (.aload_n 1, 1) := by decide +kernel
theorem d_L_law_553 : decode (bc mL_law) 553 = .ok (.aload_n 0, 1) := by decide +kernel
theorem d_L_law_554 : decode (bc mL_law) 554 = .ok (.iload_n 3, 1) := by decide +kernel
theorem d_L_law_555 : decode (bc mL_law) 555 = .ok (.iconst 1, 1) := by decide +kernel
theorem d_L_law_556 : decode (bc mL_law) 556 = .ok (.iadd, 1) := by decide +kernel
theorem d_L_law_557 : decode (bc mL_law) 557 = .ok (.iaload, 1) := by decide +kernel
theorem d_L_law_558 : decode (bc mL_law) 558 = .ok (.invokevirtual 76, 3) := by decide +kernel
theorem d_L_law_561 : decode (bc mL_law) 561 = .ok (.aload_n 2, 1) := by decide +kernel
theorem d_L_law_562 : decode (bc mL_law) 562 = .ok (.aload_n 0, 1) := by decide +kernel
theorem d_L_law_563 : decode (bc mL_law) 563 = .ok (.iload_n 3, 1) := by decide +kernel
theorem d_L_law_564 : decode (bc mL_law) 564 = .ok (.iconst 1, 1) := by decide +kernel
theorem d_L_law_565 : decode (bc mL_law) 565 = .ok (.iadd, 1) := by decide +kernel
theorem d_L_law_566 : decode (bc mL_law) 566 = .ok (.iaload, 1) := by decide +kernel
theorem d_L_law_567 : decode (bc mL_law) 567 = .ok (.invokevirtual 79, 3) := by decide +kernel
theorem d_L_law_570 : decode (bc mL_law) 570 = .ok (.if_icmp .eq 209, 3) := by decide +kernel
theorem d_L_law_573 : decode (bc mL_law) 573 = .ok (.iconst 0, 1) := by decide +kernel
theorem d_L_law_574 : decode (bc mL_law) 574 = .ok (.ireturn, 1) := by decide +kernel
theorem d_L_law_575 : decode (bc mL_law) 575 = .ok (.aload_n 1, 1) := by decide +kernel
theorem d_L_law_576 : decode (bc mL_law) 576 = .ok (.aload_n 0, 1) := by decide +kernel
theorem d_L_law_577 : decode (bc mL_law) 577 = .ok (.iload_n 3, 1) := by decide +kernel
theorem d_L_law_578 : decode (bc mL_law) 578 = .ok (.iconst 1, 1) := by decide +kernel
theorem d_L_law_579 : decode (bc mL_law) 579 = .ok (.iadd, 1) := by decide +kernel
theorem d_L_law_580 : decode (bc mL_law) 580 = .ok (.iaload, 1) := by decide +kernel
theorem d_L_law_581 : decode (bc mL_law) 581 = .ok (.invokevirtual 80, 3) := by decide +kernel
theorem d_L_law_584 : decode (bc mL_law) 584 = .ok (.aload_n 2, 1) := by decide +kernel
theorem d_L_law_585 : decode (bc mL_law) 585 = .ok (.aload_n 0, 1) := by decide +kernel
theorem d_L_law_586 : decode (bc mL_law) 586 = .ok (.iload_n 3, 1) := by decide +kernel
theorem d_L_law_587 : decode (bc mL_law) 587 = .ok (.iconst 1, 1) := by decide +kernel
theorem d_L_law_588 : decode (bc mL_law) 588 = .ok (.iadd, 1) := by decide +kernel
theorem d_L_law_589 : decode (bc mL_law) 589 = .ok (.iaload, 1) := by decide +kernel
theorem d_L_law_590 : decode (bc mL_law) 590 = .ok (.invokevirtual 83, 3) := by decide +kernel
theorem d_L_law_593 : decode (bc mL_law) 593 = .ok (.if_icmp .eq 186, 3) := by decide +kernel
theorem d_L_law_596 : decode (bc mL_law) 596 = .ok (.iconst 0, 1) := by decide +kernel
theorem d_L_law_597 : decode (bc mL_law) 597 = .ok (.ireturn, 1) := by decide +kernel
theorem d_L_law_598 : decode (bc mL_law) 598 = .ok (.aload_n 1, 1) := by decide +kernel
theorem d_L_law_599 : decode (bc mL_law) 599 = .ok (.aload_n 0, 1) := by decide +kernel
theorem d_L_law_600 : decode (bc mL_law) 600 = .ok (.iload_n 3, 1) := by decide +kernel
theorem d_L_law_601 : decode (bc mL_law) 601 = .ok (.iconst 1, 1) := by decide +kernel
theorem d_L_law_602 : decode (bc mL_law) 602 = .ok (.iadd, 1) := by decide +kernel
theorem d_L_law_603 : decode (bc mL_law) 603 = .ok (.iaload, 1) := by decide +kernel
theorem d_L_law_604 : decode (bc mL_law) 604 = .ok (.invokevirtual 84, 3) := by decide +kernel
theorem d_L_law_607 : decode (bc mL_law) 607 = .ok (.aload_n 2, 1) := by decide +kernel
theorem d_L_law_608 : decode (bc mL_law) 608 = .ok (.aload_n 0, 1) := by decide +kernel
theorem d_L_law_609 : decode (bc mL_law) 609 = .ok (.iload_n 3, 1) := by decide +kernel
theorem d_L_law_610 : decode (bc mL_law) 610 = .ok (.iconst 1, 1) := by decide +kernel
theorem d_L_law_611 : decode (bc mL_law) 611 = .ok (.iadd, 1) := by decide +kernel
theorem d_L_law_612 : decode (bc mL_law) 612 = .ok (.iaload, 1) := by decide +kernel
theorem d_L_law_613 : decode (bc mL_law) 613 = .ok (.invokevirtual 87, 3) := by decide +kernel
theorem d_L_law_616 : decode (bc mL_law) 616 = .ok (.if_icmp .eq 163, 3) := by decide +kernel
theorem d_L_law_619 : decode (bc mL_law) 619 = .ok (.iconst 0, 1) := by decide +kernel
theorem d_L_law_620 : decode (bc mL_law) 620 = .ok (.ireturn, 1) := by decide +kernel
theorem d_L_law_621 : decode (bc mL_law) 621 = .ok (.aload_n 1, 1) := by decide +kernel
theorem d_L_law_622 : decode (bc mL_law) 622 = .ok (.aload_n 0, 1) := by decide +kernel
theorem d_L_law_623 : decode (bc mL_law) 623 = .ok (.iload_n 3, 1) := by decide +kernel
theorem d_L_law_624 : decode (bc mL_law) 624 = .ok (.iconst 1, 1) := by decide +kernel
theorem d_L_law_625 : decode (bc mL_law) 625 = .ok (.iadd, 1) := by decide +kernel
theorem d_L_law_626 : decode (bc mL_law) 626 = .ok (.iaload, 1) := by decide +kernel
theorem d_L_law_627 : decode (bc mL_law) 627 = .ok (.aload_n 0, 1) := by decide +kernel
theorem d_L_law_628 : decode (bc mL_law) 628 = .ok (.iload_n 3, 1) := by decide +kernel
theorem d_L_law_629 : decode (bc mL_law) 629 = .ok (.iconst 2, 1) := by decide +kernel
theorem d_L_law_630 : decode (bc mL_law) 630 = .ok (.iadd, 1) := by decide +kernel
theorem d_L_law_631 : decode (bc mL_law) 631 = .ok (.iaload, 1) := by decide +kernel
theorem d_L_law_632 : decode (bc mL_law) 632 = .ok (.invokevirtual 88, 3) := by decide +kernel
theorem d_L_law_635 : decode (bc mL_law) 635 = .ok (.aload_n 2, 1) := by decide +kernel
theorem d_L_law_636 : decode (bc mL_law) 636 = .ok (.aload_n 0, 1) := by decide +kernel
theorem d_L_law_637 : decode (bc mL_law) 637 = .ok (.iload_n 3, 1) := by decide +kernel
theorem d_L_law_638 : decode (bc mL_law) 638 = .ok (.iconst 1, 1) := by decide +kernel
theorem d_L_law_639 : decode (bc mL_law) 639 = .ok (.iadd, 1) := by decide +kernel
theorem d_L_law_640 : decode (bc mL_law) 640 = .ok (.iaload, 1) := by decide +kernel
theorem d_L_law_641 : decode (bc mL_law) 641 = .ok (.aload_n 0, 1) := by decide +kernel
theorem d_L_law_642 : decode (bc mL_law) 642 = .ok (.iload_n 3, 1) := by decide +kernel
theorem d_L_law_643 : decode (bc mL_law) 643 = .ok (.iconst 2, 1) := by decide +kernel
theorem d_L_law_644 : decode (bc mL_law) 644 = .ok (.iadd, 1) := by decide +kernel
theorem d_L_law_645 : decode (bc mL_law) 645 = .ok (.iaload, 1) := by decide +kernel
theorem d_L_law_646 : decode (bc mL_law) 646 = .ok (.invokevirtual 91, 3) := by decide +kernel
theorem d_L_law_649 : decode (bc mL_law) 649 = .ok (.if_icmp .eq 130, 3) := by decide +kernel
theorem d_L_law_652 : decode (bc mL_law) 652 = .ok (.iconst 0, 1) := by decide +kernel
theorem d_L_law_653 : decode (bc mL_law) 653 = .ok (.ireturn, 1) := by decide +kernel
theorem d_L_law_654 : decode (bc mL_law) 654 = .ok (.aload_n 1, 1) := by decide +kernel
theorem d_L_law_655 : decode (bc mL_law) 655 = .ok (.aload_n 0, 1) := by decide +kernel
theorem d_L_law_656 : decode (bc mL_law) 656 = .ok (.iload_n 3, 1) := by decide +kernel
theorem d_L_law_657 : decode (bc mL_law) 657 = .ok (.iconst 1, 1) := by decide +kernel
theorem d_L_law_658 : decode (bc mL_law) 658 = .ok (.iadd, 1) := by decide +kernel
theorem d_L_law_659 : decode (bc mL_law) 659 = .ok (.iaload, 1) := by decide +kernel
theorem d_L_law_660 : decode (bc mL_law) 660 = .ok (.aload_n 0, 1) := by decide +kernel
theorem d_L_law_661 : decode (bc mL_law) 661 = .ok (.iload_n 3, 1) := by decide +kernel
theorem d_L_law_662 : decode (bc mL_law) 662 = .ok (.iconst 2, 1) := by decide +kernel
theorem d_L_law_663 : decode (bc mL_law) 663 = .ok (.iadd, 1) := by decide +kernel
theorem d_L_law_664 : decode (bc mL_law) 664 = .ok (.iaload, 1) := by decide +kernel
theorem d_L_law_665 : decode (bc mL_law) 665 = .ok (.aload_n 0, 1) := by decide +kernel
theorem d_L_law_666 : decode (bc mL_law) 666 = .ok (.iload_n 3, 1) := by decide +kernel
theorem d_L_law_667 : decode (bc mL_law) 667 = .ok (.iconst 3, 1) := by decide +kernel
theorem d_L_law_668 : decode (bc mL_law) 668 = .ok (.iadd, 1) := by decide +kernel
theorem d_L_law_669 : decode (bc mL_law) 669 = .ok (.iaload, 1) := by decide +kernel
theorem d_L_law_670 : decode (bc mL_law) 670 = .ok (.invokevirtual 92, 3) := by decide +kernel
theorem d_L_law_673 : decode (bc mL_law) 673 = .ok (.aload_n 2, 1) := by decide +kernel
theorem d_L_law_674 : decode (bc mL_law) 674 = .ok (.aload_n 0, 1) := by decide +kernel
theorem d_L_law_675 : decode (bc mL_law) 675 = .ok (.iload_n 3, 1) := by decide +kernel
theorem d_L_law_676 : decode (bc mL_law) 676 = .ok (.iconst 1, 1) := by decide +kernel
theorem d_L_law_677 : decode (bc mL_law) 677 = .ok (.iadd, 1) := by decide +kernel
theorem d_L_law_678 : decode (bc mL_law) 678 = .ok (.iaload, 1) := by decide +kernel
theorem d_L_law_679 : decode (bc mL_law) 679 = .ok (.aload_n 0, 1) := by decide +kernel
theorem d_L_law_680 : decode (bc mL_law) 680 = .ok (.iload_n 3, 1) := by decide +kernel
theorem d_L_law_681 : decode (bc mL_law) 681 = .ok (.iconst 2, 1) := by decide +kernel
theorem d_L_law_682 : decode (bc mL_law) 682 = .ok (.iadd, 1) := by decide +kernel
theorem d_L_law_683 : decode (bc mL_law) 683 = .ok (.iaload, 1) := by decide +kernel
theorem d_L_law_684 : decode (bc mL_law) 684 = .ok (.aload_n 0, 1) := by decide +kernel
theorem d_L_law_685 : decode (bc mL_law) 685 = .ok (.iload_n 3, 1) := by decide +kernel
theorem d_L_law_686 : decode (bc mL_law) 686 = .ok (.iconst 3, 1) := by decide +kernel
theorem d_L_law_687 : decode (bc mL_law) 687 = .ok (.iadd, 1) := by decide +kernel
theorem d_L_law_688 : decode (bc mL_law) 688 = .ok (.iaload, 1) := by decide +kernel
theorem d_L_law_689 : decode (bc mL_law) 689 = .ok (.invokevirtual 95, 3) := by decide +kernel
theorem d_L_law_692 : decode (bc mL_law) 692 = .ok (.if_icmp .eq 87, 3) := by decide +kernel
theorem d_L_law_695 : decode (bc mL_law) 695 = .ok (.iconst 0, 1) := by decide +kernel
theorem d_L_law_696 : decode (bc mL_law) 696 = .ok (.ireturn, 1) := by decide +kernel
theorem d_L_law_697 : decode (bc mL_law) 697 = .ok (.aload_n 1, 1) := by decide +kernel
theorem d_L_law_698 : decode (bc mL_law) 698 = .ok (.aload_n 0, 1) := by decide +kernel
theorem d_L_law_699 : decode (bc mL_law) 699 = .ok (.iload_n 3, 1) := by decide +kernel
theorem d_L_law_700 : decode (bc mL_law) 700 = .ok (.iconst 1, 1) := by decide +kernel
theorem d_L_law_701 : decode (bc mL_law) 701 = .ok (.iadd, 1) := by decide +kernel
theorem d_L_law_702 : decode (bc mL_law) 702 = .ok (.iaload, 1) := by decide +kernel
theorem d_L_law_703 : decode (bc mL_law) 703 = .ok (.invokevirtual 96, 3) := by decide +kernel
theorem d_L_law_706 : decode (bc mL_law) 706 = .ok (.aload_n 2, 1) := by decide +kernel
theorem d_L_law_707 : decode (bc mL_law) 707 = .ok (.aload_n 0, 1) := by decide +kernel
theorem d_L_law_708 : decode (bc mL_law) 708 = .ok (.iload_n 3, 1) := by decide +kernel
theorem d_L_law_709 : decode (bc mL_law) 709 = .ok (.iconst 1, 1) := by decide +kernel
theorem d_L_law_710 : decode (bc mL_law) 710 = .ok (.iadd, 1) := by decide +kernel
theorem d_L_law_711 : decode (bc mL_law) 711 = .ok (.iaload, 1) := by decide +kernel
theorem d_L_law_712 : decode (bc mL_law) 712 = .ok (.invokevirtual 99, 3) := by decide +kernel
theorem d_L_law_715 : decode (bc mL_law) 715 = .ok (.if_icmp .eq 64, 3) := by decide +kernel
theorem d_L_law_718 : decode (bc mL_law) 718 = .ok (.iconst 0, 1) := by decide +kernel
theorem d_L_law_719 : decode (bc mL_law) 719 = .ok (.ireturn, 1) := by decide +kernel
theorem d_L_law_720 : decode (bc mL_law) 720 = .ok (.aload_n 1, 1) := by decide +kernel
theorem d_L_law_721 : decode (bc mL_law) 721 = .ok (.invokevirtual 100, 3) := by decide +kernel
theorem d_L_law_724 : decode (bc mL_law) 724 = .ok (.aload_n 2, 1) := by decide +kernel
theorem d_L_law_725 : decode (bc mL_law) 725 = .ok (.invokevirtual 103, 3) := by decide +kernel
theorem d_L_law_728 : decode (bc mL_law) 728 = .ok (.if_icmp .eq 51, 3) := by decide +kernel
theorem d_L_law_731 : decode (bc mL_law) 731 = .ok (.iconst 0, 1) := by decide +kernel
theorem d_L_law_732 : decode (bc mL_law) 732 = .ok (.ireturn, 1) := by decide +kernel
theorem d_L_law_733 : decode (bc mL_law) 733 = .ok (.aload_n 1, 1) := by decide +kernel
theorem d_L_law_734 : decode (bc mL_law) 734 = .ok (.aload_n 0, 1) := by decide +kernel
theorem d_L_law_735 : decode (bc mL_law) 735 = .ok (.iload_n 3, 1) := by decide +kernel
theorem d_L_law_736 : decode (bc mL_law) 736 = .ok (.iconst 1, 1) := by decide +kernel
theorem d_L_law_737 : decode (bc mL_law) 737 = .ok (.iadd, 1) := by decide +kernel
theorem d_L_law_738 : decode (bc mL_law) 738 = .ok (.iaload, 1) := by decide +kernel
theorem d_L_law_739 : decode (bc mL_law) 739 = .ok (.invokevirtual 104, 3) := by decide +kernel
theorem d_L_law_742 : decode (bc mL_law) 742 = .ok (.aload_n 2, 1) := by decide +kernel
theorem d_L_law_743 : decode (bc mL_law) 743 = .ok (.aload_n 0, 1) := by decide +kernel
theorem d_L_law_744 : decode (bc mL_law) 744 = .ok (.iload_n 3, 1) := by decide +kernel
theorem d_L_law_745 : decode (bc mL_law) 745 = .ok (.iconst 1, 1) := by decide +kernel
theorem d_L_law_746 : decode (bc mL_law) 746 = .ok (.iadd, 1) := by decide +kernel
theorem d_L_law_747 : decode (bc mL_law) 747 = .ok (.iaload, 1) := by decide +kernel
theorem d_L_law_748 : decode (bc mL_law) 748 = .ok (.invokevirtual 107, 3) := by decide +kernel
theorem d_L_law_751 : decode (bc mL_law) 751 = .ok (.if_icmp .eq 28, 3) := by decide +kernel
theorem d_L_law_754 : decode (bc mL_law) 754 = .ok (.iconst 0, 1) := by decide +kernel
theorem d_L_law_755 : decode (bc mL_law) 755 = .ok (.ireturn, 1) := by decide +kernel
theorem d_L_law_756 : decode (bc mL_law) 756 = .ok (.aload_n 1, 1) := by decide +kernel
theorem d_L_law_757 : decode (bc mL_law) 757 = .ok (.aload_n 0, 1) := by decide +kernel
theorem d_L_law_758 : decode (bc mL_law) 758 = .ok (.iload_n 3, 1) := by decide +kernel
theorem d_L_law_759 : decode (bc mL_law) 759 = .ok (.iconst 1, 1) := by decide +kernel
theorem d_L_law_760 : decode (bc mL_law) 760 = .ok (.iadd, 1) := by decide +kernel
theorem d_L_law_761 : decode (bc mL_law) 761 = .ok (.iaload, 1) := by decide +kernel
theorem d_L_law_762 : decode (bc mL_law) 762 = .ok (.invokevirtual 108, 3) := by decide +kernel
theorem d_L_law_765 : decode (bc mL_law) 765 = .ok (.aload_n 2, 1) := by decide +kernel
theorem d_L_law_766 : decode (bc mL_law) 766 = .ok (.aload_n 0, 1) := by decide +kernel
theorem d_L_law_767 : decode (bc mL_law) 767 = .ok (.iload_n 3, 1) := by decide +kernel
theorem d_L_law_768 : decode (bc mL_law) 768 = .ok (.iconst 1, 1) := by decide +kernel
theorem d_L_law_769 : decode (bc mL_law) 769 = .ok (.iadd, 1) := by decide +kernel
theorem d_L_law_770 : decode (bc mL_law) 770 = .ok (.iaload, 1) := by decide +kernel
theorem d_L_law_771 : decode (bc mL_law) 771 = .ok (.invokevirtual 111, 3) := by decide +kernel
theorem d_L_law_774 : decode (bc mL_law) 774 = .ok (.if_icmp .eq 5, 3) := by decide +kernel
theorem d_L_law_777 : decode (bc mL_law) 777 = .ok (.iconst 0, 1) := by decide +kernel
theorem d_L_law_778 : decode (bc mL_law) 778 = .ok (.ireturn, 1) := by decide +kernel
theorem d_L_law_779 : decode (bc mL_law) 779 = .ok (.iinc 3 4, 3) := by decide +kernel
theorem d_L_law_782 : decode (bc mL_law) 782 = .ok (.goto (-764), 3) := by decide +kernel
theorem d_L_law_785 : decode (bc mL_law) 785 = .ok (.iconst 1, 1) := by decide +kernel
theorem d_L_law_786 : decode (bc mL_law) 786 = .ok (.ireturn, 1) := by decide +kernel
end
section
-- ===== the abstract machine: values, heap, what a state of the machine says of it =====
abbrev AV : Type := Int ⊕ (Option Nat ⊕ (Int ⊕ Bool))
abbrev Vi (x : Int) : AV := Sum.inl x
abbrev Vr (o : Option Nat) : AV := Sum.inr (Sum.inl o)
abbrev Va (a : Nat) : AV := Sum.inr (Sum.inl (some a))
abbrev Vn : AV := Sum.inr (Sum.inl none)
abbrev Vl (x : Int) : AV := Sum.inr (Sum.inr (Sum.inl x))
abbrev Vu : AV := Sum.inr (Sum.inr (Sum.inr false))
abbrev Vs : AV := Sum.inr (Sum.inr (Sum.inr true))
/-- the heap: ints and references by address and place, each cell's kind and length, how many cells -/
abbrev Sg : Type := (Nat → Nat → Int) × (Nat → Nat → Option Nat) × (Nat → Nat × Nat) × Nat
abbrev hI (σ : Sg) : Nat → Nat → Int := σ.1
abbrev hR (σ : Sg) : Nat → Nat → Option Nat := σ.2.1
abbrev sk (σ : Sg) : Nat → Nat × Nat := σ.2.2.1
abbrev sn (σ : Sg) : Nat := σ.2.2.2
abbrev GT : Type := va_G × (Nat → ClassId) × Nat × Nat × Nat × (Nat → Int32)
abbrev gB (G : GT) : Nat := G.2.2.1
abbrev gS (G : GT) : Nat := G.2.2.2.1
abbrev gL (G : GT) : Nat := G.2.2.2.2.1
abbrev gX (G : GT) : Nat → Int32 := G.2.2.2.2.2
def cv (G : GT) (v : AV) : Value := match v with
  | .inl x => .int (Int32.ofInt x)
  | .inr (.inl none) => .null
  | .inr (.inl (some a)) => .ref (gB G + a)
  | .inr (.inr (.inl x)) => .long (Int64.ofInt x)
  | .inr (.inr (.inr false)) => .null
  | .inr (.inr (.inr true)) => .ref (gS G)
def cf (G : GT) (o : Option Nat) : Option Nat := match o with
  | none => none
  | some a => some (gB G + a)
theorem cv_rf (G : GT) (o : Option Nat) : va_rf (cf G o) = cv G (Vr o) := by cases o <;> rfl
/-- the classes whose objects there are -/
abbrev cls : List vw_C := [(RX0, TX0, 7), (RX1, TX1, 8), (RX2, TX2, 10), (RX3, TX3, 6), (RX4, TX4, 11), (RX5, TX5, 10), (RX6, TX6, 33)]
def cT (ci : Nat) : vw_C := match ci with
  | 0 => (RX0, TX0, 7) | 1 => (RX1, TX1, 8) | 2 => (RX2, TX2, 10) | 3 => (RX3, TX3, 6) | 4 => (RX4, TX4, 11) | 5 => (RX5, TX5, 10) | _ => (RX6, TX6, 33)
def cY (ci : Nat) : Nat → FieldType := match ci with
  | 0 => tyX0 | 1 => tyX1 | 2 => tyX2 | 3 => tyX3 | 4 => tyX4 | 5 => tyX5 | _ => tyX6
def fI (t : FieldType) : Bool := match t with
  | .int => true
  | .boolean => true
  | _ => false
/-- an object's fields -/
def fl (G : GT) (σ : Sg) (ci a : Nat) : List Value := (List.range (cT ci).2.2).map (fun j => if fI (cY ci j) = true then cv G (Vi (hI σ a j)) else cv G (Vr (hR σ a j)))
/-- a cell: kind 1 to 7 objects, 10 int[], 11 boolean[], above references -/
def ce (G : GT) (σ : Sg) (a : Nat) : va_E :=
  if (sk σ a).1 < 10 then .inr ((sk σ a).1 - 1, fl G σ ((sk σ a).1 - 1) a)
  else if (sk σ a).1 < 12 then .inl (G.2.1 (sk σ a).1, (sk σ a).2, .inl (fun j => Int32.ofInt (hI σ a j)))
  else .inl (G.2.1 (sk σ a).1, (sk σ a).2, .inr (.inr (.inr (.inr (fun j => cf G (hR σ a j))))))
def wl (G : GT) (σ : Sg) : va_W := (List.range (sn σ)).map (fun a => (gB G + a, ce G σ a))
def tyl (G : GT) : List (ClassId × FieldType) := [(G.2.1 10, .int), (G.2.1 11, .boolean), (G.2.1 12, .object RX1), (G.2.1 13, .object RX4), (G.2.1 14, .object RX3), (G.2.1 15, .array .int)]
theorem wl_get (G : GT) {σ : Sg} {a : Nat} (h : a < sn σ) : (wl G σ)[a]? = some (gB G + a, ce G σ a) := by
  unfold wl
  rw [List.getElem?_map, List.getElem?_range h]
  rfl
theorem wl_len (G : GT) (σ : Sg) : (wl G σ).length = sn σ := by simp [wl]
theorem wl_set (G : GT) {σ σ' : Sg} {a : Nat} {e : va_E} (hn : sn σ' = sn σ) (he : ce G σ' a = e) (ho : ∀ b, b < sn σ → b ≠ a → ce G σ' b = ce G σ b) : (wl G σ).set a (gB G + a, e) = wl G σ' := by
  apply List.ext_getElem?
  intro i
  by_cases hi : i < sn σ
  · rw [wl_get G (σ := σ') (by omega)]
    by_cases h : i = a
    · subst h
      rw [List.getElem?_set_self (by rw [wl_len]; exact hi), he]
    · rw [List.getElem?_set_ne (Ne.symm h), wl_get G hi, ho i hi h]
  · rw [List.getElem?_eq_none (by rw [List.length_set, wl_len]; omega), List.getElem?_eq_none (by rw [wl_len]; omega)]
theorem wl_push (G : GT) {σ σ' : Sg} {e : va_E} (hn : sn σ' = sn σ + 1) (he : ce G σ' (sn σ) = e) (ho : ∀ b, b < sn σ → ce G σ' b = ce G σ b) : wl G σ ++ [(gB G + sn σ, e)] = wl G σ' := by
  apply List.ext_getElem?
  intro i
  by_cases hi : i < sn σ
  · rw [List.getElem?_append_left (by rw [wl_len]; exact hi), wl_get G hi, wl_get G (σ := σ') (by omega), ho i hi]
  · by_cases h : i = sn σ
    · subst h
      rw [List.getElem?_append_right (by rw [wl_len]; exact Nat.le_refl _), wl_len, Nat.sub_self, wl_get G (σ := σ') (by omega), he]
      rfl
    · rw [List.getElem?_eq_none (by rw [List.length_append, wl_len]; simp; omega), List.getElem?_eq_none (by rw [wl_len]; omega)]
/-- the tables' words that hold in every state behind the start -/
def gT : List Cond := lw_tbl.filter goodWord
theorem gT_in {w : Cond} (i : Nat) (h : tables_1[i]? = some w) (hg : goodWord w = true) : w ∈ gT := List.mem_filter.mpr ⟨List.mem_append_right _ (List.mem_of_getElem? h), hg⟩
theorem gT_sel {w : Cond} (i : Nat) (h : (k2_sels lw_privs)[i]? = some w) (hg : goodWord w = true) : w ∈ gT := List.mem_filter.mpr ⟨List.mem_append_left _ (List.mem_of_getElem? h), hg⟩
theorem gT_good : ∀ w ∈ gT, (w.onTables && w.keeps) = true ∨ ∃ ty, w = .arrayClass ty := fun w h => good_of_word (List.mem_filter.mp h).2
/-- the others: nest mates' links, arrays over a class -/
def nG (U : State) : Prop := (∀ (o : String) (i : Nat) (y : MethodName), Cond.methodLinkNest o i y RX5 ∈ tables_1 → va_Nw (.methodLinkNest o i y RX5) U) ∧ (va_AO RX1 U ∧ va_AO RX3 U ∧ va_AO RX4 U) ∧ (Cond.arrayOver (.array .int)).before #[] U = true
theorem ao_moved {t : FieldType} {u U : State} (hvm : u.vm.Alike U.vm) (h : (Cond.arrayOver (.array t)).before #[] u = true) : (Cond.arrayOver (.array t)).before #[] U = true := by
  obtain ⟨comp, c, k, h1, h2, h3, h4, h5⟩ := arrayOverA_spec h
  obtain ⟨k', hk', he⟩ := hvm.2.2 _ _ h3
  have hi : (U.vm.classes.findIdx? fun (x : Class) => match x.kind with | .array component _ => component == comp | _ => false) = some c := by
    have hb := va_idx_bare U.vm comp
    have hb' := va_idx_bare u.vm comp
    have e : U.vm.bare = u.vm.bare := by first | exact hvm.bare_eq | exact hvm.bare_eq.symm
    rw [← e] at hb'
    exact hb.symm.trans (hb'.trans h2)
  have hkind : k'.kind = .array comp (.array t) := by rw [he]; exact h4
  have f1 : U.vm.findClass (FieldType.array t).toString = some comp := by rw [hvm.findClass]; exact h1
  have f2 : U.vm.findClass ("[" ++ (FieldType.array t).toString) = some c := by rw [hvm.findClass]; exact h5
  unfold Cond.before Cond.holds
  simp only [Cond.value]
  rw [f1, Option.bind_some]
  refine (congrArg (fun o : Option Nat => (o.bind (fun c => (U.vm.classes[c]?).map fun (k : Class) => match k.kind with | .array _ ty => decide (ty = FieldType.array t) && decide (U.vm.findClass ("[" ++ (FieldType.array t).toString) = some c) | _ => false) == some true)) hi).trans ?_
  simp [hk', hkind, f2]
theorem nG_warm {s U : State} (hW : s.WarmedH U.vm) (h : nG s) : nG U :=
  ⟨fun o i y hw => (h.1 o i y hw).warmM hW, ⟨h.2.1.1.moved hW.alike, h.2.1.2.1.moved hW.alike, h.2.1.2.2.moved hW.alike⟩, ao_moved hW.alike h.2.2⟩
theorem nG_same {s U : State} (hv : s.vm = U.vm) (h : nG s) : nG U :=
  ⟨fun o i y hw => (h.1 o i y hw).same rfl hv, ⟨h.2.1.1.moved (hv ▸ Vm.Alike.refl _), h.2.1.2.1.moved (hv ▸ Vm.Alike.refl _), h.2.1.2.2.moved (hv ▸ Vm.Alike.refl _)⟩, ao_moved (hv ▸ Vm.Alike.refl _) h.2.2⟩
/-- what the heap H holds, under the tables and the first heap of s -/
def RepS (G : GT) (σ : Sg) (s : State) (H : Heap) (locs : List Loc) : Prop :=
  H.size = gB G + sn σ ∧ va_P G.1 cls (wl G σ) H ∧ va_D (fun q => gB G ≤ q) (wl G σ) ∧ va_S (fun q => gB G ≤ q) s.heap H locs ∧ va_K G.1 cls (tyl G) s ∧ nG s ∧ gB G ≤ s.heap.size ∧ gS G < gB G ∧ va_X (gS G) (gL G) (gX G) s s.heap ∧ ∀ a, (sk σ a).1 ≠ 0 → a < sn σ
theorem rep_go {G : GT} {σ : Sg} {s t : State} {H : Heap} {locs : List Loc} (h : RepS G σ s H locs) (ht : t.heap = H) (hW : s.WarmedH t.vm) : RepS G σ t t.heap [] := by
  obtain ⟨h1, h2, h3, h4, h5, h6, h7, h8, h9, h10⟩ := h
  subst ht
  refine ⟨h1, h2, h3, va_S.rf, va_K.moved hW.alike h5, nG_warm hW h6, by omega, h8, ?_, h10⟩
  exact va_X.moved hW.alike (h9.kept (h4.2.1 _ (by omega) (by omega)))
theorem rep_call {G : GT} {σ σ' : Sg} {s st t : State} {H H' : Heap} {locs L : List Loc} (h : RepS G σ s H locs) (hst : st.heap = H) (h' : RepS G σ' t t.heap []) (hH : H' = t.heap) (hz : st.heap.size ≤ t.heap.size) (hk : ∀ q, q < gB G → t.heap[q]? = st.heap[q]?) (hL : ∀ q ∈ L, gB G ≤ q.base) : RepS G σ' s H' (locs ++ L) := by
  obtain ⟨h1, h2, h3, h4, h5, h6, h7, h8, h9, h10⟩ := h
  obtain ⟨g1, g2, g3, g4, g5, g6, g7, g8, g9, g10⟩ := h'
  subst hH
  subst hst
  refine ⟨g1, g2, g3, ⟨Nat.le_trans h4.1 hz, fun q a b => ?_, fun q hq => ?_⟩, h5, h6, h7, h8, h9, g10⟩
  · rw [hk q (by omega)]
    exact h4.2.1 q a b
  · rcases List.mem_append.mp hq with x | x
    · exact h4.2.2 q x
    · exact hL q x
-- locals
def prs (G : GT) : Nat → List AV → List (Nat × Value)
  | _, [] => []
  | i, (.inr (.inr (.inr false))) :: t => prs G (i + 1) t
  | i, v :: t => (i, cv G v) :: prs G (i + 1) t
theorem prs_mem (G : GT) : ∀ (ls : List AV) (i : Nat) (q : Nat × Value), q ∈ prs G i ls ↔ ∃ j v, ls[j]? = some v ∧ v ≠ Vu ∧ q = (i + j, cv G v)
  | [], i, q => by simp [prs]
  | v :: t, i, q => by
    have ih := prs_mem G t (i + 1) q
    have key : (∃ j w, (v :: t)[j]? = some w ∧ w ≠ Vu ∧ q = (i + j, cv G w)) ↔ ((v ≠ Vu ∧ q = (i, cv G v)) ∨ ∃ j w, t[j]? = some w ∧ w ≠ Vu ∧ q = (i + 1 + j, cv G w)) := by
      constructor
      · rintro ⟨j, w, h1, h2, h3⟩
        cases j with
        | zero =>
          simp at h1
          subst h1
          exact Or.inl ⟨h2, by simpa using h3⟩
        | succ j =>
          simp at h1
          exact Or.inr ⟨j, w, h1, h2, by rw [h3]; congr 1; omega⟩
      · rintro (⟨h1, h2⟩ | ⟨j, w, h1, h2, h3⟩)
        · exact ⟨0, v, by simp, h1, by simpa using h2⟩
        · exact ⟨j + 1, w, by simpa using h1, h2, by rw [h3]; congr 1; omega⟩
    rw [key, ← ih]
    rcases v with x | o | x | (_ | _)
    · simp [prs]
    · simp [prs]
    · simp [prs]
    · simp [prs]
    · simp [prs]
theorem lv_ld {G : GT} {ls : List AV} {lsC : Array Slot} {n i : Nat} {v : AV} (h : lv_has lsC n (prs G 0 ls)) (hv : ls[i]? = some v) (hu : v ≠ Vu) : lsC[i]? = some (.val (cv G v)) :=
  h.2.2 (i, cv G v) ((prs_mem G ls 0 _).mpr ⟨i, v, hv, hu, by simp⟩)
theorem lv_mono {lsC : Array Slot} {n : Nat} {l l' : List (Nat × Value)} (h : lv_has lsC n l) (hs : ∀ q ∈ l', q ∈ l) : lv_has lsC n l' := ⟨h.1, h.2.1, fun q hq => h.2.2 q (hs q hq)⟩
/-- no long that is alive begins just below the place -/
def nol (ls : List AV) (i : Nat) : Prop := ∀ x, i ≠ 0 → ls[i - 1]? ≠ some (Vl x)
theorem cat_cv (G : GT) (v : AV) : (cv G v).category = 2 ↔ ∃ x, v = Vl x := by
  rcases v with x | (_ | o) | x | (_ | _) <;> simp [cv, Value.category]
theorem st1 {G : GT} {ls : List AV} {lsC : Array Slot} {n i : Nat} {v : AV} (hi : i < ls.length) (hn : nol ls i) : ∀ q ∈ prs G 0 (ls.set i v), q ∈ (i, cv G v) :: (prs G 0 ls).filter (fun q => !(q.1 == i) && !(q.1 + 1 == i && q.2.category == 2)) := by
  intro q hq
  obtain ⟨j, w, h1, h2, h3⟩ := (prs_mem G _ 0 q).mp hq
  rw [Nat.zero_add] at h3
  by_cases e : j = i
  · subst e
    rw [List.getElem?_set_self hi] at h1
    cases h1
    rw [h3]
    exact List.mem_cons_self
  · rw [List.getElem?_set_ne (Ne.symm e)] at h1
    refine List.mem_cons_of_mem _ (List.mem_filter.mpr ⟨(prs_mem G ls 0 q).mpr ⟨j, w, h1, h2, by rw [h3, Nat.zero_add]⟩, ?_⟩)
    rw [h3]
    have h4 : ¬ (j + 1 = i ∧ (cv G w).category = 2) := by
      rintro ⟨e1, e2⟩
      obtain ⟨x, rfl⟩ := (cat_cv G w).mp e2
      exact hn x (by omega) (by rw [show i - 1 = j by omega]; exact h1)
    have h5 : (j == i) = false := by simpa using e
    simp only [h5, Bool.not_false, Bool.true_and, Bool.not_eq_true']
    cases h6 : (j + 1 == i && (cv G w).category == 2) with
    | false => rfl
    | true =>
      simp at h6
      exact absurd h6 h4
theorem st2 {G : GT} {ls : List AV} {lsC : Array Slot} {n i : Nat} {v : AV} (hi : i + 1 < ls.length) (hn : nol ls i) : ∀ q ∈ prs G 0 ((ls.set i v).set (i + 1) Vu), q ∈ (i, cv G v) :: (prs G 0 ls).filter (fun q => !(q.1 == i) && (!(q.1 == i + 1) && !(q.1 + 1 == i && q.2.category == 2))) := by
  intro q hq
  obtain ⟨j, w, h1, h2, h3⟩ := (prs_mem G _ 0 q).mp hq
  rw [Nat.zero_add] at h3
  by_cases e0 : j = i + 1
  · subst e0
    rw [List.getElem?_set_self (by simpa using hi)] at h1
    cases h1
    exact absurd rfl h2
  rw [List.getElem?_set_ne (Ne.symm e0)] at h1
  by_cases e : j = i
  · subst e
    rw [List.getElem?_set_self (by omega)] at h1
    cases h1
    rw [h3]
    exact List.mem_cons_self
  · rw [List.getElem?_set_ne (Ne.symm e)] at h1
    refine List.mem_cons_of_mem _ (List.mem_filter.mpr ⟨(prs_mem G ls 0 q).mpr ⟨j, w, h1, h2, by rw [h3, Nat.zero_add]⟩, ?_⟩)
    rw [h3]
    have h4 : ¬ (j + 1 = i ∧ (cv G w).category = 2) := by
      rintro ⟨e1, e2⟩
      obtain ⟨x, rfl⟩ := (cat_cv G w).mp e2
      exact hn x (by omega) (by rw [show i - 1 = j by omega]; exact h1)
    have h5 : (j == i) = false := by simpa using e
    have h7 : (j == i + 1) = false := by simpa using e0
    simp only [h5, h7, Bool.not_false, Bool.true_and, Bool.not_eq_true']
    cases h6 : (j + 1 == i && (cv G w).category == 2) with
    | false => rfl
    | true =>
      simp at h6
      exact absurd h6 h4
-- ===== the judgement: from here the method comes to its end with Q =====
def cOK (M : MM) (p : Program) (s : State) (m : MethodId) (args : Array Value) (meth : Method) (c : Code) : Prop :=
  p.tables.exec = Jvm.exec ∧ c.code = bc M ∧ meth.sig.returnType = M.2.2.2 ∧ c.maxLocals = M.2.2.1 ∧ s.vm.findClass M.1.cls = some m.cls ∧ (∀ w ∈ gT, w.before args s = true) ∧ meth.locks = false ∧ (M.1.name = "<init>" → meth.name = "<init>")
def hRt (M : MM) (pc : Nat) (v : Option AV) (st : List AV) : Prop := match v with
  | none => decode (bc M) pc = .ok (.return_, 1) ∧ M.2.2.2 = none ∧ st = []
  | some (.inl x) => decode (bc M) pc = .ok (.ireturn, 1) ∧ st = [Vi x] ∧ (M.2.2.2 = some .int ∨ (M.2.2.2 = some .boolean ∧ (x = 0 ∨ x = 1)))
  | some (.inr (.inl o)) => decode (bc M) pc = .ok (.areturn, 1) ∧ st = [Vr o] ∧ ((∃ n, M.2.2.2 = some (.object n)) ∨ ∃ t, M.2.2.2 = some (.array t))
  | _ => False
def WA (G : GT) (d k n : Nat) (M : MM) (pc : Nat) (ls st : List AV) (σ : Sg) (Q : Option AV → Sg → Prop) : Prop :=
  ∀ (p : Program) (l : Launch) (e : Env) (R : Room) (s : State) (m : MethodId) (args : Array Value) (below : List Frame) (meth : Method) (c : Code) (QM : State → Prop) (mc ms : Nat),
    cOK M p s m args meth c → d ≤ R.frames → 64 * d ≤ R.locals → mc ≤ R.cells → ms ≤ R.slots →
    (∀ (v : Option AV) (σ' : Sg) (H : Heap) (locs : List Loc) (pc : Nat) (lsC : Array Slot) (st : List AV), hRt M pc v st → Q v σ' → RepS G σ' s H locs → W p l e R s m args below meth c H locs mc ms QM (F0 m pc lsC (st.map (cv G)))) →
    ∀ (H : Heap) (locs : List Loc) (cells slots : Nat) (lsC : Array Slot), RepS G σ s H locs → lv_has lsC M.2.2.1 (prs G 0 ls) → cells + k ≤ mc → slots + n ≤ ms →
      W p l e R s m args below meth c H locs cells slots QM (F0 m pc lsC (st.map (cv G)))
theorem WA.ret {G : GT} {d k n : Nat} {M : MM} {pc : Nat} {ls st : List AV} {σ : Sg} {Q : Option AV → Sg → Prop} (v : Option AV) (h : hRt M pc v st) (hQ : Q v σ) : WA G d k n M pc ls st σ Q := by
  intro p l e R s m args below meth c QM mc ms C hfr hlo hmc hms hret H locs cells slots lsC hR hL h1 h2
  exact W.widen (by omega) (by omega) (hret v σ H locs pc lsC st h hQ hR)
theorem WA.mono {G : GT} {d k n : Nat} {M : MM} {pc : Nat} {ls st : List AV} {σ : Sg} {Q Q' : Option AV → Sg → Prop} (h : WA G d k n M pc ls st σ Q) (hQ : ∀ v σ', Q v σ' → Q' v σ') : WA G d k n M pc ls st σ Q' := by
  intro p l e R s m args below meth c QM mc ms C hfr hlo hmc hms hret H locs cells slots lsC hR hL h1 h2
  exact h p l e R s m args below meth c QM mc ms C hfr hlo hmc hms (fun v σ' H locs pc lsC st a b c => hret v σ' H locs pc lsC st a (hQ v σ' b) c) H locs cells slots lsC hR hL h1 h2
theorem WA.room {G : GT} {d d' k k' n n' : Nat} {M : MM} {pc : Nat} {ls st : List AV} {σ : Sg} {Q : Option AV → Sg → Prop} (h : WA G d' k' n' M pc ls st σ Q) (hd : d' ≤ d) (hk : k' ≤ k) (hn : n' ≤ n) : WA G d k n M pc ls st σ Q := by
  intro p l e R s m args below meth c QM mc ms C hfr hlo hmc hms hret H locs cells slots lsC hR hL h1 h2
  exact h p l e R s m args below meth c QM mc ms C (by omega) (by omega) hmc hms hret H locs cells slots lsC hR hL (by omega) (by omega)
-- contracts
def wS (M : MM) : List Cond := .code M.1 (bc M) M.2.2.1 M.2.2.2 :: gT
def pA (G : GT) (σ : Sg) (av : List AV) : Array Value → State → Prop := fun v U => v = (av.map (cv G)).toArray ∧ RepS G σ U U.heap []
def qA (G : GT) (Q : Option AV → Sg → Prop) : Array Value → State → Outcome → State → Prop := fun _ st o t => ∃ (v : Option AV) (σ' : Sg), o = .returned (v.map (cv G)) ∧ Q v σ' ∧ RepS G σ' t t.heap [] ∧ st.heap.size ≤ t.heap.size ∧ ∀ q, q < gB G → t.heap[q]? = st.heap[q]?
theorem rep_blind {G : GT} {σ : Sg} {av : List AV} : FrameBlind (pA G σ av) := by
  intro a U g mk h
  obtain ⟨q0, h1, h2, h3, h4, h5, h6, h7, h8, h9, h10⟩ := h
  exact ⟨q0, h1, h2, h3, va_S.rf, va_K.moved (u := U) (U := U.calling g mk a) (Vm.Alike.refl U.vm) h5, nG_same (U := U.calling g mk a) rfl h6, h7, h8, va_X.moved (u := U) (U := U.calling g mk a) (Vm.Alike.refl U.vm) h9, h10⟩
set_option maxHeartbeats 4000000 in
theorem met_of {G : GT} {l : Launch} {d k n : Nat} {M : MM} {ls av : List AV} {σ : Sg} {Q : Option AV → Sg → Prop} (hpl : plainName M.1.cls = true) (hE : prs G 0 ls = lv_args 0 (av.map (cv G))) (hlen : (lg_sl (av.map (cv G))).length ≤ M.2.2.1) (h : WA G d k n M 0 ls [] σ Q) :
    Met l M.1 (wS M) ({ frames := d, cells := k, slots := n, locals := 64 * d }) (pA G σ av) (qA G Q) k n (fun q => gB G ≤ q) := by
  refine Met.ofW (cc := bc M) (maxL := M.2.2.1) (ret := M.2.2.2) hpl rfl ?_
  intro p e s m args below meth c s₁ B hml hv
  obtain ⟨rfl, hRU⟩ := hv
  have hts := atoms_spec (ws := wS M) B.pre
  have hlv := lv_entry (av.map (cv G)) (n := M.2.2.1) hlen
  rw [lg_entry_eq]
  rw [← hE] at hlv
  refine h p l e _ s m _ below meth c _ k n ⟨B.exec, B.bytes, B.returns, hml, findClass_of_methodNamed B.named, fun w hw => hts w (List.mem_cons_of_mem _ hw), B.notSynchronized, fun hn => ?_⟩ (Nat.le_refl _) (Nat.le_refl _) (Nat.le_refl _) (Nat.le_refl _) ?_ s.heap [] 0 0 _ hRU hlv (by omega) (by omega)
  · rw [(name_of_methodNamed B.named B.method).1]
    exact hn
  · intro v σ' H locs pc lsC st h1 hQ hR
    have hend : ∀ t : State, t.heap = H → s.WarmedH t.vm → qA G Q (av.map (cv G)).toArray s (.returned (v.map (cv G))) t := by
      intro t ht hW
      refine ⟨v, σ', rfl, hQ, rep_go hR ht hW, by rw [ht]; exact hR.2.2.2.1.1, fun q hq => ?_⟩
      rw [ht]
      have hb := hR.2.2.2.2.2.2.1
      exact hR.2.2.2.1.2.1 q (by omega) (by omega)
    have hlocs := hR.2.2.2.1.2.2
    rcases v with _ | (x | (o | (_ | _)))
    · obtain ⟨e1, e2, e3⟩ := h1
      subst e3
      exact W.vret B.exec B.bytes (B.returns.trans e2) hend hlocs e1
    · obtain ⟨e1, e3, e2⟩ := h1
      subst e3
      rcases e2 with e2 | ⟨e2, e4⟩
      · exact W.zret B.exec B.bytes (B.returns.trans e2) rfl hend hlocs e1
      · refine W.zret B.exec B.bytes (B.returns.trans e2) ?_ hend hlocs e1
        rcases e4 with rfl | rfl <;> decide
    · obtain ⟨e1, e3, e2⟩ := h1
      subst e3
      have hv : cv G (Vr o) = .null ∨ ∃ a, cv G (Vr o) = .ref a := by
        cases o with
        | none => exact Or.inl rfl
        | some a => exact Or.inr ⟨_, rfl⟩
      rcases e2 with ⟨n, e2⟩ | ⟨t, e2⟩
      · exact W.aret B.exec B.bytes (B.returns.trans e2) (Or.inl ⟨_, rfl⟩) hv hend hlocs e1
      · exact W.aret B.exec B.bytes (B.returns.trans e2) (Or.inr ⟨_, rfl⟩) hv hend hlocs e1
    · exact h1.elim
    · exact h1.elim
end
section
section ARows
variable {G : GT} {d k n : Nat} {M : MM} {pc : Nat} {ls st : List AV} {σ : Sg} {Q : Option AV → Sg → Prop}
abbrev i32 (x : Int) : Prop := -2147483648 ≤ x ∧ x ≤ 2147483647
abbrev i64 (x : Int) : Prop := -9223372036854775808 ≤ x ∧ x ≤ 9223372036854775807
theorem o_I {x : Int} (h : i32 x) : (Int32.ofInt x).toInt = x := Int32.toInt_ofInt_of_le (by omega) (by omega)
theorem o_L {x : Int} (h : i64 x) : (Int64.ofInt x).toInt = x := Int64.toInt_ofInt_of_le (by omega) (by omega)
theorem o_lt {x y : Int} (hx : i32 x) (hy : i32 y) : Int32.ofInt x < Int32.ofInt y ↔ x < y := by rw [Int32.lt_iff_toInt_lt, o_I hx, o_I hy]
theorem o_le {x y : Int} (hx : i32 x) (hy : i32 y) : Int32.ofInt x ≤ Int32.ofInt y ↔ x ≤ y := by rw [Int32.le_iff_toInt_le, o_I hx, o_I hy]
theorem o_eq {x y : Int} (hx : i32 x) (hy : i32 y) : Int32.ofInt x = Int32.ofInt y ↔ x = y := by rw [← Int32.toInt_inj, o_I hx, o_I hy]
theorem o_z : (0 : Int32) = Int32.ofInt 0 := rfl
theorem o_nat {j : Int} (h : i32 j) : (Int32.ofInt j).toNatClampNeg = j.toNat := by rw [← Int32.toNat_toInt, o_I h]
theorem o_in {j : Int} {N : Nat} (h : 0 ≤ j ∧ j < N ∧ j ≤ 2147483647) : vp_in (Int32.ofInt j) N := by
  unfold vp_in
  rw [o_nat (by omega), o_z, o_lt (by omega) (by omega)]
  omega
theorem o_nneg {j : Int} (h : 0 ≤ j ∧ j ≤ 2147483647) : ¬ Int32.ofInt j < 0 := by
  rw [o_z, o_lt (by omega) (by omega)]
  omega

theorem ar_iconst {x : Int} (q : Nat) (hq : pc + 1 = q) (hd : decode (bc M) pc = .ok (.iconst x, 1)) 
    (kk : WA G d k n M q ls (Vi x :: st) σ Q) : WA G d k n M pc ls (st) σ Q := by
  subst hq
  intro p l e R s m args below meth c QM mc ms C hfr hlo hmc hms hret H locs cells slots lsC hR0 hL h1 h2
  have K := kk p l e R s m args below meth c QM mc ms C hfr hlo hmc hms hret H locs cells slots lsC hR0 hL h1 h2
  exact lv_iconst C.1 C.2.1 hd rfl K
theorem ar_bipush {x : Int} (q : Nat) (hq : pc + 2 = q) (hd : decode (bc M) pc = .ok (.bipush x, 2)) (hv : (Int8.ofInt x).toInt32 = Int32.ofInt x)
    (kk : WA G d k n M q ls (Vi x :: st) σ Q) : WA G d k n M pc ls (st) σ Q := by
  subst hq
  intro p l e R s m args below meth c QM mc ms C hfr hlo hmc hms hret H locs cells slots lsC hR0 hL h1 h2
  have K := kk p l e R s m args below meth c QM mc ms C hfr hlo hmc hms hret H locs cells slots lsC hR0 hL h1 h2
  exact lv_bipush C.1 C.2.1 hd hv K
theorem ar_sipush {x : Int} (q : Nat) (hq : pc + 3 = q) (hd : decode (bc M) pc = .ok (.sipush x, 3)) (hv : (Int16.ofInt x).toInt32 = Int32.ofInt x)
    (kk : WA G d k n M q ls (Vi x :: st) σ Q) : WA G d k n M pc ls (st) σ Q := by
  subst hq
  intro p l e R s m args below meth c QM mc ms C hfr hlo hmc hms hret H locs cells slots lsC hR0 hL h1 h2
  have K := kk p l e R s m args below meth c QM mc ms C hfr hlo hmc hms hret H locs cells slots lsC hR0 hL h1 h2
  exact lv_sipush C.1 C.2.1 hd hv K
theorem ar_lconst {i : Fin 2} (x : Int) (q : Nat) (hq : pc + 1 = q) (hd : decode (bc M) pc = .ok (.lconst i, 1)) (hv : Int64.ofNat (i : Nat) = Int64.ofInt x)
    (kk : WA G d k n M q ls (Vl x :: st) σ Q) : WA G d k n M pc ls (st) σ Q := by
  subst hq
  intro p l e R s m args below meth c QM mc ms C hfr hlo hmc hms hret H locs cells slots lsC hR0 hL h1 h2
  have K := kk p l e R s m args below meth c QM mc ms C hfr hlo hmc hms hret H locs cells slots lsC hR0 hL h1 h2
  exact lv_lconst C.1 C.2.1 hd hv K
theorem ar_ldc2 {idx : Nat} (x : Int) {w : Int64} (q : Nat) (hq : pc + 3 = q) (hd : decode (bc M) pc = .ok (.ldc2_w idx, 3)) (hw : Cond.constantLong M.1.cls idx w ∈ gT) (hv : w = Int64.ofInt x)
    (kk : WA G d k n M q ls (Vl x :: st) σ Q) : WA G d k n M pc ls (st) σ Q := by
  subst hq
  intro p l e R s m args below meth c QM mc ms C hfr hlo hmc hms hret H locs cells slots lsC hR0 hL h1 h2
  have K := kk p l e R s m args below meth c QM mc ms C hfr hlo hmc hms hret H locs cells slots lsC hR0 hL h1 h2
  subst hv
  exact lv_ldc2 C.1 C.2.1 C.2.2.2.2.1 (C.2.2.2.2.2.1 _ hw) hd K
theorem ar_iload_n {i : Fin 4} {x : Int} (q : Nat) (hq : pc + 1 = q) (hd : decode (bc M) pc = .ok (.iload_n i, 1)) (hl : ls[(i : Nat)]? = some (Vi x))
    (kk : WA G d k n M q ls (Vi x :: st) σ Q) : WA G d k n M pc ls (st) σ Q := by
  subst hq
  intro p l e R s m args below meth c QM mc ms C hfr hlo hmc hms hret H locs cells slots lsC hR0 hL h1 h2
  have K := kk p l e R s m args below meth c QM mc ms C hfr hlo hmc hms hret H locs cells slots lsC hR0 hL h1 h2
  exact lv_iload_n C.1 C.2.1 hd rfl (lv_ld hL hl (by intro h; cases h)) K
theorem ar_iload {i : Nat} {x : Int} (q : Nat) (hq : pc + 2 = q) (hd : decode (bc M) pc = .ok (.iload i, 2)) (hl : ls[i]? = some (Vi x))
    (kk : WA G d k n M q ls (Vi x :: st) σ Q) : WA G d k n M pc ls (st) σ Q := by
  subst hq
  intro p l e R s m args below meth c QM mc ms C hfr hlo hmc hms hret H locs cells slots lsC hR0 hL h1 h2
  have K := kk p l e R s m args below meth c QM mc ms C hfr hlo hmc hms hret H locs cells slots lsC hR0 hL h1 h2
  exact lv_iload C.1 C.2.1 hd (lv_ld hL hl (by intro h; cases h)) K
theorem ar_lload_n {i : Fin 4} {x : Int} (q : Nat) (hq : pc + 1 = q) (hd : decode (bc M) pc = .ok (.lload_n i, 1)) (hl : ls[(i : Nat)]? = some (Vl x))
    (kk : WA G d k n M q ls (Vl x :: st) σ Q) : WA G d k n M pc ls (st) σ Q := by
  subst hq
  intro p l e R s m args below meth c QM mc ms C hfr hlo hmc hms hret H locs cells slots lsC hR0 hL h1 h2
  have K := kk p l e R s m args below meth c QM mc ms C hfr hlo hmc hms hret H locs cells slots lsC hR0 hL h1 h2
  exact lv_lload_n C.1 C.2.1 hd rfl (lv_ld hL hl (by intro h; cases h)) K
theorem ar_lload {i : Nat} {x : Int} (q : Nat) (hq : pc + 2 = q) (hd : decode (bc M) pc = .ok (.lload i, 2)) (hl : ls[i]? = some (Vl x))
    (kk : WA G d k n M q ls (Vl x :: st) σ Q) : WA G d k n M pc ls (st) σ Q := by
  subst hq
  intro p l e R s m args below meth c QM mc ms C hfr hlo hmc hms hret H locs cells slots lsC hR0 hL h1 h2
  have K := kk p l e R s m args below meth c QM mc ms C hfr hlo hmc hms hret H locs cells slots lsC hR0 hL h1 h2
  exact lv_lload C.1 C.2.1 hd (lv_ld hL hl (by intro h; cases h)) K
theorem ar_aload_n {i : Fin 4} {r : Option Nat} (q : Nat) (hq : pc + 1 = q) (hd : decode (bc M) pc = .ok (.aload_n i, 1)) (hl : ls[(i : Nat)]? = some (Vr r))
    (kk : WA G d k n M q ls (Vr r :: st) σ Q) : WA G d k n M pc ls (st) σ Q := by
  subst hq
  intro p l e R s m args below meth c QM mc ms C hfr hlo hmc hms hret H locs cells slots lsC hR0 hL h1 h2
  have K := kk p l e R s m args below meth c QM mc ms C hfr hlo hmc hms hret H locs cells slots lsC hR0 hL h1 h2
  have hz := lv_ld hL hl (by intro h; cases h)
  cases r with
  | none => exact lv_aload_nN C.1 C.2.1 hd rfl hz K
  | some a => exact lv_aload_n C.1 C.2.1 hd rfl hz K
theorem ar_aload {i : Nat} {r : Option Nat} (q : Nat) (hq : pc + 2 = q) (hd : decode (bc M) pc = .ok (.aload i, 2)) (hl : ls[i]? = some (Vr r))
    (kk : WA G d k n M q ls (Vr r :: st) σ Q) : WA G d k n M pc ls (st) σ Q := by
  subst hq
  intro p l e R s m args below meth c QM mc ms C hfr hlo hmc hms hret H locs cells slots lsC hR0 hL h1 h2
  have K := kk p l e R s m args below meth c QM mc ms C hfr hlo hmc hms hret H locs cells slots lsC hR0 hL h1 h2
  have hz := lv_ld hL hl (by intro h; cases h)
  cases r with
  | none => exact lv_aloadN C.1 C.2.1 hd hz K
  | some a => exact lv_aload C.1 C.2.1 hd hz K
theorem ar_aload_nS {i : Fin 4} (q : Nat) (hq : pc + 1 = q) (hd : decode (bc M) pc = .ok (.aload_n i, 1)) (hl : ls[(i : Nat)]? = some Vs)
    (kk : WA G d k n M q ls (Vs :: st) σ Q) : WA G d k n M pc ls (st) σ Q := by
  subst hq
  intro p l e R s m args below meth c QM mc ms C hfr hlo hmc hms hret H locs cells slots lsC hR0 hL h1 h2
  have K := kk p l e R s m args below meth c QM mc ms C hfr hlo hmc hms hret H locs cells slots lsC hR0 hL h1 h2
  exact lv_aload_n C.1 C.2.1 hd rfl (lv_ld hL hl (by intro h; cases h)) K
theorem ar_istore_n {i : Fin 4} {x : Int} (q : Nat) (hq : pc + 1 = q) (hd : decode (bc M) pc = .ok (.istore_n i, 1)) (hlen : ls.length = M.2.2.1) (hi : (i : Nat) < ls.length) (hn : nol ls (i : Nat)) 
    (kk : WA G d k n M q (ls.set (i : Nat) (Vi x)) st σ Q) : WA G d k n M pc ls ((Vi x) :: st) σ Q := by
  subst hq
  intro p l e R s m args below meth c QM mc ms C hfr hlo hmc hms hret H locs cells slots lsC hR0 hL h1 h2
  refine lv_istore_n C.1 C.2.1 hd rfl hL (by omega) rfl fun ls' hL' => ?_
  exact kk p l e R s m args below meth c QM mc ms C hfr hlo hmc hms hret H locs cells slots ls' hR0 (lv_mono hL' (st1 (lsC := lsC) (n := 0) hi hn)) h1 h2
theorem ar_istore {i : Nat} {x : Int} (q : Nat) (hq : pc + 2 = q) (hd : decode (bc M) pc = .ok (.istore i, 2)) (hlen : ls.length = M.2.2.1) (hi : i < ls.length) (hn : nol ls i) 
    (kk : WA G d k n M q (ls.set i (Vi x)) st σ Q) : WA G d k n M pc ls ((Vi x) :: st) σ Q := by
  subst hq
  intro p l e R s m args below meth c QM mc ms C hfr hlo hmc hms hret H locs cells slots lsC hR0 hL h1 h2
  refine lv_istore C.1 C.2.1 hd hL (by omega) rfl fun ls' hL' => ?_
  exact kk p l e R s m args below meth c QM mc ms C hfr hlo hmc hms hret H locs cells slots ls' hR0 (lv_mono hL' (st1 (lsC := lsC) (n := 0) hi hn)) h1 h2
theorem ar_lstore_n {i : Fin 4} {x : Int} (q : Nat) (hq : pc + 1 = q) (hd : decode (bc M) pc = .ok (.lstore_n i, 1)) (hlen : ls.length = M.2.2.1) (hi : (i : Nat) + 1 < ls.length) (hn : nol ls (i : Nat)) 
    (kk : WA G d k n M q ((ls.set (i : Nat) (Vl x)).set ((i : Nat) + 1) Vu) st σ Q) : WA G d k n M pc ls ((Vl x) :: st) σ Q := by
  subst hq
  intro p l e R s m args below meth c QM mc ms C hfr hlo hmc hms hret H locs cells slots lsC hR0 hL h1 h2
  refine lv_lstore_n C.1 C.2.1 hd rfl hL (by omega) rfl fun ls' hL' => ?_
  exact kk p l e R s m args below meth c QM mc ms C hfr hlo hmc hms hret H locs cells slots ls' hR0 (lv_mono hL' (st2 (lsC := lsC) (n := 0) hi hn)) h1 h2
theorem ar_lstore {i : Nat} {x : Int} (q : Nat) (hq : pc + 2 = q) (hd : decode (bc M) pc = .ok (.lstore i, 2)) (hlen : ls.length = M.2.2.1) (hi : i + 1 < ls.length) (hn : nol ls i) 
    (kk : WA G d k n M q ((ls.set i (Vl x)).set (i + 1) Vu) st σ Q) : WA G d k n M pc ls ((Vl x) :: st) σ Q := by
  subst hq
  intro p l e R s m args below meth c QM mc ms C hfr hlo hmc hms hret H locs cells slots lsC hR0 hL h1 h2
  refine lv_lstore C.1 C.2.1 hd hL (by omega) rfl fun ls' hL' => ?_
  exact kk p l e R s m args below meth c QM mc ms C hfr hlo hmc hms hret H locs cells slots ls' hR0 (lv_mono hL' (st2 (lsC := lsC) (n := 0) hi hn)) h1 h2
theorem ar_astore_n {i : Fin 4} {r : Option Nat} (q : Nat) (hq : pc + 1 = q) (hd : decode (bc M) pc = .ok (.astore_n i, 1)) (hlen : ls.length = M.2.2.1) (hi : (i : Nat) < ls.length) (hn : nol ls (i : Nat)) 
    (kk : WA G d k n M q (ls.set (i : Nat) (Vr r)) st σ Q) : WA G d k n M pc ls ((Vr r) :: st) σ Q := by
  subst hq
  intro p l e R s m args below meth c QM mc ms C hfr hlo hmc hms hret H locs cells slots lsC hR0 hL h1 h2
  cases r with
  | none =>
    refine lv_astore_nN C.1 C.2.1 hd rfl hL (by omega) rfl fun ls' hL' => ?_
    exact kk p l e R s m args below meth c QM mc ms C hfr hlo hmc hms hret H locs cells slots ls' hR0 (lv_mono hL' (st1 (lsC := lsC) (n := 0) hi hn)) h1 h2
  | some a =>
    refine lv_astore_n C.1 C.2.1 hd rfl hL (by omega) rfl fun ls' hL' => ?_
    exact kk p l e R s m args below meth c QM mc ms C hfr hlo hmc hms hret H locs cells slots ls' hR0 (lv_mono hL' (st1 (lsC := lsC) (n := 0) hi hn)) h1 h2
theorem ar_astore {i : Nat} {r : Option Nat} (q : Nat) (hq : pc + 2 = q) (hd : decode (bc M) pc = .ok (.astore i, 2)) (hlen : ls.length = M.2.2.1) (hi : i < ls.length) (hn : nol ls i) 
    (kk : WA G d k n M q (ls.set i (Vr r)) st σ Q) : WA G d k n M pc ls ((Vr r) :: st) σ Q := by
  subst hq
  intro p l e R s m args below meth c QM mc ms C hfr hlo hmc hms hret H locs cells slots lsC hR0 hL h1 h2
  cases r with
  | none =>
    refine lv_astoreN C.1 C.2.1 hd hL (by omega) rfl fun ls' hL' => ?_
    exact kk p l e R s m args below meth c QM mc ms C hfr hlo hmc hms hret H locs cells slots ls' hR0 (lv_mono hL' (st1 (lsC := lsC) (n := 0) hi hn)) h1 h2
  | some a =>
    refine lv_astore C.1 C.2.1 hd hL (by omega) rfl fun ls' hL' => ?_
    exact kk p l e R s m args below meth c QM mc ms C hfr hlo hmc hms hret H locs cells slots ls' hR0 (lv_mono hL' (st1 (lsC := lsC) (n := 0) hi hn)) h1 h2
theorem ar_iinc {i : Nat} {x z : Int} (q : Nat) (hq : pc + 3 = q) (hd : decode (bc M) pc = .ok (.iinc i z, 3)) (hlen : ls.length = M.2.2.1) (hx : ls[i]? = some (Vi x)) (hn : nol ls i)
    (kk : WA G d k n M q (ls.set i (Vi (x + z))) st σ Q) : WA G d k n M pc ls st σ Q := by
  subst hq
  intro p l e R s m args below meth c QM mc ms C hfr hlo hmc hms hret H locs cells slots lsC hR0 hL h1 h2
  have hi : i < ls.length := (List.getElem?_eq_some_iff.mp hx).1
  obtain ⟨kx, hkx⟩ := List.getElem?_of_mem ((prs_mem G ls 0 (i, cv G (Vi x))).mpr ⟨i, Vi x, hx, (by intro h; cases h), by simp⟩)
  refine lv_iinc C.1 C.2.1 hd hL hkx (Int32.ofInt_add x z).symm (by omega) rfl fun ls' hL' => ?_
  exact kk p l e R s m args below meth c QM mc ms C hfr hlo hmc hms hret H locs cells slots ls' hR0 (lv_mono hL' (st1 (lsC := lsC) (n := 0) (v := Vi (x + z)) hi hn)) h1 h2
theorem ar_iadd {x y : Int} (q : Nat) (hq : pc + 1 = q) (hd : decode (bc M) pc = .ok (.iadd, 1)) 
    (kk : WA G d k n M q ls (Vi (x + y) :: st) σ Q) : WA G d k n M pc ls (Vi y :: Vi x :: st) σ Q := by
  subst hq
  intro p l e R s m args below meth c QM mc ms C hfr hlo hmc hms hret H locs cells slots lsC hR0 hL h1 h2
  have K := kk p l e R s m args below meth c QM mc ms C hfr hlo hmc hms hret H locs cells slots lsC hR0 hL h1 h2
  refine lv_iadd (x := Int32.ofInt x) (y := Int32.ofInt y) C.1 C.2.1 hd ?_
  rw [← Int32.ofInt_add]
  exact K
theorem ar_isub {x y : Int} (q : Nat) (hq : pc + 1 = q) (hd : decode (bc M) pc = .ok (.isub, 1)) 
    (kk : WA G d k n M q ls (Vi (x - y) :: st) σ Q) : WA G d k n M pc ls (Vi y :: Vi x :: st) σ Q := by
  subst hq
  intro p l e R s m args below meth c QM mc ms C hfr hlo hmc hms hret H locs cells slots lsC hR0 hL h1 h2
  have K := kk p l e R s m args below meth c QM mc ms C hfr hlo hmc hms hret H locs cells slots lsC hR0 hL h1 h2
  refine lv_isub (x := Int32.ofInt x) (y := Int32.ofInt y) C.1 C.2.1 hd ?_
  rw [← Int32.ofInt_sub]
  exact K
theorem ar_imul {x y : Int} (q : Nat) (hq : pc + 1 = q) (hd : decode (bc M) pc = .ok (.imul, 1)) 
    (kk : WA G d k n M q ls (Vi (x * y) :: st) σ Q) : WA G d k n M pc ls (Vi y :: Vi x :: st) σ Q := by
  subst hq
  intro p l e R s m args below meth c QM mc ms C hfr hlo hmc hms hret H locs cells slots lsC hR0 hL h1 h2
  have K := kk p l e R s m args below meth c QM mc ms C hfr hlo hmc hms hret H locs cells slots lsC hR0 hL h1 h2
  refine lv_imul (x := Int32.ofInt x) (y := Int32.ofInt y) C.1 C.2.1 hd ?_
  rw [← Int32.ofInt_mul]
  exact K
def iRm (x y : Int) : Int := (Int32.ofInt x - Int32.ofInt x / Int32.ofInt y * Int32.ofInt y).toInt
def iAn (x y : Int) : Int := (Int32.ofInt x &&& Int32.ofInt y).toInt
def iOr (x y : Int) : Int := (Int32.ofInt x ||| Int32.ofInt y).toInt
def iXr (x y : Int) : Int := (Int32.ofInt x ^^^ Int32.ofInt y).toInt
def iSl (x y : Int) : Int := (Int32.ofInt x <<< (Int32.ofInt y &&& 31)).toInt
def iSr (x y : Int) : Int := (Int32.ofInt x >>> (Int32.ofInt y &&& 31)).toInt
def iUs (x y : Int) : Int := ((Int32.ofInt x).toUInt32 >>> ((Int32.ofInt y).toUInt32 &&& Int32.toUInt32 31)).toInt32.toInt
def lAn (x y : Int) : Int := (Int64.ofInt x &&& Int64.ofInt y).toInt
def lOr (x y : Int) : Int := (Int64.ofInt x ||| Int64.ofInt y).toInt
def lSl (x y : Int) : Int := (Int64.ofInt x <<< ((Int32.ofInt y).toInt64 &&& 63)).toInt
def lUs (x y : Int) : Int := ((Int64.ofInt x).toUInt64 >>> ((Int32.ofInt y).toInt64.toUInt64 &&& Int64.toUInt64 63)).toInt64.toInt
theorem cv_i32 (G : GT) (z : Int32) : cv G (Vi z.toInt) = .int z := congrArg Value.int (Int32.ofInt_toInt z)
theorem cv_i64 (G : GT) (z : Int64) : cv G (Vl z.toInt) = .long z := congrArg Value.long (Int64.ofInt_toInt z)
theorem ar_irem {x y : Int} (q : Nat) (hq : pc + 1 = q) (hd : decode (bc M) pc = .ok (.irem, 1)) (hy : i32 y ∧ y ≠ 0)
    (kk : WA G d k n M q ls (Vi (iRm x y) :: st) σ Q) : WA G d k n M pc ls (Vi y :: Vi x :: st) σ Q := by
  subst hq
  intro p l e R s m args below meth c QM mc ms C hfr hlo hmc hms hret H locs cells slots lsC hR0 hL h1 h2
  have K := kk p l e R s m args below meth c QM mc ms C hfr hlo hmc hms hret H locs cells slots lsC hR0 hL h1 h2
  rw [List.map_cons, iRm, cv_i32] at K
  exact lv_irem C.1 C.2.1 hd (by rw [o_z, o_eq hy.1 (by omega)]; exact hy.2) K
theorem ar_iand {x y : Int} (q : Nat) (hq : pc + 1 = q) (hd : decode (bc M) pc = .ok (.iand, 1)) 
    (kk : WA G d k n M q ls (Vi (iAn x y) :: st) σ Q) : WA G d k n M pc ls (Vi y :: Vi x :: st) σ Q := by
  subst hq
  intro p l e R s m args below meth c QM mc ms C hfr hlo hmc hms hret H locs cells slots lsC hR0 hL h1 h2
  have K := kk p l e R s m args below meth c QM mc ms C hfr hlo hmc hms hret H locs cells slots lsC hR0 hL h1 h2
  rw [List.map_cons, iAn, cv_i32] at K
  exact lv_iand C.1 C.2.1 hd  K
theorem ar_ior {x y : Int} (q : Nat) (hq : pc + 1 = q) (hd : decode (bc M) pc = .ok (.ior, 1)) 
    (kk : WA G d k n M q ls (Vi (iOr x y) :: st) σ Q) : WA G d k n M pc ls (Vi y :: Vi x :: st) σ Q := by
  subst hq
  intro p l e R s m args below meth c QM mc ms C hfr hlo hmc hms hret H locs cells slots lsC hR0 hL h1 h2
  have K := kk p l e R s m args below meth c QM mc ms C hfr hlo hmc hms hret H locs cells slots lsC hR0 hL h1 h2
  rw [List.map_cons, iOr, cv_i32] at K
  exact lv_ior C.1 C.2.1 hd  K
theorem ar_ixor {x y : Int} (q : Nat) (hq : pc + 1 = q) (hd : decode (bc M) pc = .ok (.ixor, 1)) 
    (kk : WA G d k n M q ls (Vi (iXr x y) :: st) σ Q) : WA G d k n M pc ls (Vi y :: Vi x :: st) σ Q := by
  subst hq
  intro p l e R s m args below meth c QM mc ms C hfr hlo hmc hms hret H locs cells slots lsC hR0 hL h1 h2
  have K := kk p l e R s m args below meth c QM mc ms C hfr hlo hmc hms hret H locs cells slots lsC hR0 hL h1 h2
  rw [List.map_cons, iXr, cv_i32] at K
  exact lv_ixor C.1 C.2.1 hd  K
theorem ar_ishl {x y : Int} (q : Nat) (hq : pc + 1 = q) (hd : decode (bc M) pc = .ok (.ishl, 1)) 
    (kk : WA G d k n M q ls (Vi (iSl x y) :: st) σ Q) : WA G d k n M pc ls (Vi y :: Vi x :: st) σ Q := by
  subst hq
  intro p l e R s m args below meth c QM mc ms C hfr hlo hmc hms hret H locs cells slots lsC hR0 hL h1 h2
  have K := kk p l e R s m args below meth c QM mc ms C hfr hlo hmc hms hret H locs cells slots lsC hR0 hL h1 h2
  rw [List.map_cons, iSl, cv_i32] at K
  exact lv_ishl C.1 C.2.1 hd  K
theorem ar_ishr {x y : Int} (q : Nat) (hq : pc + 1 = q) (hd : decode (bc M) pc = .ok (.ishr, 1)) 
    (kk : WA G d k n M q ls (Vi (iSr x y) :: st) σ Q) : WA G d k n M pc ls (Vi y :: Vi x :: st) σ Q := by
  subst hq
  intro p l e R s m args below meth c QM mc ms C hfr hlo hmc hms hret H locs cells slots lsC hR0 hL h1 h2
  have K := kk p l e R s m args below meth c QM mc ms C hfr hlo hmc hms hret H locs cells slots lsC hR0 hL h1 h2
  rw [List.map_cons, iSr, cv_i32] at K
  exact lv_ishr C.1 C.2.1 hd  K
theorem ar_iushr {x y : Int} (q : Nat) (hq : pc + 1 = q) (hd : decode (bc M) pc = .ok (.iushr, 1)) 
    (kk : WA G d k n M q ls (Vi (iUs x y) :: st) σ Q) : WA G d k n M pc ls (Vi y :: Vi x :: st) σ Q := by
  subst hq
  intro p l e R s m args below meth c QM mc ms C hfr hlo hmc hms hret H locs cells slots lsC hR0 hL h1 h2
  have K := kk p l e R s m args below meth c QM mc ms C hfr hlo hmc hms hret H locs cells slots lsC hR0 hL h1 h2
  rw [List.map_cons, iUs, cv_i32] at K
  exact lv_iushr C.1 C.2.1 hd rfl K
theorem ar_land {x y : Int} (q : Nat) (hq : pc + 1 = q) (hd : decode (bc M) pc = .ok (.land, 1)) 
    (kk : WA G d k n M q ls (Vl (lAn x y) :: st) σ Q) : WA G d k n M pc ls (Vl y :: Vl x :: st) σ Q := by
  subst hq
  intro p l e R s m args below meth c QM mc ms C hfr hlo hmc hms hret H locs cells slots lsC hR0 hL h1 h2
  have K := kk p l e R s m args below meth c QM mc ms C hfr hlo hmc hms hret H locs cells slots lsC hR0 hL h1 h2
  rw [List.map_cons, lAn, cv_i64] at K
  exact lv_land C.1 C.2.1 hd  K
theorem ar_lor {x y : Int} (q : Nat) (hq : pc + 1 = q) (hd : decode (bc M) pc = .ok (.lor, 1)) 
    (kk : WA G d k n M q ls (Vl (lOr x y) :: st) σ Q) : WA G d k n M pc ls (Vl y :: Vl x :: st) σ Q := by
  subst hq
  intro p l e R s m args below meth c QM mc ms C hfr hlo hmc hms hret H locs cells slots lsC hR0 hL h1 h2
  have K := kk p l e R s m args below meth c QM mc ms C hfr hlo hmc hms hret H locs cells slots lsC hR0 hL h1 h2
  rw [List.map_cons, lOr, cv_i64] at K
  exact lv_lor C.1 C.2.1 hd  K
theorem ar_lshl {x y : Int} (q : Nat) (hq : pc + 1 = q) (hd : decode (bc M) pc = .ok (.lshl, 1)) 
    (kk : WA G d k n M q ls (Vl (lSl x y) :: st) σ Q) : WA G d k n M pc ls (Vi y :: Vl x :: st) σ Q := by
  subst hq
  intro p l e R s m args below meth c QM mc ms C hfr hlo hmc hms hret H locs cells slots lsC hR0 hL h1 h2
  have K := kk p l e R s m args below meth c QM mc ms C hfr hlo hmc hms hret H locs cells slots lsC hR0 hL h1 h2
  rw [List.map_cons, lSl, cv_i64] at K
  exact lv_lshl C.1 C.2.1 hd rfl K
theorem ar_lushr {x y : Int} (q : Nat) (hq : pc + 1 = q) (hd : decode (bc M) pc = .ok (.lushr, 1)) 
    (kk : WA G d k n M q ls (Vl (lUs x y) :: st) σ Q) : WA G d k n M pc ls (Vi y :: Vl x :: st) σ Q := by
  subst hq
  intro p l e R s m args below meth c QM mc ms C hfr hlo hmc hms hret H locs cells slots lsC hR0 hL h1 h2
  have K := kk p l e R s m args below meth c QM mc ms C hfr hlo hmc hms hret H locs cells slots lsC hR0 hL h1 h2
  rw [List.map_cons, lUs, cv_i64] at K
  exact lv_lushr C.1 C.2.1 hd rfl K
theorem ar_i2l {x : Int} (q : Nat) (hq : pc + 1 = q) (hd : decode (bc M) pc = .ok (.i2l, 1)) (hx : i32 x)
    (kk : WA G d k n M q ls (Vl x :: st) σ Q) : WA G d k n M pc ls (Vi x :: st) σ Q := by
  subst hq
  intro p l e R s m args below meth c QM mc ms C hfr hlo hmc hms hret H locs cells slots lsC hR0 hL h1 h2
  have K := kk p l e R s m args below meth c QM mc ms C hfr hlo hmc hms hret H locs cells slots lsC hR0 hL h1 h2
  exact lv_i2l C.1 C.2.1 hd (Int32.toInt64_ofInt (by show (-2147483648 : Int) ≤ x; omega) (by show x ≤ (2147483647 : Int); omega)) K
theorem ar_l2i {x : Int} (q : Nat) (hq : pc + 1 = q) (hd : decode (bc M) pc = .ok (.l2i, 1)) 
    (kk : WA G d k n M q ls (Vi x :: st) σ Q) : WA G d k n M pc ls (Vl x :: st) σ Q := by
  subst hq
  intro p l e R s m args below meth c QM mc ms C hfr hlo hmc hms hret H locs cells slots lsC hR0 hL h1 h2
  have K := kk p l e R s m args below meth c QM mc ms C hfr hlo hmc hms hret H locs cells slots lsC hR0 hL h1 h2
  exact lv_l2i C.1 C.2.1 hd Int64.toInt32_ofInt K
theorem ar_lcmp {x y : Int} (q : Nat) (hq : pc + 1 = q) (hd : decode (bc M) pc = .ok (.lcmp, 1)) (hx : i64 x) (hy : i64 y)
    (kk : WA G d k n M q ls (Vi (if y < x then 1 else if x = y then 0 else -1) :: st) σ Q) : WA G d k n M pc ls (Vl y :: Vl x :: st) σ Q := by
  subst hq
  intro p l e R s m args below meth c QM mc ms C hfr hlo hmc hms hret H locs cells slots lsC hR0 hL h1 h2
  have K := kk p l e R s m args below meth c QM mc ms C hfr hlo hmc hms hret H locs cells slots lsC hR0 hL h1 h2
  refine W.lcmp (x := Int64.ofInt x) (y := Int64.ofInt y) C.1 C.2.1 hd ?_
  have e : Value.int (lg_cmp (Int64.ofInt x) (Int64.ofInt y)) = cv G (Vi (if y < x then 1 else if x = y then 0 else -1)) := by
    unfold lg_cmp
    simp only [gt_iff_lt, Int64.lt_iff_toInt_lt, ← Int64.toInt_inj, o_L hx, o_L hy]
    split
    · rfl
    · split <;> rfl
  rw [e]
  exact K
theorem ar_dup {v : AV} (q : Nat) (hq : pc + 1 = q) (hd : decode (bc M) pc = .ok (.dup, 1)) (hv : ∀ G : GT, (cv G v).category = 1)
    (kk : WA G d k n M q ls (v :: v :: st) σ Q) : WA G d k n M pc ls (v :: st) σ Q := by
  subst hq
  intro p l e R s m args below meth c QM mc ms C hfr hlo hmc hms hret H locs cells slots lsC hR0 hL h1 h2
  have K := kk p l e R s m args below meth c QM mc ms C hfr hlo hmc hms hret H locs cells slots lsC hR0 hL h1 h2
  exact lv_dup C.1 C.2.1 hd (hv G) K
theorem ar_dup2 {v w : AV} (q : Nat) (hq : pc + 1 = q) (hd : decode (bc M) pc = .ok (.dup2, 1)) (hv : ∀ G : GT, (cv G v).category = 1 ∧ (cv G w).category = 1)
    (kk : WA G d k n M q ls (v :: w :: v :: w :: st) σ Q) : WA G d k n M pc ls (v :: w :: st) σ Q := by
  subst hq
  intro p l e R s m args below meth c QM mc ms C hfr hlo hmc hms hret H locs cells slots lsC hR0 hL h1 h2
  have K := kk p l e R s m args below meth c QM mc ms C hfr hlo hmc hms hret H locs cells slots lsC hR0 hL h1 h2
  exact lv_dup2_11 C.1 C.2.1 hd (hv G).1 (hv G).2 K
theorem ar_pop {v : AV} (q : Nat) (hq : pc + 1 = q) (hd : decode (bc M) pc = .ok (.pop, 1)) (hv : ∀ G : GT, (cv G v).category = 1)
    (kk : WA G d k n M q ls (st) σ Q) : WA G d k n M pc ls (v :: st) σ Q := by
  subst hq
  intro p l e R s m args below meth c QM mc ms C hfr hlo hmc hms hret H locs cells slots lsC hR0 hL h1 h2
  have K := kk p l e R s m args below meth c QM mc ms C hfr hlo hmc hms hret H locs cells slots lsC hR0 hL h1 h2
  exact lv_pop C.1 C.2.1 hd (hv G) K
theorem ar_icmp_eq {x y off : Int} (t q : Nat) (hq : pc + 3 = q) (ht : (pc : Int) + off = (t : Int)) (hd : decode (bc M) pc = .ok (.if_icmp .eq off, 3)) (hx : i32 x) (hy : i32 y)
    (kt : x = y → WA G d k n M t ls st σ Q) (kf : ¬ (x = y) → WA G d k n M q ls st σ Q) : WA G d k n M pc ls (Vi y :: Vi x :: st) σ Q := by
  subst hq
  intro p l e R s m args below meth c QM mc ms C hfr hlo hmc hms hret H locs cells slots lsC hR0 hL h1 h2
  refine lv_icmp_eq C.1 C.2.1 hd ht (fun h => ?_) (fun h => ?_)
  · have h9 : x = y := (o_eq hx hy).mp h
    exact (kt h9) p l e R s m args below meth c QM mc ms C hfr hlo hmc hms hret H locs cells slots lsC hR0 hL h1 h2
  · exact (kf (fun h9 => h ((o_eq hx hy).mpr h9))) p l e R s m args below meth c QM mc ms C hfr hlo hmc hms hret H locs cells slots lsC hR0 hL h1 h2
theorem ar_if_eq {x off : Int} (t q : Nat) (hq : pc + 3 = q) (ht : (pc : Int) + off = (t : Int)) (hd : decode (bc M) pc = .ok (.ifCond .eq off, 3)) (hx : i32 x)
    (kt : x = 0 → WA G d k n M t ls st σ Q) (kf : ¬ (x = 0) → WA G d k n M q ls st σ Q) : WA G d k n M pc ls (Vi x :: st) σ Q := by
  subst hq
  intro p l e R s m args below meth c QM mc ms C hfr hlo hmc hms hret H locs cells slots lsC hR0 hL h1 h2
  refine lv_if_eq C.1 C.2.1 hd ht (fun h => ?_) (fun h => ?_)
  · have h9 : x = 0 := (o_eq hx (show i32 0 by omega)).mp h
    exact (kt h9) p l e R s m args below meth c QM mc ms C hfr hlo hmc hms hret H locs cells slots lsC hR0 hL h1 h2
  · exact (kf (fun h9 => h ((o_eq hx (show i32 0 by omega)).mpr h9))) p l e R s m args below meth c QM mc ms C hfr hlo hmc hms hret H locs cells slots lsC hR0 hL h1 h2
theorem ar_icmp_ne {x y off : Int} (t q : Nat) (hq : pc + 3 = q) (ht : (pc : Int) + off = (t : Int)) (hd : decode (bc M) pc = .ok (.if_icmp .ne off, 3)) (hx : i32 x) (hy : i32 y)
    (kt : ¬ x = y → WA G d k n M t ls st σ Q) (kf : x = y → WA G d k n M q ls st σ Q) : WA G d k n M pc ls (Vi y :: Vi x :: st) σ Q := by
  subst hq
  intro p l e R s m args below meth c QM mc ms C hfr hlo hmc hms hret H locs cells slots lsC hR0 hL h1 h2
  refine lv_icmp_ne C.1 C.2.1 hd ht (fun h => ?_) (fun h => ?_)
  · have h9 : ¬ x = y := (not_congr (o_eq hx hy)).mp h
    exact (kt h9) p l e R s m args below meth c QM mc ms C hfr hlo hmc hms hret H locs cells slots lsC hR0 hL h1 h2
  · exact (kf ((o_eq hx hy).mp h)) p l e R s m args below meth c QM mc ms C hfr hlo hmc hms hret H locs cells slots lsC hR0 hL h1 h2
theorem ar_if_ne {x off : Int} (t q : Nat) (hq : pc + 3 = q) (ht : (pc : Int) + off = (t : Int)) (hd : decode (bc M) pc = .ok (.ifCond .ne off, 3)) (hx : i32 x)
    (kt : ¬ x = 0 → WA G d k n M t ls st σ Q) (kf : x = 0 → WA G d k n M q ls st σ Q) : WA G d k n M pc ls (Vi x :: st) σ Q := by
  subst hq
  intro p l e R s m args below meth c QM mc ms C hfr hlo hmc hms hret H locs cells slots lsC hR0 hL h1 h2
  refine lv_if_ne C.1 C.2.1 hd ht (fun h => ?_) (fun h => ?_)
  · have h9 : ¬ x = 0 := (not_congr (o_eq hx (show i32 0 by omega))).mp h
    exact (kt h9) p l e R s m args below meth c QM mc ms C hfr hlo hmc hms hret H locs cells slots lsC hR0 hL h1 h2
  · exact (kf ((o_eq hx (show i32 0 by omega)).mp h)) p l e R s m args below meth c QM mc ms C hfr hlo hmc hms hret H locs cells slots lsC hR0 hL h1 h2
theorem ar_icmp_lt {x y off : Int} (t q : Nat) (hq : pc + 3 = q) (ht : (pc : Int) + off = (t : Int)) (hd : decode (bc M) pc = .ok (.if_icmp .lt off, 3)) (hx : i32 x) (hy : i32 y)
    (kt : x < y → WA G d k n M t ls st σ Q) (kf : ¬ (x < y) → WA G d k n M q ls st σ Q) : WA G d k n M pc ls (Vi y :: Vi x :: st) σ Q := by
  subst hq
  intro p l e R s m args below meth c QM mc ms C hfr hlo hmc hms hret H locs cells slots lsC hR0 hL h1 h2
  refine lv_icmp_lt C.1 C.2.1 hd ht (fun h => ?_) (fun h => ?_)
  · have h9 : x < y := (o_lt hx hy).mp h
    exact (kt h9) p l e R s m args below meth c QM mc ms C hfr hlo hmc hms hret H locs cells slots lsC hR0 hL h1 h2
  · exact (kf (fun h9 => h ((o_lt hx hy).mpr h9))) p l e R s m args below meth c QM mc ms C hfr hlo hmc hms hret H locs cells slots lsC hR0 hL h1 h2
theorem ar_if_lt {x off : Int} (t q : Nat) (hq : pc + 3 = q) (ht : (pc : Int) + off = (t : Int)) (hd : decode (bc M) pc = .ok (.ifCond .lt off, 3)) (hx : i32 x)
    (kt : x < 0 → WA G d k n M t ls st σ Q) (kf : ¬ (x < 0) → WA G d k n M q ls st σ Q) : WA G d k n M pc ls (Vi x :: st) σ Q := by
  subst hq
  intro p l e R s m args below meth c QM mc ms C hfr hlo hmc hms hret H locs cells slots lsC hR0 hL h1 h2
  refine lv_if_lt C.1 C.2.1 hd ht (fun h => ?_) (fun h => ?_)
  · have h9 : x < 0 := (o_lt hx (show i32 0 by omega)).mp h
    exact (kt h9) p l e R s m args below meth c QM mc ms C hfr hlo hmc hms hret H locs cells slots lsC hR0 hL h1 h2
  · exact (kf (fun h9 => h ((o_lt hx (show i32 0 by omega)).mpr h9))) p l e R s m args below meth c QM mc ms C hfr hlo hmc hms hret H locs cells slots lsC hR0 hL h1 h2
theorem ar_icmp_ge {x y off : Int} (t q : Nat) (hq : pc + 3 = q) (ht : (pc : Int) + off = (t : Int)) (hd : decode (bc M) pc = .ok (.if_icmp .ge off, 3)) (hx : i32 x) (hy : i32 y)
    (kt : y ≤ x → WA G d k n M t ls st σ Q) (kf : ¬ (y ≤ x) → WA G d k n M q ls st σ Q) : WA G d k n M pc ls (Vi y :: Vi x :: st) σ Q := by
  subst hq
  intro p l e R s m args below meth c QM mc ms C hfr hlo hmc hms hret H locs cells slots lsC hR0 hL h1 h2
  refine lv_icmp_ge C.1 C.2.1 hd ht (fun h => ?_) (fun h => ?_)
  · have h9 : y ≤ x := (o_le hy hx).mp h
    exact (kt h9) p l e R s m args below meth c QM mc ms C hfr hlo hmc hms hret H locs cells slots lsC hR0 hL h1 h2
  · exact (kf (fun h9 => h ((o_le hy hx).mpr h9))) p l e R s m args below meth c QM mc ms C hfr hlo hmc hms hret H locs cells slots lsC hR0 hL h1 h2
theorem ar_if_ge {x off : Int} (t q : Nat) (hq : pc + 3 = q) (ht : (pc : Int) + off = (t : Int)) (hd : decode (bc M) pc = .ok (.ifCond .ge off, 3)) (hx : i32 x)
    (kt : 0 ≤ x → WA G d k n M t ls st σ Q) (kf : ¬ (0 ≤ x) → WA G d k n M q ls st σ Q) : WA G d k n M pc ls (Vi x :: st) σ Q := by
  subst hq
  intro p l e R s m args below meth c QM mc ms C hfr hlo hmc hms hret H locs cells slots lsC hR0 hL h1 h2
  refine lv_if_ge C.1 C.2.1 hd ht (fun h => ?_) (fun h => ?_)
  · have h9 : 0 ≤ x := (o_le (show i32 0 by omega) hx).mp h
    exact (kt h9) p l e R s m args below meth c QM mc ms C hfr hlo hmc hms hret H locs cells slots lsC hR0 hL h1 h2
  · exact (kf (fun h9 => h ((o_le (show i32 0 by omega) hx).mpr h9))) p l e R s m args below meth c QM mc ms C hfr hlo hmc hms hret H locs cells slots lsC hR0 hL h1 h2
theorem ar_icmp_gt {x y off : Int} (t q : Nat) (hq : pc + 3 = q) (ht : (pc : Int) + off = (t : Int)) (hd : decode (bc M) pc = .ok (.if_icmp .gt off, 3)) (hx : i32 x) (hy : i32 y)
    (kt : y < x → WA G d k n M t ls st σ Q) (kf : ¬ (y < x) → WA G d k n M q ls st σ Q) : WA G d k n M pc ls (Vi y :: Vi x :: st) σ Q := by
  subst hq
  intro p l e R s m args below meth c QM mc ms C hfr hlo hmc hms hret H locs cells slots lsC hR0 hL h1 h2
  refine lv_icmp_gt C.1 C.2.1 hd ht (fun h => ?_) (fun h => ?_)
  · have h9 : y < x := (o_lt hy hx).mp h
    exact (kt h9) p l e R s m args below meth c QM mc ms C hfr hlo hmc hms hret H locs cells slots lsC hR0 hL h1 h2
  · exact (kf (fun h9 => h ((o_lt hy hx).mpr h9))) p l e R s m args below meth c QM mc ms C hfr hlo hmc hms hret H locs cells slots lsC hR0 hL h1 h2
theorem ar_if_gt {x off : Int} (t q : Nat) (hq : pc + 3 = q) (ht : (pc : Int) + off = (t : Int)) (hd : decode (bc M) pc = .ok (.ifCond .gt off, 3)) (hx : i32 x)
    (kt : 0 < x → WA G d k n M t ls st σ Q) (kf : ¬ (0 < x) → WA G d k n M q ls st σ Q) : WA G d k n M pc ls (Vi x :: st) σ Q := by
  subst hq
  intro p l e R s m args below meth c QM mc ms C hfr hlo hmc hms hret H locs cells slots lsC hR0 hL h1 h2
  refine lv_if_gt C.1 C.2.1 hd ht (fun h => ?_) (fun h => ?_)
  · have h9 : 0 < x := (o_lt (show i32 0 by omega) hx).mp h
    exact (kt h9) p l e R s m args below meth c QM mc ms C hfr hlo hmc hms hret H locs cells slots lsC hR0 hL h1 h2
  · exact (kf (fun h9 => h ((o_lt (show i32 0 by omega) hx).mpr h9))) p l e R s m args below meth c QM mc ms C hfr hlo hmc hms hret H locs cells slots lsC hR0 hL h1 h2
theorem ar_icmp_le {x y off : Int} (t q : Nat) (hq : pc + 3 = q) (ht : (pc : Int) + off = (t : Int)) (hd : decode (bc M) pc = .ok (.if_icmp .le off, 3)) (hx : i32 x) (hy : i32 y)
    (kt : x ≤ y → WA G d k n M t ls st σ Q) (kf : ¬ (x ≤ y) → WA G d k n M q ls st σ Q) : WA G d k n M pc ls (Vi y :: Vi x :: st) σ Q := by
  subst hq
  intro p l e R s m args below meth c QM mc ms C hfr hlo hmc hms hret H locs cells slots lsC hR0 hL h1 h2
  refine lv_icmp_le C.1 C.2.1 hd ht (fun h => ?_) (fun h => ?_)
  · have h9 : x ≤ y := (o_le hx hy).mp h
    exact (kt h9) p l e R s m args below meth c QM mc ms C hfr hlo hmc hms hret H locs cells slots lsC hR0 hL h1 h2
  · exact (kf (fun h9 => h ((o_le hx hy).mpr h9))) p l e R s m args below meth c QM mc ms C hfr hlo hmc hms hret H locs cells slots lsC hR0 hL h1 h2
theorem ar_if_le {x off : Int} (t q : Nat) (hq : pc + 3 = q) (ht : (pc : Int) + off = (t : Int)) (hd : decode (bc M) pc = .ok (.ifCond .le off, 3)) (hx : i32 x)
    (kt : x ≤ 0 → WA G d k n M t ls st σ Q) (kf : ¬ (x ≤ 0) → WA G d k n M q ls st σ Q) : WA G d k n M pc ls (Vi x :: st) σ Q := by
  subst hq
  intro p l e R s m args below meth c QM mc ms C hfr hlo hmc hms hret H locs cells slots lsC hR0 hL h1 h2
  refine lv_if_le C.1 C.2.1 hd ht (fun h => ?_) (fun h => ?_)
  · have h9 : x ≤ 0 := (o_le hx (show i32 0 by omega)).mp h
    exact (kt h9) p l e R s m args below meth c QM mc ms C hfr hlo hmc hms hret H locs cells slots lsC hR0 hL h1 h2
  · exact (kf (fun h9 => h ((o_le hx (show i32 0 by omega)).mpr h9))) p l e R s m args below meth c QM mc ms C hfr hlo hmc hms hret H locs cells slots lsC hR0 hL h1 h2
theorem ar_goto {off : Int} (t : Nat) (ht : (pc : Int) + off = (t : Int)) (hd : decode (bc M) pc = .ok (.goto off, 3)) (kk : WA G d k n M t ls st σ Q) : WA G d k n M pc ls st σ Q := by
  intro p l e R s m args below meth c QM mc ms C hfr hlo hmc hms hret H locs cells slots lsC hR0 hL h1 h2
  exact lv_goto C.1 C.2.1 hd ht (kk p l e R s m args below meth c QM mc ms C hfr hlo hmc hms hret H locs cells slots lsC hR0 hL h1 h2)
theorem ar_icmp_eqT {x off : Int} (t : Nat) (ht : (pc : Int) + off = (t : Int)) (hd : decode (bc M) pc = .ok (.if_icmp .eq off, 3)) (kk : WA G d k n M t ls st σ Q) : WA G d k n M pc ls (Vi x :: Vi x :: st) σ Q := by
  intro p l e R s m args below meth c QM mc ms C hfr hlo hmc hms hret H locs cells slots lsC hR0 hL h1 h2
  exact lv_icmp_eq C.1 C.2.1 hd ht (fun _ => kk p l e R s m args below meth c QM mc ms C hfr hlo hmc hms hret H locs cells slots lsC hR0 hL h1 h2) (fun h => absurd rfl h)
theorem ar_ifnull {r : Option Nat} {off : Int} (t q : Nat) (hq : pc + 3 = q) (ht : (pc : Int) + off = (t : Int)) (hd : decode (bc M) pc = .ok (.ifnull off, 3)) (kt : r = none → WA G d k n M t ls st σ Q) (kf : ∀ a, r = some a → WA G d k n M q ls st σ Q) : WA G d k n M pc ls (Vr r :: st) σ Q := by
  subst hq
  intro p l e R s m args below meth c QM mc ms C hfr hlo hmc hms hret H locs cells slots lsC hR0 hL h1 h2
  cases r with
  | none => exact lv_ifnullN C.1 C.2.1 hd ht ((kt rfl) p l e R s m args below meth c QM mc ms C hfr hlo hmc hms hret H locs cells slots lsC hR0 hL h1 h2)
  | some a => exact lv_ifnull C.1 C.2.1 hd ((kf a rfl) p l e R s m args below meth c QM mc ms C hfr hlo hmc hms hret H locs cells slots lsC hR0 hL h1 h2)
theorem ar_ifnonnull {r : Option Nat} {off : Int} (t q : Nat) (hq : pc + 3 = q) (ht : (pc : Int) + off = (t : Int)) (hd : decode (bc M) pc = .ok (.ifnonnull off, 3)) (kt : ∀ a, r = some a → WA G d k n M t ls st σ Q) (kf : r = none → WA G d k n M q ls st σ Q) : WA G d k n M pc ls (Vr r :: st) σ Q := by
  subst hq
  intro p l e R s m args below meth c QM mc ms C hfr hlo hmc hms hret H locs cells slots lsC hR0 hL h1 h2
  cases r with
  | none => exact lv_ifnonnullN C.1 C.2.1 hd ((kf rfl) p l e R s m args below meth c QM mc ms C hfr hlo hmc hms hret H locs cells slots lsC hR0 hL h1 h2)
  | some a => exact lv_ifnonnull C.1 C.2.1 hd ht ((kt a rfl) p l e R s m args below meth c QM mc ms C hfr hlo hmc hms hret H locs cells slots lsC hR0 hL h1 h2)
theorem ar_tsIn {x dflt lo hi off : Int} {offs : Array Int} {len : Nat} (t : Nat) (hd : decode (bc M) pc = .ok (.tableswitch dflt lo hi offs, len)) (hx : i32 x) (h0 : lo ≤ x ∧ x ≤ hi) (ho : offs[(x - lo).toNat]? = some off) (ht : (pc : Int) + off = (t : Int)) (kk : WA G d k n M t ls st σ Q) : WA G d k n M pc ls (Vi x :: st) σ Q := by
  intro p l e R s m args below meth c QM mc ms C hfr hlo hmc hms hret H locs cells slots lsC hR0 hL h1 h2
  exact lv_tableIn C.1 C.2.1 hd (by rw [o_I hx]; omega) (by rw [o_I hx]; omega) (by rw [o_I hx]; exact ho) ht (kk p l e R s m args below meth c QM mc ms C hfr hlo hmc hms hret H locs cells slots lsC hR0 hL h1 h2)
theorem ar_tsOut {x dflt lo hi : Int} {offs : Array Int} {len : Nat} (t : Nat) (hd : decode (bc M) pc = .ok (.tableswitch dflt lo hi offs, len)) (hx : i32 x) (h0 : x < lo ∨ hi < x) (ht : (pc : Int) + dflt = (t : Int)) (kk : WA G d k n M t ls st σ Q) : WA G d k n M pc ls (Vi x :: st) σ Q := by
  intro p l e R s m args below meth c QM mc ms C hfr hlo hmc hms hret H locs cells slots lsC hR0 hL h1 h2
  exact lv_tableOut C.1 C.2.1 hd (by rw [o_I hx]; exact h0) ht (kk p l e R s m args below meth c QM mc ms C hfr hlo hmc hms hret H locs cells slots lsC hR0 hL h1 h2)
theorem ar_lsw {x dflt off : Int} {ps : Array (Int × Int)} {len : Nat} (t : Nat) (hd : decode (bc M) pc = .ok (.lookupswitch dflt ps, len)) (hp : (ps.toList.zip (ps.toList.drop 1)).all (fun (a, next) => a.1 < next.1) = true) (hx : i32 x) (ho : Op.lookupswitch.offset ps.toList dflt x = off) (ht : (pc : Int) + off = (t : Int)) (kk : WA G d k n M t ls st σ Q) : WA G d k n M pc ls (Vi x :: st) σ Q := by
  intro p l e R s m args below meth c QM mc ms C hfr hlo hmc hms hret H locs cells slots lsC hR0 hL h1 h2
  exact lv_lookup C.1 C.2.1 hd hp (by rw [o_I hx]; exact ho) ht (kk p l e R s m args below meth c QM mc ms C hfr hlo hmc hms hret H locs cells slots lsC hR0 hL h1 h2)
end ARows
end
section
theorem ui_0 : ∀ w ∈ u_ws RX0 TX0 7, w ∈ gT := by
  have h : u_ws RX0 TX0 7 = ([148, 150, 152, 154, 156, 158, 160] : List Nat).filterMap (fun i => tables_1[i]?) := by decide +kernel
  intro w hw
  have hg : (u_ws RX0 TX0 7).all goodWord = true := by decide +kernel
  have h1 := List.all_eq_true.mp hg w hw
  rw [h] at hw
  obtain ⟨i, -, hi⟩ := List.mem_filterMap.mp hw
  exact gT_in i hi h1
theorem ui_1 : ∀ w ∈ u_ws RX1 TX1 8, w ∈ gT := by
  have h : u_ws RX1 TX1 8 = ([59, 61, 63, 65, 67, 69, 71, 73] : List Nat).filterMap (fun i => tables_1[i]?) := by decide +kernel
  intro w hw
  have hg : (u_ws RX1 TX1 8).all goodWord = true := by decide +kernel
  have h1 := List.all_eq_true.mp hg w hw
  rw [h] at hw
  obtain ⟨i, -, hi⟩ := List.mem_filterMap.mp hw
  exact gT_in i hi h1
theorem ui_2 : ∀ w ∈ u_ws RX2 TX2 10, w ∈ gT := by
  have h : u_ws RX2 TX2 10 = ([187, 189, 191, 193, 195, 197, 199, 201, 203, 205] : List Nat).filterMap (fun i => tables_1[i]?) := by decide +kernel
  intro w hw
  have hg : (u_ws RX2 TX2 10).all goodWord = true := by decide +kernel
  have h1 := List.all_eq_true.mp hg w hw
  rw [h] at hw
  obtain ⟨i, -, hi⟩ := List.mem_filterMap.mp hw
  exact gT_in i hi h1
theorem ui_3 : ∀ w ∈ u_ws RX3 TX3 6, w ∈ gT := by
  have h : u_ws RX3 TX3 6 = ([518, 520, 522, 524, 526, 528] : List Nat).filterMap (fun i => tables_1[i]?) := by decide +kernel
  intro w hw
  have hg : (u_ws RX3 TX3 6).all goodWord = true := by decide +kernel
  have h1 := List.all_eq_true.mp hg w hw
  rw [h] at hw
  obtain ⟨i, -, hi⟩ := List.mem_filterMap.mp hw
  exact gT_in i hi h1
theorem ui_4 : ∀ w ∈ u_ws RX4 TX4 11, w ∈ gT := by
  have h : u_ws RX4 TX4 11 = ([107, 109, 111, 113, 115, 117, 119, 121, 123, 125, 127] : List Nat).filterMap (fun i => tables_1[i]?) := by decide +kernel
  intro w hw
  have hg : (u_ws RX4 TX4 11).all goodWord = true := by decide +kernel
  have h1 := List.all_eq_true.mp hg w hw
  rw [h] at hw
  obtain ⟨i, -, hi⟩ := List.mem_filterMap.mp hw
  exact gT_in i hi h1
theorem ui_5 : ∀ w ∈ u_ws RX5 TX5 10, w ∈ gT := by
  have h : u_ws RX5 TX5 10 = ([218, 220, 222, 224, 226, 228, 230, 232, 234, 236] : List Nat).filterMap (fun i => tables_1[i]?) := by decide +kernel
  intro w hw
  have hg : (u_ws RX5 TX5 10).all goodWord = true := by decide +kernel
  have h1 := List.all_eq_true.mp hg w hw
  rw [h] at hw
  obtain ⟨i, -, hi⟩ := List.mem_filterMap.mp hw
  exact gT_in i hi h1
theorem ui_6 : ∀ w ∈ u_ws RX6 TX6 33, w ∈ gT := by
  have h : u_ws RX6 TX6 33 = ([658, 660, 662, 664, 666, 668, 670, 672, 674, 676, 678, 680, 682, 684, 686, 688, 690, 692, 694, 696, 698, 700, 702, 704, 706, 708, 710, 712, 714, 716, 718, 720, 722] : List Nat).filterMap (fun i => tables_1[i]?) := by decide +kernel
  intro w hw
  have hg : (u_ws RX6 TX6 33).all goodWord = true := by decide +kernel
  have h1 := List.all_eq_true.mp hg w hw
  rw [h] at hw
  obtain ⟨i, -, hi⟩ := List.mem_filterMap.mp hw
  exact gT_in i hi h1
theorem ci_c {P : Nat → Prop} {ci : Nat} (h : ci < 7) (h0 : P 0) (h1 : P 1) (h2 : P 2) (h3 : P 3) (h4 : P 4) (h5 : P 5) (h6 : P 6) : P ci := by
  rcases (by omega : ci = 0 ∨ ci = 1 ∨ ci = 2 ∨ ci = 3 ∨ ci = 4 ∨ ci = 5 ∨ ci = 6) with rfl | rfl | rfl | rfl | rfl | rfl | rfl <;> assumption
theorem cls_at {ci : Nat} (h : ci < 7) : cls[ci]? = some ((cT ci).1, (cT ci).2.1, (cT ci).2.2) := ci_c (P := fun ci => cls[ci]? = some ((cT ci).1, (cT ci).2.1, (cT ci).2.2)) h rfl rfl rfl rfl rfl rfl rfl
theorem cls_in {ci : Nat} (h : ci < 7) : ∀ w ∈ u_ws (cT ci).1 (cT ci).2.1 (cT ci).2.2, w ∈ gT := ci_c (P := fun ci => ∀ w ∈ u_ws (cT ci).1 (cT ci).2.1 (cT ci).2.2, w ∈ gT) h ui_0 ui_1 ui_2 ui_3 ui_4 ui_5 ui_6
theorem cls_ty {ci : Nat} (h : ci < 7) : ∀ k, k < (cT ci).2.2 → parseFieldDescriptor ((cT ci).2.1 k).2.2.1 = some (cY ci k) := ci_c (P := fun ci => ∀ k, k < (cT ci).2.2 → parseFieldDescriptor ((cT ci).2.1 k).2.2.1 = some (cY ci k)) h tyX0_ok tyX1_ok tyX2_ok tyX3_ok tyX4_ok tyX5_ok tyX6_ok
theorem cls_nm {ci : Nat} (h : ci < 7) : ∀ a, a < (cT ci).2.2 → ∀ b, b < (cT ci).2.2 → a ≠ b → ((cT ci).2.1 a).2.1 ≠ ((cT ci).2.1 b).2.1 := ci_c (P := fun ci => ∀ a, a < (cT ci).2.2 → ∀ b, b < (cT ci).2.2 → a ≠ b → ((cT ci).2.1 a).2.1 ≠ ((cT ci).2.1 b).2.1) h nmX0 nmX1 nmX2 nmX3 nmX4 nmX5 nmX6
theorem dv_0 : ∀ j, j < 7 → defaultValue (tyX0 j) = if fI (tyX0 j) = true then .int 0 else .null := by decide +kernel
theorem dv_1 : ∀ j, j < 8 → defaultValue (tyX1 j) = if fI (tyX1 j) = true then .int 0 else .null := by decide +kernel
theorem dv_2 : ∀ j, j < 10 → defaultValue (tyX2 j) = if fI (tyX2 j) = true then .int 0 else .null := by decide +kernel
theorem dv_3 : ∀ j, j < 6 → defaultValue (tyX3 j) = if fI (tyX3 j) = true then .int 0 else .null := by decide +kernel
theorem dv_4 : ∀ j, j < 11 → defaultValue (tyX4 j) = if fI (tyX4 j) = true then .int 0 else .null := by decide +kernel
theorem dv_5 : ∀ j, j < 10 → defaultValue (tyX5 j) = if fI (tyX5 j) = true then .int 0 else .null := by decide +kernel
theorem dv_6 : ∀ j, j < 33 → defaultValue (tyX6 j) = if fI (tyX6 j) = true then .int 0 else .null := by decide +kernel
theorem cls_dv {ci : Nat} (h : ci < 7) : ∀ j, j < (cT ci).2.2 → defaultValue (cY ci j) = if fI (cY ci j) = true then .int 0 else .null := ci_c (P := fun ci => ∀ j, j < (cT ci).2.2 → defaultValue (cY ci j) = if fI (cY ci j) = true then .int 0 else .null) h dv_0 dv_1 dv_2 dv_3 dv_4 dv_5 dv_6
-- changes of the heap
def wI (σ : Sg) (a j : Nat) (x : Int) : Sg := (fun b i => if b = a ∧ i = j then x else σ.1 b i, σ.2)
def wR (σ : Sg) (a j : Nat) (r : Option Nat) : Sg := (σ.1, fun b i => if b = a ∧ i = j then r else σ.2.1 b i, σ.2.2)
def cI (σ : Sg) (a sp b dp n : Nat) : Sg := (fun c i => if c = b ∧ dp ≤ i ∧ i < dp + n then σ.1 a (sp + (i - dp)) else σ.1 c i, σ.2)
def cR (σ : Sg) (a sp b dp n : Nat) : Sg := (σ.1, fun c i => if c = b ∧ dp ≤ i ∧ i < dp + n then σ.2.1 a (sp + (i - dp)) else σ.2.1 c i, σ.2.2)
def al (σ : Sg) (kd n : Nat) : Sg := (fun b i => if b = sn σ then 0 else σ.1 b i, fun b i => if b = sn σ then none else σ.2.1 b i, fun b => if b = sn σ then (kd, n) else σ.2.2.1 b, sn σ + 1)
/-- new int[n][w]: the outer row, then the inner ones -/
def al2 (σ : Sg) (n w : Nat) : Sg := (fun b i => if sn σ ≤ b then 0 else σ.1 b i, fun b i => if b = sn σ then (if i < n then some (sn σ + 1 + i) else none) else if sn σ ≤ b then none else σ.2.1 b i, fun b => if b = sn σ then (15, n) else if sn σ ≤ b ∧ b < sn σ + 1 + n then (10, w) else if sn σ ≤ b then (0, 0) else σ.2.2.1 b, sn σ + 1 + n)
theorem ce_congr {G : GT} {σ σ' : Sg} {b : Nat} (h1 : hI σ' b = hI σ b) (h2 : hR σ' b = hR σ b) (h3 : sk σ' b = sk σ b) : ce G σ' b = ce G σ b := by
  unfold ce fl
  rw [h1, h2, h3]
theorem ce_obj {G : GT} {σ : Sg} {a ci : Nat} (hk : (sk σ a).1 = ci + 1) (hc : ci < 7) : ce G σ a = .inr (ci, fl G σ ci a) := by
  unfold ce
  rw [hk, if_pos (by omega), Nat.add_sub_cancel]
theorem ce_int {G : GT} {σ : Sg} {a n : Nat} (hk : sk σ a = (10, n)) : ce G σ a = .inl (G.2.1 10, n, .inl (fun j => Int32.ofInt (hI σ a j))) := by
  unfold ce
  rw [hk, if_neg (by show ¬ 10 < 10; omega), if_pos (by show 10 < 12; omega)]
theorem ce_boo {G : GT} {σ : Sg} {a n : Nat} (hk : sk σ a = (11, n)) : ce G σ a = .inl (G.2.1 11, n, .inl (fun j => Int32.ofInt (hI σ a j))) := by
  unfold ce
  rw [hk, if_neg (by show ¬ 11 < 10; omega), if_pos (by show 11 < 12; omega)]
theorem ce_ref {G : GT} {σ : Sg} {a n kd : Nat} (hk : sk σ a = (kd, n)) (h : 12 ≤ kd) : ce G σ a = .inl (G.2.1 kd, n, .inr (.inr (.inr (.inr (fun j => cf G (hR σ a j)))))) := by
  unfold ce
  rw [hk, if_neg (by simp; omega), if_neg (by simp; omega)]
theorem fl_len {G : GT} {σ : Sg} {ci a : Nat} : (fl G σ ci a).length = (cT ci).2.2 := by simp [fl]
theorem fl_get {G : GT} {σ : Sg} {ci a j : Nat} (hj : j < (cT ci).2.2) : (fl G σ ci a)[j]? = some (if fI (cY ci j) = true then cv G (Vi (hI σ a j)) else cv G (Vr (hR σ a j))) := by
  unfold fl
  rw [List.getElem?_map, List.getElem?_range hj]
  rfl
theorem fl_wI {G : GT} {σ : Sg} {ci a j : Nat} {x : Int} (ht : fI (cY ci j) = true) : fl G (wI σ a j x) ci a = (fl G σ ci a).set j (cv G (Vi x)) := by
  apply List.ext_getElem?
  intro i
  by_cases hi : i < (cT ci).2.2
  · rw [fl_get hi]
    by_cases e : i = j
    · subst e
      rw [List.getElem?_set_self (by rw [fl_len]; exact hi), if_pos ht]
      simp [wI, hI]
    · rw [List.getElem?_set_ne (Ne.symm e), fl_get hi]
      simp [wI, hI, hR, e]
  · rw [List.getElem?_eq_none (by rw [fl_len]; omega), List.getElem?_eq_none (by rw [List.length_set, fl_len]; omega)]
theorem fl_wR {G : GT} {σ : Sg} {ci a j : Nat} {r : Option Nat} (ht : fI (cY ci j) = false) : fl G (wR σ a j r) ci a = (fl G σ ci a).set j (cv G (Vr r)) := by
  apply List.ext_getElem?
  intro i
  by_cases hi : i < (cT ci).2.2
  · rw [fl_get hi]
    by_cases e : i = j
    · subst e
      rw [List.getElem?_set_self (by rw [fl_len]; exact hi), if_neg (by rw [ht]; decide)]
      simp [wR, hR]
    · rw [List.getElem?_set_ne (Ne.symm e), fl_get hi]
      simp [wR, hI, hR, e]
  · rw [List.getElem?_eq_none (by rw [fl_len]; omega), List.getElem?_eq_none (by rw [List.length_set, fl_len]; omega)]
theorem wl_D (G : GT) (σ : Sg) : va_D (fun q => gB G ≤ q) (wl G σ) := by
  have key : ∀ (k : Nat) (q : Nat × va_E), (wl G σ)[k]? = some q → q.1 = gB G + k := by
    intro k q h
    have hk : k < sn σ := by
      have := (List.getElem?_eq_some_iff.mp h).1
      rwa [wl_len] at this
    rw [wl_get G hk] at h
    cases h
    rfl
  refine ⟨fun i j p q hp hq e => ?_, fun k q hq => ?_⟩
  · have a := key i p hp
    have b := key j q hq
    omega
  · have a := key k q hq
    show gB G ≤ q.1
    omega
theorem rep_upd {G : GT} {σ σ' : Sg} {s : State} {H H' : Heap} {locs L : List Loc} {a : Nat} (h : RepS G σ s H locs) (ha : a < sn σ) (hsn : sn σ' = sn σ) (hsk : sk σ' = sk σ) (ho : ∀ b, b ≠ a → hI σ' b = hI σ b ∧ hR σ' b = hR σ b)
    (hat : va_at G.1 cls (gB G + a, ce G σ' a) H') (hz : H'.size = H.size) (hq : ∀ q, q ≠ gB G + a → H'[q]? = H[q]?) (hLo : ∀ x ∈ L, x.base = gB G + a) : RepS G σ' s H' (locs ++ L) := by
  obtain ⟨h1, h2, h3, h4, h5, h6, h7, h8, h9, h10⟩ := h
  refine ⟨by rw [hz, hsn]; exact h1, fun k x hx => ?_, wl_D G σ', ⟨by rw [hz]; exact h4.1, fun q a1 a2 => ?_, fun x hx => ?_⟩, h5, h6, h7, h8, h9, fun b hb => by rw [hsn]; rw [hsk] at hb; exact h10 b hb⟩
  · have hk : k < sn σ' := by
      have := (List.getElem?_eq_some_iff.mp hx).1
      rwa [wl_len] at this
    rw [wl_get G hk] at hx
    cases hx
    by_cases e : k = a
    · subst e
      exact hat
    · have hb := ho k e
      rw [ce_congr (G := G) (σ := σ) (σ' := σ') hb.1 hb.2 (by rw [hsk])]
      exact (h2 k _ (wl_get G (by omega))).kept (hq _ (by show gB G + k ≠ gB G + a; omega))
  · have a3 : q < gB G := by
      have : ¬ gB G ≤ q := a2
      omega
    rw [hq q (by omega)]
    exact h4.2.1 q a1 a2
  · rcases List.mem_append.mp hx with y | y
    · exact h4.2.2 x y
    · show gB G ≤ x.base
      rw [hLo x y]
      omega
theorem rep_new {G : GT} {σ : Sg} {s : State} {H H' : Heap} {locs : List Loc} {kd n : Nat} (h : RepS G σ s H locs) (hat : va_at G.1 cls (gB G + sn σ, ce G (al σ kd n) (sn σ)) H') (hz : H'.size = H.size + 1) (hq : ∀ q, q < H.size → H'[q]? = H[q]?) : RepS G (al σ kd n) s H' locs := by
  obtain ⟨h1, h2, h3, h4, h5, h6, h7, h8, h9, h10⟩ := h
  have hb : ∀ b, b < sn σ → ce G (al σ kd n) b = ce G σ b := fun b hb => ce_congr (by funext i; simp [al, hI, Nat.ne_of_lt hb]) (by funext i; simp [al, hR, Nat.ne_of_lt hb]) (by simp [al, hI, hR, sk, Nat.ne_of_lt hb])
  refine ⟨by rw [hz]; show H.size + 1 = gB G + (sn σ + 1); omega, fun k x hx => ?_, wl_D G _, ⟨by have := h4.1; omega, fun q a1 a2 => ?_, h4.2.2⟩, h5, h6, h7, h8, h9, fun b hb => ?_⟩
  · have hk : k < sn (al σ kd n) := by
      have := (List.getElem?_eq_some_iff.mp hx).1
      rwa [wl_len] at this
    rw [wl_get G hk] at hx
    cases hx
    have hk2 : k < sn σ + 1 := hk
    by_cases e : k = sn σ
    · subst e
      exact hat
    · rw [hb k (by omega)]
      exact (h2 k _ (wl_get G (by omega))).kept (hq _ (by show gB G + k < H.size; omega))
  · rw [hq q (by have := h4.1; omega)]
    exact h4.2.1 q a1 a2
  · show b < sn σ + 1
    by_cases e : b = sn σ
    · omega
    · have : sk (al σ kd n) b = sk σ b := by simp [al, sk, e]
      rw [this] at hb
      have := h10 b hb
      omega
theorem rep_lt {G : GT} {σ : Sg} {s : State} {H : Heap} {locs : List Loc} {a kd n : Nat} (h : RepS G σ s H locs) (hk : sk σ a = (kd, n)) (h0 : kd ≠ 0) : a < sn σ := h.2.2.2.2.2.2.2.2.2 a (by rw [hk]; exact h0)
theorem rep_lto {G : GT} {σ : Sg} {s : State} {H : Heap} {locs : List Loc} {a ci : Nat} (h : RepS G σ s H locs) (hk : (sk σ a).1 = ci + 1) : a < sn σ := h.2.2.2.2.2.2.2.2.2 a (by omega)
def FLk (o : String) (idx ci j : Nat) : Prop := ci < 7 ∧ j < (cT ci).2.2 ∧ Cond.fieldLink o idx (cT ci).1 ((cT ci).2.1 j).2.1 ((cT ci).2.1 j).2.2.1 ∈ gT ∧ ((cT ci).2.1 j).1 = (cT ci).1
section HRows
variable {G : GT} {d k n : Nat} {M : MM} {pc : Nat} {ls st : List AV} {σ : Sg} {Q : Option AV → Sg → Prop}
theorem ar_getI {idx ci j a : Nat} (q : Nat) (hq : pc + 3 = q) (hd : decode (bc M) pc = .ok (.getfield idx, 3)) (hf : FLk M.1.cls idx ci j) (ht : fI (cY ci j) = true) (hk : (sk σ a).1 = ci + 1)
    (kk : WA G d k n M q ls (Vi (hI σ a j) :: st) σ Q) : WA G d k n M pc ls (Va a :: st) σ Q := by
  subst hq
  intro p l e R s m args below meth c QM mc ms C hfr hlo hmc hms hret H locs cells slots lsC hR0 hL h1 h2
  have K := kk p l e R s m args below meth c QM mc ms C hfr hlo hmc hms hret H locs cells slots lsC hR0 hL h1 h2
  obtain ⟨f1, f2, f3, f4⟩ := hf
  have hw := wl_get G (rep_lto hR0 hk)
  rw [ce_obj hk f1] at hw
  have hv := fl_get (G := G) (σ := σ) (a := a) f2
  rw [if_pos ht] at hv
  exact va_get C.1 C.2.1 C.2.2.2.2.2.1 (cls_in f1) C.2.2.2.2.1 hR0.2.2.2.2.1 hR0.2.1 a hw (cls_at f1) j f2 (C.2.2.2.2.2.1 _ f3) (fun x hx => by rw [← f4]; exact hx) hv hd K
theorem ar_getR {idx ci j a : Nat} (q : Nat) (hq : pc + 3 = q) (hd : decode (bc M) pc = .ok (.getfield idx, 3)) (hf : FLk M.1.cls idx ci j) (ht : fI (cY ci j) = false) (hk : (sk σ a).1 = ci + 1)
    (kk : WA G d k n M q ls (Vr (hR σ a j) :: st) σ Q) : WA G d k n M pc ls (Va a :: st) σ Q := by
  subst hq
  intro p l e R s m args below meth c QM mc ms C hfr hlo hmc hms hret H locs cells slots lsC hR0 hL h1 h2
  have K := kk p l e R s m args below meth c QM mc ms C hfr hlo hmc hms hret H locs cells slots lsC hR0 hL h1 h2
  obtain ⟨f1, f2, f3, f4⟩ := hf
  have hw := wl_get G (rep_lto hR0 hk)
  rw [ce_obj hk f1] at hw
  have hv := fl_get (G := G) (σ := σ) (a := a) f2
  rw [if_neg (by rw [ht]; decide)] at hv
  exact va_get C.1 C.2.1 C.2.2.2.2.2.1 (cls_in f1) C.2.2.2.2.1 hR0.2.2.2.2.1 hR0.2.1 a hw (cls_at f1) j f2 (C.2.2.2.2.2.1 _ f3) (fun x hx => by rw [← f4]; exact hx) hv hd K
set_option maxHeartbeats 4000000 in
theorem ar_putI {idx ci j a : Nat} {x : Int} (q : Nat) (hq : pc + 3 = q) (hd : decode (bc M) pc = .ok (.putfield idx, 3)) (hf : FLk M.1.cls idx ci j) (ht0 : cY ci j = .int) (hfin : ((cT ci).2.1 j).2.2.2 = false)  (hk : (sk σ a).1 = ci + 1)
    (kk : WA G d k n M q ls st (wI σ a j x) Q) : WA G d k n M pc ls (Vi x :: Va a :: st) σ Q := by
  subst hq
  intro p l e R s m args below meth c QM mc ms C hfr hlo hmc hms hret H locs cells slots lsC hR0 hL h1 h2
  obtain ⟨f1, f2, f3, f4⟩ := hf
  have ht : fI (cY ci j) = true := by rw [ht0]; rfl
  have hn1 : narrow (cY ci j) (cv G (Vi x)) = cv G (Vi x) := by rw [ht0]; rfl
  have hn2 : fits (cY ci j) (cv G (Vi x)) = true := by rw [ht0]; rfl
  have hlt := rep_lto hR0 hk
  have hw := wl_get G hlt
  rw [ce_obj hk f1] at hw
  have hap := va_apart (own := M.1.cls) C.2.2.2.2.2.1 (cls_in f1) (cY ci) (cls_ty f1) (cls_nm f1) hR0.2.2.2.2.1 (cls_at f1)
  obtain ⟨r, hr1, cell, q1, q2, q3, q4⟩ := hR0.2.1 a _ hw
  have hr : r = ((cT ci).1, (cT ci).2.1, (cT ci).2.2) := Option.some.inj (hr1.symm.trans (cls_at f1))
  subst hr
  obtain ⟨hS, hfc, kC, hkC, hkind⟩ := hR0.2.2.2.2.1.1 ci _ (cls_at f1)
  obtain ⟨cf0, kf, fi, f, hi, hsl⟩ := hS j f2
  have hlay := C.2.2.2.2.2.1 _ (cls_in f1 _ (u_in_lay f2))
  unfold u_lay at hlay
  rw [if_neg (by rw [hfin]; decide)] at hlay
  have hst := (u_facts hfc hkC (u_lays C.2.2.2.2.2.1 (cls_in f1) f2) hi).1
  have h6 := u_store hfc hkC hkind hlay hi (cls_ty f1 j f2) hn1 hn2
  refine W.putK C.1 C.2.1 (f := f) ⟨C.2.2.2.2.1, C.2.2.2.2.2.1 _ f3, ⟨_, _, _, by rw [← f4]; exact hi⟩, hst⟩ (by rw [q2]; exact h6) q1 q3 (by rw [hsl]; exact k2_hasslot (q4 j f2)) rfl rfl hd fun H' e1 e2 e3 => ?_
  rw [hsl] at e1 ⊢
  refine kk p l e R s m args below meth c QM mc ms C hfr hlo hmc hms hret H' _ cells slots lsC (rep_upd hR0 hlt rfl rfl (fun b hb => ⟨by funext i; simp [wI, hI, hR, hb], by funext i; simp [wI, hI, hR, hb]⟩) ?_ e2 e3 (fun x hx => by rw [List.mem_singleton.mp hx])) hL h1 h2
  rw [ce_obj (σ := wI σ a j x) hk f1, fl_wI ht]
  exact ⟨_, cls_at f1, t_OB.to (V := updV (vp_V (fl G σ ci a)) j (cv G (Vi x))) ⟨_, e1, q2, q3, t_set q4 hap f2 _⟩ (fun i _ => vp_updV_set (by rw [fl_len]; exact f2) _ i)⟩
set_option maxHeartbeats 4000000 in
theorem ar_putZ {idx ci j a : Nat} {x : Int} (q : Nat) (hq : pc + 3 = q) (hd : decode (bc M) pc = .ok (.putfield idx, 3)) (hf : FLk M.1.cls idx ci j) (ht0 : cY ci j = .boolean) (hx : x = 0 ∨ x = 1) (hfin : ((cT ci).2.1 j).2.2.2 = false)  (hk : (sk σ a).1 = ci + 1)
    (kk : WA G d k n M q ls st (wI σ a j x) Q) : WA G d k n M pc ls (Vi x :: Va a :: st) σ Q := by
  subst hq
  intro p l e R s m args below meth c QM mc ms C hfr hlo hmc hms hret H locs cells slots lsC hR0 hL h1 h2
  obtain ⟨f1, f2, f3, f4⟩ := hf
  have ht : fI (cY ci j) = true := by rw [ht0]; rfl
  have hn1 : narrow (cY ci j) (cv G (Vi x)) = cv G (Vi x) := by rw [ht0]; rcases hx with rfl | rfl <;> rfl
  have hn2 : fits (cY ci j) (cv G (Vi x)) = true := by rw [ht0]; rcases hx with rfl | rfl <;> rfl
  have hlt := rep_lto hR0 hk
  have hw := wl_get G hlt
  rw [ce_obj hk f1] at hw
  have hap := va_apart (own := M.1.cls) C.2.2.2.2.2.1 (cls_in f1) (cY ci) (cls_ty f1) (cls_nm f1) hR0.2.2.2.2.1 (cls_at f1)
  obtain ⟨r, hr1, cell, q1, q2, q3, q4⟩ := hR0.2.1 a _ hw
  have hr : r = ((cT ci).1, (cT ci).2.1, (cT ci).2.2) := Option.some.inj (hr1.symm.trans (cls_at f1))
  subst hr
  obtain ⟨hS, hfc, kC, hkC, hkind⟩ := hR0.2.2.2.2.1.1 ci _ (cls_at f1)
  obtain ⟨cf0, kf, fi, f, hi, hsl⟩ := hS j f2
  have hlay := C.2.2.2.2.2.1 _ (cls_in f1 _ (u_in_lay f2))
  unfold u_lay at hlay
  rw [if_neg (by rw [hfin]; decide)] at hlay
  have hst := (u_facts hfc hkC (u_lays C.2.2.2.2.2.1 (cls_in f1) f2) hi).1
  have h6 := u_store hfc hkC hkind hlay hi (cls_ty f1 j f2) hn1 hn2
  refine W.putK C.1 C.2.1 (f := f) ⟨C.2.2.2.2.1, C.2.2.2.2.2.1 _ f3, ⟨_, _, _, by rw [← f4]; exact hi⟩, hst⟩ (by rw [q2]; exact h6) q1 q3 (by rw [hsl]; exact k2_hasslot (q4 j f2)) rfl rfl hd fun H' e1 e2 e3 => ?_
  rw [hsl] at e1 ⊢
  refine kk p l e R s m args below meth c QM mc ms C hfr hlo hmc hms hret H' _ cells slots lsC (rep_upd hR0 hlt rfl rfl (fun b hb => ⟨by funext i; simp [wI, hI, hR, hb], by funext i; simp [wI, hI, hR, hb]⟩) ?_ e2 e3 (fun x hx => by rw [List.mem_singleton.mp hx])) hL h1 h2
  rw [ce_obj (σ := wI σ a j x) hk f1, fl_wI ht]
  exact ⟨_, cls_at f1, t_OB.to (V := updV (vp_V (fl G σ ci a)) j (cv G (Vi x))) ⟨_, e1, q2, q3, t_set q4 hap f2 _⟩ (fun i _ => vp_updV_set (by rw [fl_len]; exact f2) _ i)⟩
set_option maxHeartbeats 4000000 in
theorem ar_putR {idx ci j a : Nat} {x : Option Nat} (q : Nat) (hq : pc + 3 = q) (hd : decode (bc M) pc = .ok (.putfield idx, 3)) (hf : FLk M.1.cls idx ci j) (ht0 : (∃ C9, cY ci j = .object C9) ∨ ∃ t9, cY ci j = .array t9) (hfin : ((cT ci).2.1 j).2.2.2 = false)  (hk : (sk σ a).1 = ci + 1)
    (kk : WA G d k n M q ls st (wR σ a j x) Q) : WA G d k n M pc ls (Vr x :: Va a :: st) σ Q := by
  subst hq
  intro p l e R s m args below meth c QM mc ms C hfr hlo hmc hms hret H locs cells slots lsC hR0 hL h1 h2
  obtain ⟨f1, f2, f3, f4⟩ := hf
  have ht : fI (cY ci j) = false := by rcases ht0 with ⟨_, e⟩ | ⟨_, e⟩ <;> rw [e] <;> rfl
  have hn1 : narrow (cY ci j) (cv G (Vr x)) = cv G (Vr x) := by rcases ht0 with ⟨_, e⟩ | ⟨_, e⟩ <;> rw [e] <;> cases x <;> rfl
  have hn2 : fits (cY ci j) (cv G (Vr x)) = true := by rcases ht0 with ⟨_, e⟩ | ⟨_, e⟩ <;> rw [e] <;> cases x <;> rfl
  have hlt := rep_lto hR0 hk
  have hw := wl_get G hlt
  rw [ce_obj hk f1] at hw
  have hap := va_apart (own := M.1.cls) C.2.2.2.2.2.1 (cls_in f1) (cY ci) (cls_ty f1) (cls_nm f1) hR0.2.2.2.2.1 (cls_at f1)
  obtain ⟨r, hr1, cell, q1, q2, q3, q4⟩ := hR0.2.1 a _ hw
  have hr : r = ((cT ci).1, (cT ci).2.1, (cT ci).2.2) := Option.some.inj (hr1.symm.trans (cls_at f1))
  subst hr
  obtain ⟨hS, hfc, kC, hkC, hkind⟩ := hR0.2.2.2.2.1.1 ci _ (cls_at f1)
  obtain ⟨cf0, kf, fi, f, hi, hsl⟩ := hS j f2
  have hlay := C.2.2.2.2.2.1 _ (cls_in f1 _ (u_in_lay f2))
  unfold u_lay at hlay
  rw [if_neg (by rw [hfin]; decide)] at hlay
  have hst := (u_facts hfc hkC (u_lays C.2.2.2.2.2.1 (cls_in f1) f2) hi).1
  have h6 := u_store hfc hkC hkind hlay hi (cls_ty f1 j f2) hn1 hn2
  refine W.putK C.1 C.2.1 (f := f) ⟨C.2.2.2.2.1, C.2.2.2.2.2.1 _ f3, ⟨_, _, _, by rw [← f4]; exact hi⟩, hst⟩ (by rw [q2]; exact h6) q1 q3 (by rw [hsl]; exact k2_hasslot (q4 j f2)) rfl rfl hd fun H' e1 e2 e3 => ?_
  rw [hsl] at e1 ⊢
  refine kk p l e R s m args below meth c QM mc ms C hfr hlo hmc hms hret H' _ cells slots lsC (rep_upd hR0 hlt rfl rfl (fun b hb => ⟨by funext i; simp [wR, hI, hR, hb], by funext i; simp [wR, hI, hR, hb]⟩) ?_ e2 e3 (fun x hx => by rw [List.mem_singleton.mp hx])) hL h1 h2
  rw [ce_obj (σ := wR σ a j x) hk f1, fl_wR ht]
  exact ⟨_, cls_at f1, t_OB.to (V := updV (vp_V (fl G σ ci a)) j (cv G (Vr x))) ⟨_, e1, q2, q3, t_set q4 hap f2 _⟩ (fun i _ => vp_updV_set (by rw [fl_len]; exact f2) _ i)⟩
set_option maxHeartbeats 4000000 in
theorem ar_putIF {idx ci j a : Nat} {x : Int} (q : Nat) (hq : pc + 3 = q) (hd : decode (bc M) pc = .ok (.putfield idx, 3)) (hf : FLk M.1.cls idx ci j) (ht0 : cY ci j = .int) (hfin : ((cT ci).2.1 j).2.2.2 = true) (hin : M.1.name = "<init>") (hdc : (cT ci).1 = M.1.cls) (hk : (sk σ a).1 = ci + 1)
    (kk : WA G d k n M q ls st (wI σ a j x) Q) : WA G d k n M pc ls (Vi x :: Va a :: st) σ Q := by
  subst hq
  intro p l e R s m args below meth c QM mc ms C hfr hlo hmc hms hret H locs cells slots lsC hR0 hL h1 h2
  obtain ⟨f1, f2, f3, f4⟩ := hf
  have ht : fI (cY ci j) = true := by rw [ht0]; rfl
  have hn1 : narrow (cY ci j) (cv G (Vi x)) = cv G (Vi x) := by rw [ht0]; rfl
  have hn2 : fits (cY ci j) (cv G (Vi x)) = true := by rw [ht0]; rfl
  have hlt := rep_lto hR0 hk
  have hw := wl_get G hlt
  rw [ce_obj hk f1] at hw
  have hap := va_apart (own := M.1.cls) C.2.2.2.2.2.1 (cls_in f1) (cY ci) (cls_ty f1) (cls_nm f1) hR0.2.2.2.2.1 (cls_at f1)
  obtain ⟨r, hr1, cell, q1, q2, q3, q4⟩ := hR0.2.1 a _ hw
  have hr : r = ((cT ci).1, (cT ci).2.1, (cT ci).2.2) := Option.some.inj (hr1.symm.trans (cls_at f1))
  subst hr
  obtain ⟨hS, hfc, kC, hkC, hkind⟩ := hR0.2.2.2.2.1.1 ci _ (cls_at f1)
  obtain ⟨cf0, kf, fi, f, hi, hsl⟩ := hS j f2
  have hlay := C.2.2.2.2.2.1 _ (cls_in f1 _ (u_in_lay f2))
  unfold u_lay at hlay
  rw [if_pos hfin] at hlay
  have hst := (u_facts hfc hkC (u_lays C.2.2.2.2.2.1 (cls_in f1) f2) hi).1
  have hcf : m.cls = cf0 := by
    obtain ⟨_, _, c', _, _, _, -, -, hf', -, -, -, hown2, -⟩ := Cond.laysFinal_spec hlay
    have e1 : c' = cf0 := by have := hi.symm.trans hf'; simp at this; exact this.1.symm
    rw [f4, hdc] at hown2
    rw [← e1]; exact Option.some.inj (C.2.2.2.2.1.symm.trans hown2)
  have h6 := u_fits hfc hkC hkind (Or.inr hlay) hi (cls_ty f1 j f2) hn1 hn2
  refine W.putFinK C.1 C.2.1 C.2.2.2.2.1 (C.2.2.2.2.2.1 _ f3) (by rw [← f4]; exact hi) hst hcf (C.2.2.2.2.2.2.2 hin) (by rw [q2]; exact h6) q1 q3 (by rw [hsl]; exact k2_hasslot (q4 j f2)) rfl rfl hd fun H' e1 e2 e3 => ?_
  rw [hsl] at e1 ⊢
  refine kk p l e R s m args below meth c QM mc ms C hfr hlo hmc hms hret H' _ cells slots lsC (rep_upd hR0 hlt rfl rfl (fun b hb => ⟨by funext i; simp [wI, hI, hR, hb], by funext i; simp [wI, hI, hR, hb]⟩) ?_ e2 e3 (fun x hx => by rw [List.mem_singleton.mp hx])) hL h1 h2
  rw [ce_obj (σ := wI σ a j x) hk f1, fl_wI ht]
  exact ⟨_, cls_at f1, t_OB.to (V := updV (vp_V (fl G σ ci a)) j (cv G (Vi x))) ⟨_, e1, q2, q3, t_set q4 hap f2 _⟩ (fun i _ => vp_updV_set (by rw [fl_len]; exact f2) _ i)⟩
set_option maxHeartbeats 4000000 in
theorem ar_putRF {idx ci j a : Nat} {x : Option Nat} (q : Nat) (hq : pc + 3 = q) (hd : decode (bc M) pc = .ok (.putfield idx, 3)) (hf : FLk M.1.cls idx ci j) (ht0 : (∃ C9, cY ci j = .object C9) ∨ ∃ t9, cY ci j = .array t9) (hfin : ((cT ci).2.1 j).2.2.2 = true) (hin : M.1.name = "<init>") (hdc : (cT ci).1 = M.1.cls) (hk : (sk σ a).1 = ci + 1)
    (kk : WA G d k n M q ls st (wR σ a j x) Q) : WA G d k n M pc ls (Vr x :: Va a :: st) σ Q := by
  subst hq
  intro p l e R s m args below meth c QM mc ms C hfr hlo hmc hms hret H locs cells slots lsC hR0 hL h1 h2
  obtain ⟨f1, f2, f3, f4⟩ := hf
  have ht : fI (cY ci j) = false := by rcases ht0 with ⟨_, e⟩ | ⟨_, e⟩ <;> rw [e] <;> rfl
  have hn1 : narrow (cY ci j) (cv G (Vr x)) = cv G (Vr x) := by rcases ht0 with ⟨_, e⟩ | ⟨_, e⟩ <;> rw [e] <;> cases x <;> rfl
  have hn2 : fits (cY ci j) (cv G (Vr x)) = true := by rcases ht0 with ⟨_, e⟩ | ⟨_, e⟩ <;> rw [e] <;> cases x <;> rfl
  have hlt := rep_lto hR0 hk
  have hw := wl_get G hlt
  rw [ce_obj hk f1] at hw
  have hap := va_apart (own := M.1.cls) C.2.2.2.2.2.1 (cls_in f1) (cY ci) (cls_ty f1) (cls_nm f1) hR0.2.2.2.2.1 (cls_at f1)
  obtain ⟨r, hr1, cell, q1, q2, q3, q4⟩ := hR0.2.1 a _ hw
  have hr : r = ((cT ci).1, (cT ci).2.1, (cT ci).2.2) := Option.some.inj (hr1.symm.trans (cls_at f1))
  subst hr
  obtain ⟨hS, hfc, kC, hkC, hkind⟩ := hR0.2.2.2.2.1.1 ci _ (cls_at f1)
  obtain ⟨cf0, kf, fi, f, hi, hsl⟩ := hS j f2
  have hlay := C.2.2.2.2.2.1 _ (cls_in f1 _ (u_in_lay f2))
  unfold u_lay at hlay
  rw [if_pos hfin] at hlay
  have hst := (u_facts hfc hkC (u_lays C.2.2.2.2.2.1 (cls_in f1) f2) hi).1
  have hcf : m.cls = cf0 := by
    obtain ⟨_, _, c', _, _, _, -, -, hf', -, -, -, hown2, -⟩ := Cond.laysFinal_spec hlay
    have e1 : c' = cf0 := by have := hi.symm.trans hf'; simp at this; exact this.1.symm
    rw [f4, hdc] at hown2
    rw [← e1]; exact Option.some.inj (C.2.2.2.2.1.symm.trans hown2)
  have h6 := u_fits hfc hkC hkind (Or.inr hlay) hi (cls_ty f1 j f2) hn1 hn2
  refine W.putFinK C.1 C.2.1 C.2.2.2.2.1 (C.2.2.2.2.2.1 _ f3) (by rw [← f4]; exact hi) hst hcf (C.2.2.2.2.2.2.2 hin) (by rw [q2]; exact h6) q1 q3 (by rw [hsl]; exact k2_hasslot (q4 j f2)) rfl rfl hd fun H' e1 e2 e3 => ?_
  rw [hsl] at e1 ⊢
  refine kk p l e R s m args below meth c QM mc ms C hfr hlo hmc hms hret H' _ cells slots lsC (rep_upd hR0 hlt rfl rfl (fun b hb => ⟨by funext i; simp [wR, hI, hR, hb], by funext i; simp [wR, hI, hR, hb]⟩) ?_ e2 e3 (fun x hx => by rw [List.mem_singleton.mp hx])) hL h1 h2
  rw [ce_obj (σ := wR σ a j x) hk f1, fl_wR ht]
  exact ⟨_, cls_at f1, t_OB.to (V := updV (vp_V (fl G σ ci a)) j (cv G (Vr x))) ⟨_, e1, q2, q3, t_set q4 hap f2 _⟩ (fun i _ => vp_updV_set (by rw [fl_len]; exact f2) _ i)⟩
theorem ar_iald {a N : Nat} {j : Int} (q : Nat) (hq : pc + 1 = q) (hd : decode (bc M) pc = .ok (.iaload, 1)) (hk : sk σ a = (10, N)) (hj : 0 ≤ j ∧ j < N ∧ j ≤ 2147483647)
    (kk : WA G d k n M q ls (Vi (hI σ a j.toNat) :: st) σ Q) : WA G d k n M pc ls (Vi j :: Va a :: st) σ Q := by
  subst hq
  intro p l e R s m args below meth c QM mc ms C hfr hlo hmc hms hret H locs cells slots lsC hR0 hL h1 h2
  have K := kk p l e R s m args below meth c QM mc ms C hfr hlo hmc hms hret H locs cells slots lsC hR0 hL h1 h2
  have hw := wl_get G (rep_lt hR0 hk (by decide))
  rw [ce_int hk] at hw
  refine va_iald C.1 C.2.1 hR0.2.2.2.2.1 hR0.2.1 a 0 hw rfl (o_in hj) hd ?_
  rw [o_nat (by omega)]
  exact K
theorem ar_bald {a N : Nat} {j : Int} (q : Nat) (hq : pc + 1 = q) (hd : decode (bc M) pc = .ok (.baload, 1)) (hk : sk σ a = (11, N)) (hj : 0 ≤ j ∧ j < N ∧ j ≤ 2147483647)
    (kk : WA G d k n M q ls (Vi (hI σ a j.toNat) :: st) σ Q) : WA G d k n M pc ls (Vi j :: Va a :: st) σ Q := by
  subst hq
  intro p l e R s m args below meth c QM mc ms C hfr hlo hmc hms hret H locs cells slots lsC hR0 hL h1 h2
  have K := kk p l e R s m args below meth c QM mc ms C hfr hlo hmc hms hret H locs cells slots lsC hR0 hL h1 h2
  have hw := wl_get G (rep_lt hR0 hk (by decide))
  rw [ce_boo hk] at hw
  refine va_zald C.1 C.2.1 hR0.2.2.2.2.1 hR0.2.1 a 1 hw rfl (o_in hj) hd ?_
  rw [o_nat (by omega)]
  exact K
theorem ar_iast {a N : Nat} {j x : Int} (q : Nat) (hq : pc + 1 = q) (hd : decode (bc M) pc = .ok (.iastore, 1)) (hk : sk σ a = (10, N)) (hj : 0 ≤ j ∧ j < N ∧ j ≤ 2147483647) 
    (kk : WA G d k n M q ls st (wI σ a j.toNat x) Q) : WA G d k n M pc ls (Vi x :: Vi j :: Va a :: st) σ Q := by
  subst hq
  intro p l e R s m args below meth c QM mc ms C hfr hlo hmc hms hret H locs cells slots lsC hR0 hL h1 h2
  have hlt := rep_lt hR0 hk (by decide)
  have hw := wl_get G hlt
  rw [ce_int hk] at hw
  have hin := o_in hj
  refine W.iast C.1 C.2.1 (hR0.2.1 a _ hw) ((hR0.2.2.2.2.1.2 0 _ rfl).1 N (fun i => .int (Int32.ofInt (hI σ a i)))) (fun q => by cases q) (by show ¬ (_ < 0 ∨ (arrV _ _ _).slots.size ≤ _); rw [arrV_size]; exact hin) rfl rfl hd fun H' e1 e2 e3 => ?_
  refine kk p l e R s m args below meth c QM mc ms C hfr hlo hmc hms hret H' _ cells slots lsC (rep_upd hR0 hlt rfl rfl (fun b hb => ⟨by funext i; simp [wI, hI, hb], rfl⟩) ?_ e2 e3 (fun x hx => by rw [List.mem_singleton.mp hx])) hL h1 h2
  rw [ce_int (σ := wI σ a j.toNat x) hk]
  show H'[gB G + a]? = some (vp_cell _ _)
  rw [e1]
  rw [vp_cell_i, vp_cell_i, arrV_store]
  congr 2
  funext i
  rw [o_nat (by omega)]
  by_cases hi : i = j.toNat
  · subst hi
    simp [updV, wI, hI]
  · simp [updV, wI, hI, hi]
theorem ar_bast {a N : Nat} {j x : Int} (q : Nat) (hq : pc + 1 = q) (hd : decode (bc M) pc = .ok (.bastore, 1)) (hk : sk σ a = (11, N)) (hj : 0 ≤ j ∧ j < N ∧ j ≤ 2147483647) (hx : x = 0 ∨ x = 1)
    (kk : WA G d k n M q ls st (wI σ a j.toNat x) Q) : WA G d k n M pc ls (Vi x :: Vi j :: Va a :: st) σ Q := by
  subst hq
  intro p l e R s m args below meth c QM mc ms C hfr hlo hmc hms hret H locs cells slots lsC hR0 hL h1 h2
  have hlt := rep_lt hR0 hk (by decide)
  have hw := wl_get G hlt
  rw [ce_boo hk] at hw
  have hin := o_in hj
  have hnar : narrow .boolean (.int (Int32.ofInt x)) = .int (Int32.ofInt x) := by rcases hx with rfl | rfl <;> rfl
  refine W.zast C.1 C.2.1 (hR0.2.1 a _ hw) ((hR0.2.2.2.2.1.2 1 _ rfl).1 N (fun i => .int (Int32.ofInt (hI σ a i)))) (fun q => by cases q) (by show ¬ (_ < 0 ∨ (arrV _ _ _).slots.size ≤ _); rw [arrV_size]; exact hin) rfl rfl hd fun H' e1 e2 e3 => ?_
  rw [hnar] at e1
  refine kk p l e R s m args below meth c QM mc ms C hfr hlo hmc hms hret H' _ cells slots lsC (rep_upd hR0 hlt rfl rfl (fun b hb => ⟨by funext i; simp [wI, hI, hb], rfl⟩) ?_ e2 e3 (fun x hx => by rw [List.mem_singleton.mp hx])) hL h1 h2
  rw [ce_boo (σ := wI σ a j.toNat x) hk]
  show H'[gB G + a]? = some (vp_cell _ _)
  rw [e1]
  rw [vp_cell_i, vp_cell_i, arrV_store]
  congr 2
  funext i
  rw [o_nat (by omega)]
  by_cases hi : i = j.toNat
  · subst hi
    simp [updV, wI, hI]
  · simp [updV, wI, hI, hi]
def aK (kd : Nat) : FieldType := match kd with
  | 12 => .object RX1
  | 13 => .object RX4
  | 14 => .object RX3
  | _ => .array .int
theorem kd_c {P : Nat → Prop} {kd : Nat} (h : 12 ≤ kd ∧ kd ≤ 15) (h0 : P 12) (h1 : P 13) (h2 : P 14) (h3 : P 15) : P kd := by
  rcases (by omega : kd = 12 ∨ kd = 13 ∨ kd = 14 ∨ kd = 15) with rfl | rfl | rfl | rfl <;> assumption
theorem ty_at (G : GT) {kd : Nat} (h : 12 ≤ kd ∧ kd ≤ 15) : (tyl G)[kd - 10]? = some (G.2.1 kd, aK kd) := kd_c (P := fun kd => (tyl G)[kd - 10]? = some (G.2.1 kd, aK kd)) h rfl rfl rfl rfl
theorem aK_ref {kd : Nat} (h : 12 ≤ kd ∧ kd ≤ 15) : (aK kd).isReference = true := kd_c (P := fun kd => (aK kd).isReference = true) h rfl rfl rfl rfl
theorem ar_aald {a N kd : Nat} {j : Int} (q : Nat) (hq : pc + 1 = q) (hd : decode (bc M) pc = .ok (.aaload, 1)) (hk : sk σ a = (kd, N)) (hkd : 12 ≤ kd ∧ kd ≤ 15) (hj : 0 ≤ j ∧ j < N ∧ j ≤ 2147483647)
    (kk : WA G d k n M q ls (Vr (hR σ a j.toNat) :: st) σ Q) : WA G d k n M pc ls (Vi j :: Va a :: st) σ Q := by
  subst hq
  intro p l e R s m args below meth c QM mc ms C hfr hlo hmc hms hret H locs cells slots lsC hR0 hL h1 h2
  have K := kk p l e R s m args below meth c QM mc ms C hfr hlo hmc hms hret H locs cells slots lsC hR0 hL h1 h2
  have hw := wl_get G (rep_lt hR0 hk (by omega))
  rw [ce_ref hk hkd.1] at hw
  have hin := o_in hj
  have hlt : (Int32.ofInt j).toNatClampNeg < N := Nat.not_le.mp fun q => hin (Or.inr q)
  refine W.aald (v := va_rf (cf G (hR σ a (Int32.ofInt j).toNatClampNeg))) (ty := aK kd) C.1 C.2.1 (hR0.2.1 a _ hw) ((hR0.2.2.2.2.1.2 _ _ (ty_at G hkd)).1 N (fun i => va_rf (cf G (hR σ a i)))) (aK_ref hkd) (fun q => by cases q) (by show ¬ (_ < 0 ∨ (arrV _ _ _).slots.size ≤ _); rw [arrV_size]; exact hin) (by show (arrV _ _ _).slots[_]? = _; rw [arrV_read _ _ hlt]) rfl rfl hd ?_
  rw [o_nat (by omega), cv_rf]
  exact K
/-- which kind of object an array of the kind holds -/
def kO (kd : Nat) : Nat := match kd with
  | 12 => 1
  | 13 => 4
  | _ => 3
theorem kO_ty {kd : Nat} (h : 12 ≤ kd ∧ kd ≤ 14) : aK kd = .object (cT (kO kd)).1 := by
  rcases (by omega : kd = 12 ∨ kd = 13 ∨ kd = 14) with rfl | rfl | rfl <;> rfl
theorem kO_lt {kd : Nat} : kO kd < 7 := by unfold kO; split <;> decide
theorem ar_aast {a N kd v : Nat} {j : Int} (q : Nat) (hq : pc + 1 = q) (hd : decode (bc M) pc = .ok (.aastore, 1)) (hk : sk σ a = (kd, N)) (hkd : 12 ≤ kd ∧ kd ≤ 14) (hj : 0 ≤ j ∧ j < N ∧ j ≤ 2147483647) (hv : (sk σ v).1 = kO kd + 1)
    (kk : WA G d k n M q ls st (wR σ a j.toNat (some v)) Q) : WA G d k n M pc ls (Va v :: Vi j :: Va a :: st) σ Q := by
  subst hq
  intro p l e R s m args below meth c QM mc ms C hfr hlo hmc hms hret H locs cells slots lsC hR0 hL h1 h2
  have hltA := rep_lt hR0 hk (by omega)
  have hw := wl_get G hltA
  rw [ce_ref hk hkd.1] at hw
  have hwv := wl_get G (rep_lto hR0 hv)
  rw [ce_obj hv kO_lt] at hwv
  have hin := o_in hj
  have hlt : (Int32.ofInt j).toNatClampNeg < N := Nat.not_le.mp fun q => hin (Or.inr q)
  have h0 : ¬ Int32.ofInt j < 0 := fun q => hin (Or.inl q)
  obtain ⟨r', hr', cellV, g1, g2, g3, -⟩ := hR0.2.1 v _ hwv
  have hcls := (hR0.2.2.2.2.1.1 (kO kd) _ (cls_at kO_lt)).2
  have hty := hR0.2.2.2.2.1.2 _ _ (ty_at G (kd := kd) (by omega))
  rw [kO_ty hkd] at hty
  obtain ⟨kA, comp, k1, k2, k3, -⟩ := hty.2
  have hcomp : comp = G.1.1 (kO kd) := Option.some.inj (k3.symm.trans hcls.1)
  subst hcomp
  obtain ⟨kC, hkC, -⟩ := hcls.2
  refine W.aast C.1 C.2.1 (hR0.2.1 a _ hw) (fun q h => by cases h) (fun h => by cases h) k1 k2 rfl hkC ⟨h0, by show _ < (arrV _ _ _).slots.size; rw [arrV_size]; exact hlt⟩ g1 (fun q h => by rw [g3] at h; cases h) (by rw [g2]; exact hkC) (by rw [g2]; exact va_assign hcls) rfl rfl hd fun H' e1 e2 e3 => ?_
  refine kk p l e R s m args below meth c QM mc ms C hfr hlo hmc hms hret H' _ cells slots lsC (rep_upd hR0 hltA rfl rfl (fun b hb => ⟨rfl, by funext i; simp [wR, hR, hb]⟩) ?_ e2 e3 (fun x hx => by rw [List.mem_singleton.mp hx])) hL h1 h2
  rw [ce_ref (σ := wR σ a j.toNat (some v)) hk hkd.1]
  show H'[gB G + a]? = some (vp_cell _ _)
  rw [e1]
  rw [vp_cell_q, vp_cell_q, arrV_store]
  congr 2
  funext i
  rw [o_nat (by omega)]
  by_cases hi : i = j.toNat
  · subst hi
    simp [updV, wR, hR, va_rf, cf]
  · simp [updV, wR, hR, hi]
theorem ar_alen {a N kd : Nat} (q : Nat) (hq : pc + 1 = q) (hd : decode (bc M) pc = .ok (.arraylength, 1)) (hk : sk σ a = (kd, N)) (hkd : 10 ≤ kd ∧ kd ≤ 15)
    (kk : WA G d k n M q ls (Vi (N : Int) :: st) σ Q) : WA G d k n M pc ls (Va a :: st) σ Q := by
  subst hq
  intro p l e R s m args below meth c QM mc ms C hfr hlo hmc hms hret H locs cells slots lsC hR0 hL h1 h2
  have K := kk p l e R s m args below meth c QM mc ms C hfr hlo hmc hms hret H locs cells slots lsC hR0 hL h1 h2
  have hw := wl_get G (rep_lt hR0 hk (by omega))
  have hN : Int32.ofNat N = Int32.ofInt (N : Int) := Int32.ofInt_eq_ofNat.symm
  rcases (by omega : kd = 10 ∨ kd = 11 ∨ 12 ≤ kd) with rfl | rfl | h12
  · rw [ce_int hk] at hw
    exact va_alen C.1 C.2.1 hR0.2.2.2.2.1 hR0.2.1 a 0 hw rfl hN hd K
  · rw [ce_boo hk] at hw
    exact va_alen C.1 C.2.1 hR0.2.2.2.2.1 hR0.2.1 a 1 hw rfl hN hd K
  · rw [ce_ref hk h12] at hw
    exact va_alen C.1 C.2.1 hR0.2.2.2.2.1 hR0.2.1 a (kd - 10) hw (ty_at G ⟨h12, hkd.2⟩) hN hd K
-- the script
theorem ar_sald {j : Int} (q : Nat) (hq : pc + 1 = q) (hd : decode (bc M) pc = .ok (.iaload, 1)) (hj : 0 ≤ j ∧ j < gL G ∧ j ≤ 2147483647)
    (kk : WA G d k n M q ls (Vi (gX G j.toNat).toInt :: st) σ Q) : WA G d k n M pc ls (Vi j :: Vs :: st) σ Q := by
  subst hq
  intro p l e R s m args below meth c QM mc ms C hfr hlo hmc hms hret H locs cells slots lsC hR0 hL h1 h2
  have K := kk p l e R s m args below meth c QM mc ms C hfr hlo hmc hms hret H locs cells slots lsC hR0 hL h1 h2
  have hb := hR0.2.2.2.2.2.2.2.1
  have hb2 := hR0.2.2.2.2.2.2.1
  refine va_sld C.1 C.2.1 hR0.2.2.2.2.2.2.2.2.1 (by omega) (by show ¬ gB G ≤ gS G; omega) hR0.2.2.2.1 (o_in hj) hd ?_
  rw [o_nat (by omega)]
  rw [List.map_cons, cv_i32] at K
  exact K
theorem ar_slen (q : Nat) (hq : pc + 1 = q) (hd : decode (bc M) pc = .ok (.arraylength, 1))
    (kk : WA G d k n M q ls (Vi (gL G : Int) :: st) σ Q) : WA G d k n M pc ls (Vs :: st) σ Q := by
  subst hq
  intro p l e R s m args below meth c QM mc ms C hfr hlo hmc hms hret H locs cells slots lsC hR0 hL h1 h2
  have K := kk p l e R s m args below meth c QM mc ms C hfr hlo hmc hms hret H locs cells slots lsC hR0 hL h1 h2
  have hb := hR0.2.2.2.2.2.2.2.1
  have hb2 := hR0.2.2.2.2.2.2.1
  refine va_slen C.1 C.2.1 hR0.2.2.2.2.2.2.2.2.1 (by omega) (by show ¬ gB G ≤ gS G; omega) hR0.2.2.2.1 hd ?_
  have hN : Int32.ofNat (gL G) = Int32.ofInt (gL G : Int) := Int32.ofInt_eq_ofNat.symm
  rw [hN]
  exact K
theorem ar_new {idx : Nat} (ci k' n' : Nat) (q : Nat) (hq : pc + 3 = q) (hd : decode (bc M) pc = .ok (.new idx, 3)) (hc : ci < 7) (hcl : Cond.classLink M.1.cls idx (cT ci).1 ∈ gT) (hin : Cond.instantiable (cT ci).1 (cT ci).2.2 ∈ gT) (hini : Cond.initialized (cT ci).1 ∈ gT) (hk : k' + 1 ≤ k) (hn : n' + (cT ci).2.2 ≤ n)
    (kk : WA G d k' n' M q ls (Va (sn σ) :: st) (al σ (ci + 1) 0) Q) : WA G d k n M pc ls st σ Q := by
  subst hq
  intro p l e R s m args below meth c QM mc ms C hfr hlo hmc hms hret H locs cells slots lsC hR0 hL h1 h2
  have hKn := hR0.2.2.2.2.1.1 ci _ (cls_at hc)
  refine W.newcK C.1 C.2.1 C.2.2.2.2.1 (C.2.2.2.2.2.1 _ hcl) (C.2.2.2.2.2.1 _ hin) (C.2.2.2.2.2.1 _ hini) rfl hd (by omega) (by omega) hKn.2.1 hR0.1 fun H1 kC hkC e1 z1 o1 => ?_
  refine kk p l e R s m args below meth c QM mc ms C hfr hlo hmc hms hret H1 locs (cells + 1) (slots + (cT ci).2.2) lsC (rep_new hR0 ?_ (by rw [z1, hR0.1]) (fun q hq => o1 q (by rw [← hR0.1]; exact hq))) hL (by omega) (by omega)
  rw [ce_obj (σ := al σ (ci + 1) 0) (ci := ci) (by simp [al, sk]) hc]
  refine ⟨_, cls_at hc, (u_born (cY ci) C.2.2.2.2.2.1 (cls_in hc) hKn hkC e1 (cls_ty hc)).to (fun j hj => ?_)⟩
  unfold vp_V
  rw [List.getD_eq_getElem?_getD, fl_get hj, cls_dv hc j hj]
  simp only [al, hI, hR, if_true, Option.getD_some]
  split <;> rfl
theorem ar_newI {x : Int} (N k' n' : Nat) (q : Nat) (hq : pc + 2 = q) (hd : decode (bc M) pc = .ok (.newarray .int, 2)) (hx : x = N) (hN : N ≤ 536870912 / 4) (har : Cond.arrayClass .int ∈ gT) (hk : k' + 1 ≤ k) (hn : n' + N ≤ n)
    (kk : WA G d k' n' M q ls (Va (sn σ) :: st) (al σ 10 N) Q) : WA G d k n M pc ls (Vi x :: st) σ Q := by
  subst hq
  subst hx
  intro p l e R s m args below meth c QM mc ms C hfr hlo hmc hms hret H locs cells slots lsC hR0 hL h1 h2
  have hb := hR0.1
  have hcn : (Int32.ofInt (N : Int)).toNatClampNeg = N := by rw [o_nat (by omega)]; omega
  refine va_newaK C.1 C.2.1 (atype := .int) (C.2.2.2.2.2.1 _ har) rfl hd rfl (o_nneg (by omega)) hcn (by show N * _ ≤ 536870912; first | (show N * 4 ≤ 536870912; omega) | (show N * 1 ≤ 536870912; omega)) (by omega) (by omega) hb fun H1 cA e1 z1 o1 hA hfc => ?_
  have hc : cA = G.2.1 10 := Option.some.inj (hfc.symm.trans (hR0.2.2.2.2.1.2 0 _ rfl).2)
  subst hc
  refine kk p l e R s m args below meth c QM mc ms C hfr hlo hmc hms hret H1 locs (cells + 1) (slots + N) lsC (rep_new hR0 ?_ (by rw [z1, hb]) (fun q hq => o1 q (by rw [← hb]; exact hq))) hL (by omega) (by omega)
  rw [ce_int (σ := al σ 10 N) (n := N) (by simp [al, sk])]
  show H1[gB G + sn σ]? = some (vp_cell _ _)
  rw [e1, vp_cell_i]
  simp [al, hI, defaultValue, newarray.typeOf]
theorem ar_newZ {x : Int} (N k' n' : Nat) (q : Nat) (hq : pc + 2 = q) (hd : decode (bc M) pc = .ok (.newarray .boolean, 2)) (hx : x = N) (hN : N ≤ 536870912 / 4) (har : Cond.arrayClass .boolean ∈ gT) (hk : k' + 1 ≤ k) (hn : n' + N ≤ n)
    (kk : WA G d k' n' M q ls (Va (sn σ) :: st) (al σ 11 N) Q) : WA G d k n M pc ls (Vi x :: st) σ Q := by
  subst hq
  subst hx
  intro p l e R s m args below meth c QM mc ms C hfr hlo hmc hms hret H locs cells slots lsC hR0 hL h1 h2
  have hb := hR0.1
  have hcn : (Int32.ofInt (N : Int)).toNatClampNeg = N := by rw [o_nat (by omega)]; omega
  refine va_newaK C.1 C.2.1 (atype := .boolean) (C.2.2.2.2.2.1 _ har) rfl hd rfl (o_nneg (by omega)) hcn (by show N * _ ≤ 536870912; first | (show N * 4 ≤ 536870912; omega) | (show N * 1 ≤ 536870912; omega)) (by omega) (by omega) hb fun H1 cA e1 z1 o1 hA hfc => ?_
  have hc : cA = G.2.1 11 := Option.some.inj (hfc.symm.trans (hR0.2.2.2.2.1.2 1 _ rfl).2)
  subst hc
  refine kk p l e R s m args below meth c QM mc ms C hfr hlo hmc hms hret H1 locs (cells + 1) (slots + N) lsC (rep_new hR0 ?_ (by rw [z1, hb]) (fun q hq => o1 q (by rw [← hb]; exact hq))) hL (by omega) (by omega)
  rw [ce_boo (σ := al σ 11 N) (n := N) (by simp [al, sk])]
  show H1[gB G + sn σ]? = some (vp_cell _ _)
  rw [e1, vp_cell_i]
  simp [al, hI, defaultValue, newarray.typeOf]
theorem ar_anew {idx : Nat} {x : Int} (kd N k' n' : Nat) (q : Nat) (hq : pc + 3 = q) (hd : decode (bc M) pc = .ok (.anewarray idx, 3)) (hkd : 12 ≤ kd ∧ kd ≤ 14) (hcl : Cond.classLink M.1.cls idx (cT (kO kd)).1 ∈ gT) (hx : x = N) (hN : N ≤ 536870912 / 4) (hk : k' + 1 ≤ k) (hn : n' + N ≤ n)
    (kk : WA G d k' n' M q ls (Va (sn σ) :: st) (al σ kd N) Q) : WA G d k n M pc ls (Vi x :: st) σ Q := by
  subst hq
  subst hx
  intro p l e R s m args below meth c QM mc ms C hfr hlo hmc hms hret H locs cells slots lsC hR0 hL h1 h2
  have hb := hR0.1
  have hcn : (Int32.ofInt (N : Int)).toNatClampNeg = N := by rw [o_nat (by omega)]; omega
  have hov : va_AO (cT (kO kd)).1 s := by
    have h9 := hR0.2.2.2.2.2.1.2.1
    rcases (by omega : kd = 12 ∨ kd = 13 ∨ kd = 14) with rfl | rfl | rfl
    · exact h9.1
    · exact h9.2.2
    · exact h9.2.1
  refine W.anew C.1 C.2.1 C.2.2.2.2.1 (C.2.2.2.2.2.1 _ hcl) (va_AO.use hov) rfl hd rfl (o_nneg (by omega)) (by rw [hcn]; omega) (by omega) (by rw [hcn]; omega) fun cA kA comp f1 f2 f3 f4 => ?_
  have hty := hR0.2.2.2.2.1.2 _ _ (ty_at G (kd := kd) (by omega))
  rw [kO_ty hkd] at hty
  obtain ⟨kA9, comp9, g1, g2, g3, g4⟩ := hty.2
  have hc : cA = G.2.1 kd := Option.some.inj (f1.symm.trans g4)
  subst hc
  rw [hcn]
  generalize hH1 : H.push ({ cls := G.2.1 kd, slots := Array.replicate N .null, vm := .none } : Cell) = H1
  have z1 : H1.size = H.size + 1 := by rw [← hH1, Array.size_push]
  have e1 : H1[H.size]? = some (arrV (G.2.1 kd) N (fun _ => .null)) := by rw [← hH1, Array.getElem?_push_size, ← arrV_new]
  have o1 : ∀ q : Nat, q < H.size → H1[q]? = H[q]? := fun q hq => by rw [← hH1, Array.getElem?_push, if_neg (Nat.ne_of_lt hq)]
  rw [hb]
  refine kk p l e R s m args below meth c QM mc ms C hfr hlo hmc hms hret H1 locs (cells + 1) (slots + N) lsC (rep_new hR0 ?_ z1 o1) hL (by omega) (by omega)
  rw [ce_ref (σ := al σ kd N) (n := N) (kd := kd) (by simp [al, sk]) hkd.1]
  show H1[gB G + sn σ]? = some (vp_cell _ _)
  rw [← hb, e1, vp_cell_q]
  simp [al, hR, cf, va_rf]
theorem ar_oinit {idx a : Nat} (q : Nat) (hq : pc + 3 = q) (hd : decode (bc M) pc = .ok (.invokespecial idx, 3)) (hl : Cond.methodLink M.1.cls idx objectInit ∈ gT) (hi : Cond.instanceMethod objectInit ∈ gT) (hc : Cond.code objectInit ⟨#[0xb1]⟩ 1 none ∈ gT) (hst : st.length ≤ 4) (hd1 : 1 ≤ d)
    (kk : WA G d k n M q ls st σ Q) : WA G d k n M pc ls (Va a :: st) σ Q := by
  subst hq
  intro p l e R s m args below meth c QM mc ms C hfr hlo hmc hms hret H locs cells slots lsC hR0 hL h1 h2
  have hcat : ∀ l9 : List AV, ((l9.map (cv G)).map fun v => v.category).sum ≤ 2 * l9.length := by
    intro l9
    induction l9 with
    | nil => simp
    | cons v t ih =>
      have := lv_cat (cv G v)
      simp only [List.map_cons, List.sum_cons, List.length_cons]
      omega
  have h9 := hcat st
  exact W.objInit C.1 C.2.1 C.2.2.2.2.1 (C.2.2.2.2.2.1 _ hl) (C.2.2.2.2.2.1 _ hi) (C.2.2.2.2.2.1 _ hc) rfl (by rw [C.2.2.2.1]; exact hL.1) rfl hd (by omega) (by show 2 * 0 + _ + 12 ≤ _; omega) (kk p l e R s m args below meth c QM mc ms C hfr hlo hmc hms hret H locs cells slots lsC hR0 hL h1 h2)
end HRows
end
section
section CRows
variable {G : GT} {d k n : Nat} {M : MM} {pc : Nat} {ls st : List AV} {σ : Sg} {Q : Option AV → Sg → Prop}
theorem cat_le (G : GT) : ∀ l9 : List AV, ((l9.map (cv G)).map fun v => v.category).sum ≤ 2 * l9.length := by
  intro l9
  induction l9 with
  | nil => simp
  | cons v t ih =>
    have := lv_cat (cv G v)
    simp only [List.map_cons, List.sum_cons, List.length_cons]
    omega
theorem o_nn {x : Int} (h : 0 ≤ x ∧ x ≤ 2147483647) : (Int32.ofInt x).toInt = ((Int32.ofInt x).toNatClampNeg : Int) := by
  rw [o_nat (by omega), o_I (by omega)]
  omega
def cpW (o : String) (idx : Nat) : Prop := Cond.methodLink o idx arraycopyName ∈ gT ∧ Cond.native arraycopyName ∈ gT ∧ Cond.static arraycopyName ∈ gT ∧ Cond.initialized "java/lang/System" ∈ gT
set_option maxHeartbeats 4000000 in
theorem ar_copyI {idx a b N0 N1 : Nat} {sp dp z : Int} (q : Nat) (hq : pc + 3 = q) (hd : decode (bc M) pc = .ok (.invokestatic idx, 3)) (hw : cpW M.1.cls idx) (hka : sk σ a = (10, N0)) (hkb : sk σ b = (10, N1)) (hz : 0 ≤ sp ∧ 0 ≤ dp ∧ 0 ≤ z ∧ sp + z ≤ N0 ∧ dp + z ≤ N1 ∧ N0 ≤ 2147483647 ∧ N1 ≤ 2147483647) (hst : st.length ≤ 4) (hd1 : 1 ≤ d)
    (kk : WA G d k n M q ls st (cI σ a sp.toNat b dp.toNat z.toNat) Q) : WA G d k n M pc ls (Vi z :: Vi dp :: Va b :: Vi sp :: Va a :: st) σ Q := by
  subst hq
  intro p l e R s m args below meth c QM mc ms C hfr hlo hmc hms hret H locs cells slots lsC hR0 hL h1 h2
  have hlta := rep_lt hR0 hka (by decide)
  have hltb := rep_lt hR0 hkb (by decide)
  have hc0 := hR0.2.1 a _ (wl_get G hlta)
  rw [ce_int hka] at hc0
  have hc1 := hR0.2.1 b _ (wl_get G hltb)
  rw [ce_int hkb] at hc1
  have n1 := o_nn (x := sp) (by omega)
  have n2 := o_nn (x := dp) (by omega)
  have n3 := o_nn (x := z) (by omega)
  have e5 := o_nat (j := sp) (by omega)
  have e6 := o_nat (j := dp) (by omega)
  have e7 := o_nat (j := z) (by omega)
  intro T hT X
  have hA := (hR0.2.2.2.2.1.2 0 _ rfl).1
  obtain ⟨-, k0, hk0, cm0, hkk0⟩ := hA N0 (fun j => .int (Int32.ofInt (hI σ a j)))
  obtain ⟨-, k1, hk1, cm1, hkk1⟩ := hA N1 (fun j => .int (Int32.ofInt (hI σ b j)))
  have hcat := cat_le G st
  have e9 : nativeFrameWords "java/lang/System" "arraycopy" 5 = 7 := by decide +kernel
  obtain ⟨vm', X', step⟩ := X.arraycopy C.1 C.2.2.2.2.1 (C.2.2.2.2.2.1 _ hw.1) (C.2.2.2.2.2.1 _ hw.2.1) (C.2.2.2.2.2.1 _ hw.2.2.1) (C.2.2.2.2.2.1 _ hw.2.2.2) (src := gB G + a) (dst := gB G + b) (cs := vp_cell (G.2.1 10) (N0, .inl (fun j => Int32.ofInt (hI σ a j)))) (cd := vp_cell (G.2.1 10) (N1, .inl (fun j => Int32.ofInt (hI σ b j)))) (srcPos := Int32.ofInt sp) (destPos := Int32.ofInt dp) (n := Int32.ofInt z) (by rw [hT]; exact hc0) (by rw [hT]; exact hc1)
    (fun _ h => by cases h) (fun _ h => by cases h) (fun h => by cases h) (fun h => by cases h) hk0 hk1 hkk0 hkk1 rfl (o_nneg (by omega)) (o_nneg (by omega)) (o_nneg (by omega))
    (by rw [n1, n3, e5, e7]; show ¬ _ > ((arrV (G.2.1 10) N0 (fun j => .int (Int32.ofInt (hI σ a j)))).slots.size : Int); rw [arrV_size]; omega)
    (by rw [n2, n3, e6, e7]; show ¬ _ > ((arrV (G.2.1 10) N1 (fun j => .int (Int32.ofInt (hI σ b j)))).slots.size : Int); rw [arrV_size]; omega)
    (fun vm₁ _ i hi => by
      have e : (vp_cell (G.2.1 10) (N0, .inl (fun j => Int32.ofInt (hI σ a j)))).slots.getD ((Int32.ofInt sp).toNatClampNeg + i) .null = .int (Int32.ofInt (hI σ a ((Int32.ofInt sp).toNatClampNeg + i))) := by
        show (arrV (G.2.1 10) N0 (fun j => .int (Int32.ofInt (hI σ a j)))).slots.getD _ _ = _
        rw [Array.getD_eq_getD_getElem?, arrV_read _ _ (by rw [e7] at hi; rw [e5]; omega)]
        rfl
      refine ⟨?_, ?_⟩
      · rw [e]
        rfl
      · rw [e]
        exact trivial)
    (g := F0 m pc lsC (.int (Int32.ofInt z) :: .int (Int32.ofInt dp) :: .ref (gB G + b) :: .int (Int32.ofInt sp) :: .ref (gB G + a) :: st.map (cv G))) rfl (by rw [C.2.2.2.1]; exact hL.1) (rest := st.map (cv G)) rfl (by rw [C.2.1]; exact hd) (by omega) (by show 2 * 0 + _ + (nativeFrameWords "java/lang/System" "arraycopy" 5 + 11) ≤ _; rw [e9]; omega)
  have e1 : copied (vp_cell (G.2.1 10) (N0, .inl (fun j => Int32.ofInt (hI σ a j)))) (vp_cell (G.2.1 10) (N1, .inl (fun j => Int32.ofInt (hI σ b j)))) (Int32.ofInt sp) (Int32.ofInt dp) (Int32.ofInt z) = vp_cell (G.2.1 10) (N1, .inl (va_cpy (fun j => Int32.ofInt (hI σ a j)) (fun j => Int32.ofInt (hI σ b j)) sp.toNat dp.toNat z.toNat)) := by
    have h9 : (Int32.ofInt sp).toNatClampNeg + (Int32.ofInt z).toNatClampNeg ≤ N0 := by rw [e5, e7]; omega
    rw [← e5, ← e6, ← e7]
    exact va_copied (n1 := N1) (dp := (Int32.ofInt dp).toNatClampNeg) (fun z => .int z) (G.2.1 10) (G.2.1 10) (fun j => Int32.ofInt (hI σ a j)) (fun j => Int32.ofInt (hI σ b j)) h9
  rw [e1] at X' step
  have ec : ce G (cI σ a sp.toNat b dp.toNat z.toNat) b = .inl (G.2.1 10, N1, .inl (va_cpy (fun j => Int32.ofInt (hI σ a j)) (fun j => Int32.ofInt (hI σ b j)) sp.toNat dp.toNat z.toNat)) := by
    rw [ce_int (σ := cI σ a sp.toNat b dp.toNat z.toNat) hkb]
    congr 4
    funext i
    simp only [cI, hI, va_cpy, true_and]
    split <;> rfl
  have hl : gB G + b < H.size := by rw [hR0.1]; omega
  have hheap : ((T.setVm vm').setCell (gB G + b) (vp_cell (G.2.1 10) (N1, .inl (va_cpy (fun j => Int32.ofInt (hI σ a j)) (fun j => Int32.ofInt (hI σ b j)) sp.toNat dp.toNat z.toNat)))).heap = H.setIfInBounds (gB G + b) (vp_cell (G.2.1 10) (N1, .inl (va_cpy (fun j => Int32.ofInt (hI σ a j)) (fun j => Int32.ofInt (hI σ b j)) sp.toNat dp.toNat z.toNat))) := by rw [← hT]; rfl
  obtain ⟨t, a1, b1⟩ := kk p l e R s m args below meth c QM mc ms C hfr hlo hmc hms hret _ _ cells slots lsC (rep_upd (H' := H.setIfInBounds (gB G + b) (vp_cell (G.2.1 10) (N1, .inl (va_cpy (fun j => Int32.ofInt (hI σ a j)) (fun j => Int32.ofInt (hI σ b j)) sp.toNat dp.toNat z.toNat)))) hR0 hltb rfl rfl (fun b9 hb9 => ⟨by funext i; simp [cI, hI, hb9], rfl⟩) (by
      rw [ec]
      show (H.setIfInBounds _ _)[gB G + b]? = some _
      simp [Array.getElem?_setIfInBounds, hl]) (by simp) (fun q hq => by simp [Array.getElem?_setIfInBounds, Ne.symm hq]) (fun x hx => by
      obtain ⟨z9, -, hz9⟩ := List.mem_map.mp hx
      rw [← hz9])) hL h1 h2 _ hheap X'
  exact ⟨t, step t a1, b1⟩
set_option maxHeartbeats 4000000 in
theorem ar_copyR {idx a b N0 N1 : Nat} {sp dp z : Int} (kd : Nat) (q : Nat) (hq : pc + 3 = q) (hd : decode (bc M) pc = .ok (.invokestatic idx, 3)) (hw : cpW M.1.cls idx) (hkd : 12 ≤ kd ∧ kd ≤ 14) (hka : sk σ a = (kd, N0)) (hkb : sk σ b = (kd, N1)) (hz : 0 ≤ sp ∧ 0 ≤ dp ∧ 0 ≤ z ∧ sp + z ≤ N0 ∧ dp + z ≤ N1 ∧ N0 ≤ 2147483647 ∧ N1 ≤ 2147483647) (hel : ∀ i y : Nat, (i : Int) < z → hR σ a (sp.toNat + i) = some y → (sk σ y).1 = kO kd + 1) (hst : st.length ≤ 4) (hd1 : 1 ≤ d)
    (kk : WA G d k n M q ls st (cR σ a sp.toNat b dp.toNat z.toNat) Q) : WA G d k n M pc ls (Vi z :: Vi dp :: Va b :: Vi sp :: Va a :: st) σ Q := by
  subst hq
  intro p l e R s m args below meth c QM mc ms C hfr hlo hmc hms hret H locs cells slots lsC hR0 hL h1 h2
  have hlta := rep_lt hR0 hka (by omega)
  have hltb := rep_lt hR0 hkb (by omega)
  have hc0 := hR0.2.1 a _ (wl_get G hlta)
  rw [ce_ref hka hkd.1] at hc0
  have hc1 := hR0.2.1 b _ (wl_get G hltb)
  rw [ce_ref hkb hkd.1] at hc1
  have n1 := o_nn (x := sp) (by omega)
  have n2 := o_nn (x := dp) (by omega)
  have n3 := o_nn (x := z) (by omega)
  have e5 := o_nat (j := sp) (by omega)
  have e6 := o_nat (j := dp) (by omega)
  have e7 := o_nat (j := z) (by omega)
  intro T hT X
  have hty := hR0.2.2.2.2.1.2 _ _ (ty_at G (kd := kd) (by omega))
  rw [kO_ty hkd] at hty
  have hA := hty.1
  obtain ⟨-, k0, hk0, cm0, hkk0⟩ := hA N0 (fun j => va_rf (cf G (hR σ a j)))
  obtain ⟨-, k1, hk1, cm1, hkk1⟩ := hA N1 (fun j => va_rf (cf G (hR σ b j)))
  have hcat := cat_le G st
  have e9 : nativeFrameWords "java/lang/System" "arraycopy" 5 = 7 := by decide +kernel
  obtain ⟨vm', X', step⟩ := X.arraycopy C.1 C.2.2.2.2.1 (C.2.2.2.2.2.1 _ hw.1) (C.2.2.2.2.2.1 _ hw.2.1) (C.2.2.2.2.2.1 _ hw.2.2.1) (C.2.2.2.2.2.1 _ hw.2.2.2) (src := gB G + a) (dst := gB G + b) (cs := vp_cell (G.2.1 kd) (N0, .inr (.inr (.inr (.inr (fun j => cf G (hR σ a j))))))) (cd := vp_cell (G.2.1 kd) (N1, .inr (.inr (.inr (.inr (fun j => cf G (hR σ b j))))))) (srcPos := Int32.ofInt sp) (destPos := Int32.ofInt dp) (n := Int32.ofInt z) (by rw [hT]; exact hc0) (by rw [hT]; exact hc1)
    (fun _ h => by cases h) (fun _ h => by cases h) (fun h => by cases h) (fun h => by cases h) hk0 hk1 hkk0 hkk1 rfl (o_nneg (by omega)) (o_nneg (by omega)) (o_nneg (by omega))
    (by rw [n1, n3, e5, e7]; show ¬ _ > ((arrV (G.2.1 kd) N0 (fun j => va_rf (cf G (hR σ a j)))).slots.size : Int); rw [arrV_size]; omega)
    (by rw [n2, n3, e6, e7]; show ¬ _ > ((arrV (G.2.1 kd) N1 (fun j => va_rf (cf G (hR σ b j)))).slots.size : Int); rw [arrV_size]; omega)
    (fun vm₁ hal i hi => by
      have e : (vp_cell (G.2.1 kd) (N0, .inr (.inr (.inr (.inr (fun j => cf G (hR σ a j))))))).slots.getD ((Int32.ofInt sp).toNatClampNeg + i) .null = va_rf (cf G (hR σ a ((Int32.ofInt sp).toNatClampNeg + i))) := by
        show (arrV (G.2.1 kd) N0 (fun j => va_rf (cf G (hR σ a j)))).slots.getD _ _ = _
        rw [Array.getD_eq_getD_getElem?, arrV_read _ _ (by rw [e7] at hi; rw [e5]; omega)]
        rfl
      rw [e]
      cases hy : hR σ a ((Int32.ofInt sp).toNatClampNeg + i) with
      | none => exact ⟨rfl, trivial⟩
      | some y =>
        have hyk := hel i y (by rw [e7] at hi; omega) (by rw [← e5]; exact hy)
        have hwv := wl_get G (rep_lto hR0 hyk)
        rw [ce_obj hyk kO_lt] at hwv
        obtain ⟨cellV, g1, g2, g3⟩ := va_recv hR0.2.2.2.2.1 hR0.2.1 (cls_at kO_lt) hwv
        obtain ⟨kA, comp, r1, r2, r3, -⟩ := hty.2
        cases hk1.symm.trans r1
        cases hkk1.symm.trans r2
        obtain ⟨kC, hkC, -⟩ := Vm.findClass_spec g3
        obtain ⟨kE, hkE, -⟩ := Vm.findClass_spec r3
        obtain ⟨kC', hkC', -⟩ := hal.2.2 _ _ hkC
        obtain ⟨kE', hkE', -⟩ := hal.2.2 _ _ hkE
        refine ⟨rfl, cellV, (show T.heap[gB G + y]? = some cellV by rw [hT]; exact g1), (fun q h => by rw [h] at g2; cases g2), ⟨kC', hkC'⟩, ?_, ?_⟩
        · exact ⟨kE', hkE'⟩
        · show vm₁.assignable _ _ = true
          rw [hal.assignable]
          have hcls := (hR0.2.2.2.2.1.1 (kO kd) _ (cls_at kO_lt)).2
          have q1 : cellV.cls = G.1.1 (kO kd) := Option.some.inj (g3.symm.trans hcls.1)
          have q2 : cm1 = G.1.1 (kO kd) := Option.some.inj (r3.symm.trans hcls.1)
          rw [q1, q2]
          exact va_assign hcls)
    (g := F0 m pc lsC (.int (Int32.ofInt z) :: .int (Int32.ofInt dp) :: .ref (gB G + b) :: .int (Int32.ofInt sp) :: .ref (gB G + a) :: st.map (cv G))) rfl (by rw [C.2.2.2.1]; exact hL.1) (rest := st.map (cv G)) rfl (by rw [C.2.1]; exact hd) (by omega) (by show 2 * 0 + _ + (nativeFrameWords "java/lang/System" "arraycopy" 5 + 11) ≤ _; rw [e9]; omega)
  have e1 : copied (vp_cell (G.2.1 kd) (N0, .inr (.inr (.inr (.inr (fun j => cf G (hR σ a j))))))) (vp_cell (G.2.1 kd) (N1, .inr (.inr (.inr (.inr (fun j => cf G (hR σ b j))))))) (Int32.ofInt sp) (Int32.ofInt dp) (Int32.ofInt z) = vp_cell (G.2.1 kd) (N1, .inr (.inr (.inr (.inr (va_cpy (fun j => cf G (hR σ a j)) (fun j => cf G (hR σ b j)) sp.toNat dp.toNat z.toNat))))) := by
    rw [← e5, ← e6, ← e7, vp_cell_q, vp_cell_q, vp_cell_q]
    exact va_copied (fun z => va_rf z) (G.2.1 kd) (G.2.1 kd) _ _ (by rw [e5, e7]; omega)
  rw [e1] at X' step
  have ec : ce G (cR σ a sp.toNat b dp.toNat z.toNat) b = .inl (G.2.1 kd, N1, .inr (.inr (.inr (.inr (va_cpy (fun j => cf G (hR σ a j)) (fun j => cf G (hR σ b j)) sp.toNat dp.toNat z.toNat))))) := by
    rw [ce_ref (σ := cR σ a sp.toNat b dp.toNat z.toNat) hkb hkd.1]
    congr 7
    funext i
    simp only [cR, hR, va_cpy, true_and]
    split <;> rfl
  have hl : gB G + b < H.size := by rw [hR0.1]; omega
  generalize hcell : vp_cell (G.2.1 kd) (N1, .inr (.inr (.inr (.inr (va_cpy (fun j => cf G (hR σ a j)) (fun j => cf G (hR σ b j)) sp.toNat dp.toNat z.toNat))))) = cell9 at X' step
  have hheap : ((T.setVm vm').setCell (gB G + b) cell9).heap = H.setIfInBounds (gB G + b) cell9 := by rw [← hT]; rfl
  obtain ⟨t, a1, b1⟩ := kk p l e R s m args below meth c QM mc ms C hfr hlo hmc hms hret _ _ cells slots lsC (rep_upd (H' := H.setIfInBounds (gB G + b) cell9) hR0 hltb rfl rfl (fun b9 hb9 => ⟨rfl, by funext i; simp [cR, hR, hb9]⟩) (by
      rw [ec]
      show (H.setIfInBounds _ _)[gB G + b]? = some _
      rw [hcell]
      simp [Array.getElem?_setIfInBounds, hl]) (by simp) (fun q hq => by simp [Array.getElem?_setIfInBounds, Ne.symm hq]) (fun x hx => by
      obtain ⟨z9, -, hz9⟩ := List.mem_map.mp hx
      rw [← hz9])) hL h1 h2 _ hheap X'
  exact ⟨t, step t a1, b1⟩
theorem ar_max {idx : Nat} {x y : Int} (q : Nat) (hq : pc + 3 = q) (hd : decode (bc M) pc = .ok (.invokestatic idx, 3)) (hw : Cond.methodLink M.1.cls idx Lib.Math.max.name ∈ gT ∧ Cond.static Lib.Math.max.name ∈ gT ∧ Cond.initialized "java/lang/Math" ∈ gT ∧ Cond.code Lib.Math.max.name Lib.Math.max.code 2 (some .int) ∈ gT) (hx : i32 x) (hy : i32 y) (hst : st.length ≤ 4) (hd1 : 1 ≤ d)
    (kk : WA G d k n M q ls (Vi (if x < y then y else x) :: st) σ Q) : WA G d k n M pc ls (Vi y :: Vi x :: st) σ Q := by
  subst hq
  intro p l e R s m args below meth c QM mc ms C hfr hlo hmc hms hret H locs cells slots lsC hR0 hL h1 h2
  have K := kk p l e R s m args below meth c QM mc ms C hfr hlo hmc hms hret H locs cells slots lsC hR0 hL h1 h2
  have hcat := cat_le G st
  refine va_mmax C.1 C.2.1 (by rw [C.2.2.2.1]; exact hL.1.symm) C.2.2.2.2.1 (C.2.2.2.2.2.1 _ hw.1) (C.2.2.2.2.2.1 _ hw.2.1) (C.2.2.2.2.2.1 _ hw.2.2.1) (C.2.2.2.2.2.1 _ hw.2.2.2) (by omega) (by omega) (by omega) (by omega) (x := Int32.ofInt x) (y := Int32.ofInt y) hd ?_
  have e : Value.int (if Int32.ofInt x < Int32.ofInt y then Int32.ofInt y else Int32.ofInt x) = cv G (Vi (if x < y then y else x)) := by
    simp only [o_lt hx hy]
    split <;> rfl
  rw [e]
  exact K
theorem ar_min {idx : Nat} {x y : Int} (q : Nat) (hq : pc + 3 = q) (hd : decode (bc M) pc = .ok (.invokestatic idx, 3)) (hw : Cond.methodLink M.1.cls idx Lib.Math.min.name ∈ gT ∧ Cond.static Lib.Math.min.name ∈ gT ∧ Cond.initialized "java/lang/Math" ∈ gT ∧ Cond.code Lib.Math.min.name Lib.Math.min.code 2 (some .int) ∈ gT) (hx : i32 x) (hy : i32 y) (hst : st.length ≤ 4) (hd1 : 1 ≤ d)
    (kk : WA G d k n M q ls (Vi (if y < x then y else x) :: st) σ Q) : WA G d k n M pc ls (Vi y :: Vi x :: st) σ Q := by
  subst hq
  intro p l e R s m args below meth c QM mc ms C hfr hlo hmc hms hret H locs cells slots lsC hR0 hL h1 h2
  have K := kk p l e R s m args below meth c QM mc ms C hfr hlo hmc hms hret H locs cells slots lsC hR0 hL h1 h2
  have hcat := cat_le G st
  refine va_mmin C.1 C.2.1 (by rw [C.2.2.2.1]; exact hL.1.symm) C.2.2.2.2.1 (C.2.2.2.2.2.1 _ hw.1) (C.2.2.2.2.2.1 _ hw.2.1) (C.2.2.2.2.2.1 _ hw.2.2.1) (C.2.2.2.2.2.1 _ hw.2.2.2) (by omega) (by omega) (by omega) (by omega) (x := Int32.ofInt x) (y := Int32.ofInt y) hd ?_
  have e : Value.int (if Int32.ofInt y < Int32.ofInt x then Int32.ofInt y else Int32.ofInt x) = cv G (Vi (if y < x then y else x)) := by
    simp only [o_lt hy hx]
    split <;> rfl
  rw [e]
  exact K
-- calls
theorem run_go {p : Program} {l : Launch} {e : Env} {R : Room} {s : State} {m : MethodId} {args : Array Value} {below : List Frame} {meth : Method} {c : Code} {H : Heap} {locs : List Loc} {cells slots k' n' : Nat} {QM : State → Prop} {lsC : Array Slot} {st0 : List Value} {rest : List AV} {a : Array Value} {Q' : Option AV → Sg → Prop}
    (hrun : va_Run p l e R s m args below meth c H locs cells slots k' n' (F0 m pc lsC st0) (rest.map (cv G)) (qA G Q' a) (fun q => gB G ≤ q)) (hR0 : RepS G σ s H locs)
    (kk : ∀ (v : Option AV) (σ' : Sg) (H' : Heap) (locs' : List Loc), Q' v σ' → RepS G σ' s H' locs' → W p l e R s m args below meth c H' locs' (cells + k') (slots + n') QM (F0 m (pc + 3) lsC ((v.toList ++ rest).map (cv G)))) : W p l e R s m args below meth c H locs cells slots QM (F0 m pc lsC st0) := by
  intro T hT X
  obtain ⟨v, st1, t, T', L, h0, X', hL, e1, e2, ⟨v', σ', hv, hQ, hRt, hz, hk⟩, st⟩ := hrun T hT X
  cases hv
  obtain ⟨t2, a1, b1⟩ := kk v' σ' T'.heap (locs ++ L) hQ (rep_call hR0 h0 hRt e1 hz hk hL) T' rfl X'
  refine ⟨t2, st t2 ?_, b1⟩
  have e9 : (Option.map (cv G) v').toList ++ List.map (cv G) rest = (v'.toList ++ rest).map (cv G) := by
    cases v' <;> simp
  rw [e9]
  exact a1
/-- a method of the tables: n0 parameters (without the receiver) -/
def mtB (M' : MM) (n0 : Nat) : Prop := Cond.code M'.1 (bc M') M'.2.2.1 M'.2.2.2 ∈ gT ∧ Cond.initialized M'.1.cls ∈ gT ∧ (M'.1.cls ≠ "java/lang/invoke/MethodHandle" ∧ M'.1.cls ≠ "java/lang/invoke/VarHandle" ∧ (parseMethodDescriptor M'.1.desc).map (fun d => d.parameters.length) = some n0) ∧ M'.2.2.1 ≤ 40 ∧ plainName M'.1.cls = true
def mtV (M' : MM) (n0 ci : Nat) : Prop := mtB M' n0 ∧ Cond.instanceMethod M'.1 ∈ gT ∧ Cond.selects M'.1.cls M'.1 M'.1 ∈ gT ∧ ci < 7 ∧ (cT ci).1 = M'.1.cls
def mtS (M' : MM) (n0 : Nat) : Prop := mtB M' n0 ∧ Cond.static M'.1 ∈ gT
def mtI (M' : MM) (n0 ci : Nat) : Prop := mtB M' n0 ∧ Cond.instanceMethod M'.1 ∈ gT ∧ M'.1.name = "<init>" ∧ M'.2.2.2 = none ∧ ci < 7
theorem wS_good {M' : MM} (h : Cond.code M'.1 (bc M') M'.2.2.1 M'.2.2.2 ∈ gT) : GoodIn gT (wS M') := by
  intro w hw
  rcases List.mem_cons.mp hw with rfl | hw
  · exact ⟨h, gT_good _ h⟩
  · exact ⟨hw, gT_good _ hw⟩
def nlk (o : String) (idx : Nat) (y : MethodName) : Prop := Cond.methodLinkNest o idx y RX5 ∈ tables_1
set_option maxHeartbeats 4000000 in
theorem ar_callV {M' : MM} {idx n0 ci b : Nat} {As rest ls' : List AV} (k1 n1 k2 n2 : Nat) (q : Nat) (hq : pc + 3 = q) (hd : decode (bc M) pc = .ok (.invokevirtual idx, 3)) (hl : Cond.methodLink M.1.cls idx M'.1 ∈ gT) (hm : mtV M' n0 ci) (hk : (sk σ b).1 = ci + 1) (hAs : As.length = n0) (hr : rest.length ≤ 4) (hE : prs G 0 ls' = lv_args 0 ((Va b :: As).map (cv G))) (hlen : (lg_sl ((Va b :: As).map (cv G))).length ≤ M'.2.2.1) (hd1 : 1 ≤ d) (hk2 : k1 + k2 ≤ k) (hn2 : n1 + n2 ≤ n)
    (kk : WA G (d - 1) k1 n1 M' 0 ls' [] σ (fun v σ' => WA G d k2 n2 M q ls (v.toList ++ rest) σ' Q)) : WA G d k n M pc ls (As.reverse ++ Va b :: rest) σ Q := by
  subst hq
  intro p l e R s m args below meth c QM mc ms C hfr hlo hmc hms hret H locs cells slots lsC hR0 hL h1 h2
  have hcat := cat_le G rest
  have hroom : (d - 1) + 1 ≤ R.frames ∧ 8 + (M'.2.2.1 + 11) + 64 * (d - 1) ≤ R.locals := by
    have := hm.1.2.2.2.1
    omega
  have hw := wl_get G (rep_lto hR0 hk)
  rw [ce_obj hk hm.2.2.2.1] at hw
  have hrecv := va_recv hR0.2.2.2.2.1 hR0.2.1 (cls_at hm.2.2.2.1) hw
  rw [hm.2.2.2.2] at hrecv
  have hM := met_of (l := l) (G := G) (av := (Va b :: As)) hm.1.2.2.2.2 hE hlen kk
  have est : List.map (cv G) (As.reverse ++ Va b :: rest) = (As.map (cv G)).reverse ++ .ref (gB G + b) :: rest.map (cv G) := by simp [cv]
  rw [est]
  refine run_go (va_runV (As := As.map (cv G)) (rest := rest.map (cv G)) (b := gB G + b) ⟨C.1, C.2.1, C.2.2.2.1, C.2.2.2.2.1, C.2.2.2.2.2.1⟩ hM ⟨callB_of n0 C.2.2.2.2.2.1 (wS_good hm.1.1) rfl rfl rfl (C.2.2.2.2.2.1 _ hm.1.2.1) (C.2.2.2.2.2.1 _ hl) hm.1.2.2.1 hroom, C.2.2.2.2.2.1 _ hm.2.1, C.2.2.2.2.2.1 _ hm.2.2.1⟩ ⟨rep_blind, hrecv, fun U hU hW => ⟨rfl, rep_go hR0 hU hW⟩⟩ rfl (by simpa using hAs) hL.1 rfl (lv_room (by omega)) hd ⟨by omega, by omega⟩) hR0 (fun v σ' H' locs' hQ hR' => ?_)
  exact hQ p l e R s m args below meth c QM mc ms C hfr hlo hmc hms hret H' locs' (cells + k1) (slots + n1) lsC hR' hL (by omega) (by omega)
set_option maxHeartbeats 4000000 in
theorem ar_callS {M' : MM} {idx n0 : Nat} {As rest ls' : List AV} (k1 n1 k2 n2 : Nat) (q : Nat) (hq : pc + 3 = q) (hd : decode (bc M) pc = .ok (.invokestatic idx, 3)) (hl : Cond.methodLink M.1.cls idx M'.1 ∈ gT) (hm : mtS M' n0) (hAs : As.length = n0) (hr : rest.length ≤ 4) (hE : prs G 0 ls' = lv_args 0 (As.map (cv G))) (hlen : (lg_sl (As.map (cv G))).length ≤ M'.2.2.1) (hd1 : 1 ≤ d) (hk2 : k1 + k2 ≤ k) (hn2 : n1 + n2 ≤ n)
    (kk : WA G (d - 1) k1 n1 M' 0 ls' [] σ (fun v σ' => WA G d k2 n2 M q ls (v.toList ++ rest) σ' Q)) : WA G d k n M pc ls (As.reverse ++ rest) σ Q := by
  subst hq
  intro p l e R s m args below meth c QM mc ms C hfr hlo hmc hms hret H locs cells slots lsC hR0 hL h1 h2
  have hcat := cat_le G rest
  have hroom : (d - 1) + 1 ≤ R.frames ∧ 8 + (M'.2.2.1 + 11) + 64 * (d - 1) ≤ R.locals := by
    have := hm.1.2.2.2.1
    omega
  have hM := met_of (l := l) (G := G) (av := As) hm.1.2.2.2.2 hE hlen kk
  have est : List.map (cv G) (As.reverse ++ rest) = (As.map (cv G)).reverse ++ rest.map (cv G) := by simp [cv]
  rw [est]
  refine run_go (va_runS (As := As.map (cv G)) (rest := rest.map (cv G)) ⟨C.1, C.2.1, C.2.2.2.1, C.2.2.2.2.1, C.2.2.2.2.2.1⟩ hM ⟨callB_of n0 C.2.2.2.2.2.1 (wS_good hm.1.1) rfl rfl rfl (C.2.2.2.2.2.1 _ hm.1.2.1) (C.2.2.2.2.2.1 _ hl) hm.1.2.2.1 hroom, C.2.2.2.2.2.1 _ hm.2⟩ ⟨rep_blind, fun U hU hW => ⟨rfl, rep_go hR0 hU hW⟩⟩ rfl (by simpa using hAs) hL.1 rfl (lv_room (by omega)) hd ⟨by omega, by omega⟩) hR0 (fun v σ' H' locs' hQ hR' => ?_)
  exact hQ p l e R s m args below meth c QM mc ms C hfr hlo hmc hms hret H' locs' (cells + k1) (slots + n1) lsC hR' hL (by omega) (by omega)
set_option maxHeartbeats 4000000 in
theorem ar_callSN {M' : MM} {idx n0 : Nat} {As rest ls' : List AV} (k1 n1 k2 n2 : Nat) (q : Nat) (hq : pc + 3 = q) (hd : decode (bc M) pc = .ok (.invokestatic idx, 3)) (hl : nlk M.1.cls idx M'.1) (hm : mtS M' n0) (hAs : As.length = n0) (hr : rest.length ≤ 4) (hE : prs G 0 ls' = lv_args 0 (As.map (cv G))) (hlen : (lg_sl (As.map (cv G))).length ≤ M'.2.2.1) (hd1 : 1 ≤ d) (hk2 : k1 + k2 ≤ k) (hn2 : n1 + n2 ≤ n)
    (kk : WA G (d - 1) k1 n1 M' 0 ls' [] σ (fun v σ' => WA G d k2 n2 M q ls (v.toList ++ rest) σ' Q)) : WA G d k n M pc ls (As.reverse ++ rest) σ Q := by
  subst hq
  intro p l e R s m args below meth c QM mc ms C hfr hlo hmc hms hret H locs cells slots lsC hR0 hL h1 h2
  have hcat := cat_le G rest
  have hroom : (d - 1) + 1 ≤ R.frames ∧ 8 + (M'.2.2.1 + 11) + 64 * (d - 1) ≤ R.locals := by
    have := hm.1.2.2.2.1
    omega
  have hM := met_of (l := l) (G := G) (av := As) hm.1.2.2.2.2 hE hlen kk
  have est : List.map (cv G) (As.reverse ++ rest) = (As.map (cv G)).reverse ++ rest.map (cv G) := by simp [cv]
  rw [est]
  refine run_go (va_runSN (As := As.map (cv G)) (rest := rest.map (cv G)) ⟨C.1, C.2.1, C.2.2.2.1, C.2.2.2.2.1, C.2.2.2.2.2.1⟩ hM ⟨va_cnB n0 C.2.2.2.2.2.1 (wS_good hm.1.1) rfl rfl rfl (hR0.2.2.2.2.2.1.1 _ _ _ hl) (C.2.2.2.2.2.1 _ hm.1.2.1) hm.1.2.2.1 hroom, C.2.2.2.2.2.1 _ hm.2, trivial⟩ ⟨rep_blind, fun U hU hW => ⟨rfl, rep_go hR0 hU hW⟩⟩ rfl (by simpa using hAs) hL.1 rfl (lv_room (by omega)) hd ⟨by omega, by omega⟩) hR0 (fun v σ' H' locs' hQ hR' => ?_)
  exact hQ p l e R s m args below meth c QM mc ms C hfr hlo hmc hms hret H' locs' (cells + k1) (slots + n1) lsC hR' hL (by omega) (by omega)
set_option maxHeartbeats 4000000 in
theorem ar_callI {M' : MM} {idx n0 ci b : Nat} {As rest ls' : List AV} (k1 n1 k2 n2 : Nat) (q : Nat) (hq : pc + 3 = q) (hd : decode (bc M) pc = .ok (.invokespecial idx, 3)) (hl : Cond.methodLink M.1.cls idx M'.1 ∈ gT) (hm : mtI M' n0 ci) (hAs : As.length = n0) (hr : rest.length ≤ 4) (hE : prs G 0 ls' = lv_args 0 ((Va b :: As).map (cv G))) (hlen : (lg_sl ((Va b :: As).map (cv G))).length ≤ M'.2.2.1) (hd1 : 1 ≤ d) (hk2 : k1 + k2 ≤ k) (hn2 : n1 + n2 ≤ n)
    (kk : WA G (d - 1) k1 n1 M' 0 ls' [] σ (fun v σ' => WA G d k2 n2 M q ls (v.toList ++ rest) σ' Q)) : WA G d k n M pc ls (As.reverse ++ Va b :: rest) σ Q := by
  subst hq
  intro p l e R s m args below meth c QM mc ms C hfr hlo hmc hms hret H locs cells slots lsC hR0 hL h1 h2
  have hcat := cat_le G rest
  have hroom : (d - 1) + 1 ≤ R.frames ∧ 8 + (M'.2.2.1 + 11) + 64 * (d - 1) ≤ R.locals := by
    have := hm.1.2.2.2.1
    omega
  have hM := met_of (l := l) (G := G) (av := (Va b :: As)) hm.1.2.2.2.2 hE hlen kk
  have est : List.map (cv G) (As.reverse ++ Va b :: rest) = (As.map (cv G)).reverse ++ .ref (gB G + b) :: rest.map (cv G) := by simp [cv]
  rw [est]
  obtain ⟨M1, M2, M3, M4⟩ := M'
  have hm4 : M4 = none := hm.2.2.2.1
  subst hm4
  refine run_go (va_runI (As := As.map (cv G)) (rest := rest.map (cv G)) (b := gB G + b) ⟨C.1, C.2.1, C.2.2.2.1, C.2.2.2.2.1, C.2.2.2.2.2.1⟩ hM ⟨callB_of n0 C.2.2.2.2.2.1 (wS_good hm.1.1) rfl rfl rfl (C.2.2.2.2.2.1 _ hm.1.2.1) (C.2.2.2.2.2.1 _ hl) hm.1.2.2.1 hroom, hm.2.2.1, C.2.2.2.2.2.1 _ hm.2.1⟩ ⟨rep_blind, fun U hU hW => ⟨rfl, rep_go hR0 hU hW⟩⟩ rfl (by simpa using hAs) hL.1 rfl (lv_room (by omega)) hd ⟨by omega, by omega⟩) hR0 (fun v σ' H' locs' hQ hR' => ?_)
  exact hQ p l e R s m args below meth c QM mc ms C hfr hlo hmc hms hret H' locs' (cells + k1) (slots + n1) lsC hR' hL (by omega) (by omega)
set_option maxHeartbeats 4000000 in
theorem ar_callIN {M' : MM} {idx n0 ci b : Nat} {As rest ls' : List AV} (k1 n1 k2 n2 : Nat) (q : Nat) (hq : pc + 3 = q) (hd : decode (bc M) pc = .ok (.invokespecial idx, 3)) (hl : nlk M.1.cls idx M'.1) (hm : mtI M' n0 ci) (hAs : As.length = n0) (hr : rest.length ≤ 4) (hE : prs G 0 ls' = lv_args 0 ((Va b :: As).map (cv G))) (hlen : (lg_sl ((Va b :: As).map (cv G))).length ≤ M'.2.2.1) (hd1 : 1 ≤ d) (hk2 : k1 + k2 ≤ k) (hn2 : n1 + n2 ≤ n)
    (kk : WA G (d - 1) k1 n1 M' 0 ls' [] σ (fun v σ' => WA G d k2 n2 M q ls (v.toList ++ rest) σ' Q)) : WA G d k n M pc ls (As.reverse ++ Va b :: rest) σ Q := by
  subst hq
  intro p l e R s m args below meth c QM mc ms C hfr hlo hmc hms hret H locs cells slots lsC hR0 hL h1 h2
  have hcat := cat_le G rest
  have hroom : (d - 1) + 1 ≤ R.frames ∧ 8 + (M'.2.2.1 + 11) + 64 * (d - 1) ≤ R.locals := by
    have := hm.1.2.2.2.1
    omega
  have hM := met_of (l := l) (G := G) (av := (Va b :: As)) hm.1.2.2.2.2 hE hlen kk
  have est : List.map (cv G) (As.reverse ++ Va b :: rest) = (As.map (cv G)).reverse ++ .ref (gB G + b) :: rest.map (cv G) := by simp [cv]
  rw [est]
  obtain ⟨M1, M2, M3, M4⟩ := M'
  have hm4 : M4 = none := hm.2.2.2.1
  subst hm4
  refine run_go (va_runIN (As := As.map (cv G)) (rest := rest.map (cv G)) (b := gB G + b) ⟨C.1, C.2.1, C.2.2.2.1, C.2.2.2.2.1, C.2.2.2.2.2.1⟩ hM ⟨va_cnB n0 C.2.2.2.2.2.1 (wS_good hm.1.1) rfl rfl rfl (hR0.2.2.2.2.2.1.1 _ _ _ hl) (C.2.2.2.2.2.1 _ hm.1.2.1) hm.1.2.2.1 hroom, hm.2.2.1, C.2.2.2.2.2.1 _ hm.2.1⟩ ⟨rep_blind, fun U hU hW => ⟨rfl, rep_go hR0 hU hW⟩⟩ rfl (by simpa using hAs) hL.1 rfl (lv_room (by omega)) hd ⟨by omega, by omega⟩) hR0 (fun v σ' H' locs' hQ hR' => ?_)
  exact hQ p l e R s m args below meth c QM mc ms C hfr hlo hmc hms hret H' locs' (cells + k1) (slots + n1) lsC hR' hL (by omega) (by omega)
end CRows
end
section
theorem kl_L_7 : Cond.classLink RL 7 "LoafMemory" ∈ gT := gT_in 11 (by decide +kernel) rfl
theorem ml_L_9 : Cond.methodLink RL 9 yX5_init ∈ gT := gT_in 13 (by decide +kernel) rfl
theorem ml_X5_3 : Cond.methodLink RX5 3 objectInit ∈ gT := gT_in 16 (by decide +kernel) rfl
theorem kl_X5_13 : Cond.classLink RX5 13 "LoafMemory$State" ∈ gT := gT_in 19 (by decide +kernel) rfl
theorem ml_X5_15 : Cond.methodLink RX5 15 yX4_init ∈ gT := gT_in 21 (by decide +kernel) rfl
theorem ml_X4_3 : Cond.methodLink RX4 3 objectInit ∈ gT := gT_in 24 (by decide +kernel) rfl
theorem kl_X4_18 : Cond.classLink RX4 18 "LoafMemory$Recipe" ∈ gT := gT_in 25 (by decide +kernel) rfl
theorem kl_X4_24 : Cond.classLink RX4 24 "LoafMemory$Memory" ∈ gT := gT_in 27 (by decide +kernel) rfl
theorem ml_X4_36 : nlk RX4 36 yX1_init := List.mem_of_getElem? (i := 30) (by decide +kernel)
theorem ml_X1_3 : Cond.methodLink RX1 3 objectInit ∈ gT := gT_in 33 (by decide +kernel) rfl
theorem fl_X1_18 : FLk RX1 18 1 0 := ⟨by decide, by decide, gT_in 34 (by decide +kernel) rfl, rfl⟩
theorem fl_X4_70 : FLk RX4 70 1 0 := ⟨by decide, by decide, gT_in 35 (by decide +kernel) rfl, rfl⟩
theorem fl_X0_125 : FLk RX0 125 1 0 := ⟨by decide, by decide, gT_in 36 (by decide +kernel) rfl, rfl⟩
theorem fl_X5_149 : FLk RX5 149 1 0 := ⟨by decide, by decide, gT_in 37 (by decide +kernel) rfl, rfl⟩
theorem fl_X1_22 : FLk RX1 22 1 1 := ⟨by decide, by decide, gT_in 38 (by decide +kernel) rfl, rfl⟩
theorem fl_X0_92 : FLk RX0 92 1 1 := ⟨by decide, by decide, gT_in 39 (by decide +kernel) rfl, rfl⟩
theorem fl_X5_154 : FLk RX5 154 1 1 := ⟨by decide, by decide, gT_in 40 (by decide +kernel) rfl, rfl⟩
theorem fl_X1_25 : FLk RX1 25 1 2 := ⟨by decide, by decide, gT_in 41 (by decide +kernel) rfl, rfl⟩
theorem fl_X0_89 : FLk RX0 89 1 2 := ⟨by decide, by decide, gT_in 42 (by decide +kernel) rfl, rfl⟩
theorem fl_X5_160 : FLk RX5 160 1 2 := ⟨by decide, by decide, gT_in 43 (by decide +kernel) rfl, rfl⟩
theorem fl_X1_28 : FLk RX1 28 1 3 := ⟨by decide, by decide, gT_in 44 (by decide +kernel) rfl, rfl⟩
theorem fl_X4_76 : FLk RX4 76 1 3 := ⟨by decide, by decide, gT_in 45 (by decide +kernel) rfl, rfl⟩
theorem fl_X5_163 : FLk RX5 163 1 3 := ⟨by decide, by decide, gT_in 46 (by decide +kernel) rfl, rfl⟩
theorem fl_X1_31 : FLk RX1 31 1 4 := ⟨by decide, by decide, gT_in 47 (by decide +kernel) rfl, rfl⟩
theorem fl_X4_73 : FLk RX4 73 1 4 := ⟨by decide, by decide, gT_in 48 (by decide +kernel) rfl, rfl⟩
theorem fl_X0_131 : FLk RX0 131 1 4 := ⟨by decide, by decide, gT_in 49 (by decide +kernel) rfl, rfl⟩
theorem fl_X1_34 : FLk RX1 34 1 5 := ⟨by decide, by decide, gT_in 50 (by decide +kernel) rfl, rfl⟩
theorem fl_X0_119 : FLk RX0 119 1 5 := ⟨by decide, by decide, gT_in 51 (by decide +kernel) rfl, rfl⟩
theorem fl_X5_157 : FLk RX5 157 1 5 := ⟨by decide, by decide, gT_in 52 (by decide +kernel) rfl, rfl⟩
theorem fl_X1_9 : FLk RX1 9 1 6 := ⟨by decide, by decide, gT_in 53 (by decide +kernel) rfl, rfl⟩
theorem fl_X0_122 : FLk RX0 122 1 6 := ⟨by decide, by decide, gT_in 54 (by decide +kernel) rfl, rfl⟩
theorem fl_X5_166 : FLk RX5 166 1 6 := ⟨by decide, by decide, gT_in 55 (by decide +kernel) rfl, rfl⟩
theorem fl_X1_15 : FLk RX1 15 1 7 := ⟨by decide, by decide, gT_in 56 (by decide +kernel) rfl, rfl⟩
theorem fl_X0_134 : FLk RX0 134 1 7 := ⟨by decide, by decide, gT_in 57 (by decide +kernel) rfl, rfl⟩
theorem fl_X5_169 : FLk RX5 169 1 7 := ⟨by decide, by decide, gT_in 58 (by decide +kernel) rfl, rfl⟩
theorem fl_X4_9 : FLk RX4 9 4 0 := ⟨by decide, by decide, gT_in 77 (by decide +kernel) rfl, rfl⟩
theorem fl_X5_68 : FLk RX5 68 4 0 := ⟨by decide, by decide, gT_in 78 (by decide +kernel) rfl, rfl⟩
theorem fl_X0_147 : FLk RX0 147 4 0 := ⟨by decide, by decide, gT_in 79 (by decide +kernel) rfl, rfl⟩
theorem fl_X4_43 : FLk RX4 43 4 1 := ⟨by decide, by decide, gT_in 80 (by decide +kernel) rfl, rfl⟩
theorem fl_X5_71 : FLk RX5 71 4 1 := ⟨by decide, by decide, gT_in 81 (by decide +kernel) rfl, rfl⟩
theorem fl_X0_141 : FLk RX0 141 4 1 := ⟨by decide, by decide, gT_in 82 (by decide +kernel) rfl, rfl⟩
theorem fl_X4_15 : FLk RX4 15 4 2 := ⟨by decide, by decide, gT_in 83 (by decide +kernel) rfl, rfl⟩
theorem fl_X5_55 : FLk RX5 55 4 2 := ⟨by decide, by decide, gT_in 84 (by decide +kernel) rfl, rfl⟩
theorem fl_X0_101 : FLk RX0 101 4 2 := ⟨by decide, by decide, gT_in 85 (by decide +kernel) rfl, rfl⟩
theorem fl_X4_20 : FLk RX4 20 4 3 := ⟨by decide, by decide, gT_in 86 (by decide +kernel) rfl, rfl⟩
theorem fl_X0_60 : FLk RX0 60 4 3 := ⟨by decide, by decide, gT_in 87 (by decide +kernel) rfl, rfl⟩
theorem fl_X5_116 : FLk RX5 116 4 3 := ⟨by decide, by decide, gT_in 88 (by decide +kernel) rfl, rfl⟩
theorem fl_X4_26 : FLk RX4 26 4 4 := ⟨by decide, by decide, gT_in 89 (by decide +kernel) rfl, rfl⟩
theorem fl_X0_76 : FLk RX0 76 4 4 := ⟨by decide, by decide, gT_in 90 (by decide +kernel) rfl, rfl⟩
theorem fl_X5_145 : FLk RX5 145 4 4 := ⟨by decide, by decide, gT_in 91 (by decide +kernel) rfl, rfl⟩
theorem fl_X4_47 : FLk RX4 47 4 5 := ⟨by decide, by decide, gT_in 92 (by decide +kernel) rfl, rfl⟩
theorem fl_X5_93 : FLk RX5 93 4 5 := ⟨by decide, by decide, gT_in 93 (by decide +kernel) rfl, rfl⟩
theorem fl_X4_54 : FLk RX4 54 4 6 := ⟨by decide, by decide, gT_in 94 (by decide +kernel) rfl, rfl⟩
theorem fl_X4_30 : FLk RX4 30 4 7 := ⟨by decide, by decide, gT_in 95 (by decide +kernel) rfl, rfl⟩
theorem fl_X0_95 : FLk RX0 95 4 7 := ⟨by decide, by decide, gT_in 96 (by decide +kernel) rfl, rfl⟩
theorem fl_X5_136 : FLk RX5 136 4 7 := ⟨by decide, by decide, gT_in 97 (by decide +kernel) rfl, rfl⟩
theorem fl_X4_33 : FLk RX4 33 4 8 := ⟨by decide, by decide, gT_in 98 (by decide +kernel) rfl, rfl⟩
theorem fl_X0_83 : FLk RX0 83 4 8 := ⟨by decide, by decide, gT_in 99 (by decide +kernel) rfl, rfl⟩
theorem fl_X5_139 : FLk RX5 139 4 8 := ⟨by decide, by decide, gT_in 100 (by decide +kernel) rfl, rfl⟩
theorem fl_X4_57 : FLk RX4 57 4 9 := ⟨by decide, by decide, gT_in 101 (by decide +kernel) rfl, rfl⟩
theorem fl_X0_98 : FLk RX0 98 4 9 := ⟨by decide, by decide, gT_in 102 (by decide +kernel) rfl, rfl⟩
theorem fl_X5_172 : FLk RX5 172 4 9 := ⟨by decide, by decide, gT_in 103 (by decide +kernel) rfl, rfl⟩
theorem fl_X4_60 : FLk RX4 60 4 10 := ⟨by decide, by decide, gT_in 104 (by decide +kernel) rfl, rfl⟩
theorem fl_X0_86 : FLk RX0 86 4 10 := ⟨by decide, by decide, gT_in 105 (by decide +kernel) rfl, rfl⟩
theorem fl_X5_175 : FLk RX5 175 4 10 := ⟨by decide, by decide, gT_in 106 (by decide +kernel) rfl, rfl⟩
theorem kl_X5_34 : Cond.classLink RX5 34 "LoafMemory$Baker" ∈ gT := gT_in 131 (by decide +kernel) rfl
theorem ml_X5_36 : Cond.methodLink RX5 36 yX0_init ∈ gT := gT_in 133 (by decide +kernel) rfl
theorem ml_X0_3 : Cond.methodLink RX0 3 objectInit ∈ gT := gT_in 136 (by decide +kernel) rfl
theorem kl_X0_15 : Cond.classLink RX0 15 "LoafMemory$Memory" ∈ gT := gT_in 137 (by decide +kernel) rfl
theorem kl_X0_21 : Cond.classLink RX0 21 "[[I" ∈ gT := gT_in 138 (by decide +kernel) rfl
theorem ml_X0_29 : nlk RX0 29 yX1_init := List.mem_of_getElem? (i := 140) (by decide +kernel)
theorem fl_X0_46 : FLk RX0 46 0 0 := ⟨by decide, by decide, gT_in 141 (by decide +kernel) rfl, rfl⟩
theorem fl_X0_50 : FLk RX0 50 0 1 := ⟨by decide, by decide, gT_in 142 (by decide +kernel) rfl, rfl⟩
theorem fl_X0_38 : FLk RX0 38 0 2 := ⟨by decide, by decide, gT_in 143 (by decide +kernel) rfl, rfl⟩
theorem fl_X0_9 : FLk RX0 9 0 3 := ⟨by decide, by decide, gT_in 144 (by decide +kernel) rfl, rfl⟩
theorem fl_X0_17 : FLk RX0 17 0 4 := ⟨by decide, by decide, gT_in 145 (by decide +kernel) rfl, rfl⟩
theorem fl_X0_23 : FLk RX0 23 0 5 := ⟨by decide, by decide, gT_in 146 (by decide +kernel) rfl, rfl⟩
theorem fl_X0_26 : FLk RX0 26 0 6 := ⟨by decide, by decide, gT_in 147 (by decide +kernel) rfl, rfl⟩
theorem kl_X5_41 : Cond.classLink RX5 41 "LoafMemory$Reader" ∈ gT := gT_in 164 (by decide +kernel) rfl
theorem ml_X5_43 : nlk RX5 43 yX2_init := List.mem_of_getElem? (i := 166) (by decide +kernel)
theorem ml_X2_3 : Cond.methodLink RX2 3 objectInit ∈ gT := gT_in 169 (by decide +kernel) rfl
theorem fl_X2_9 : FLk RX2 9 2 0 := ⟨by decide, by decide, gT_in 170 (by decide +kernel) rfl, rfl⟩
theorem fl_X3_16 : FLk RX3 16 2 0 := ⟨by decide, by decide, gT_in 171 (by decide +kernel) rfl, rfl⟩
theorem fl_X2_15 : FLk RX2 15 2 1 := ⟨by decide, by decide, gT_in 172 (by decide +kernel) rfl, rfl⟩
theorem fl_X3_27 : FLk RX3 27 2 1 := ⟨by decide, by decide, gT_in 173 (by decide +kernel) rfl, rfl⟩
theorem fl_X3_7 : FLk RX3 7 2 2 := ⟨by decide, by decide, gT_in 174 (by decide +kernel) rfl, rfl⟩
theorem fl_X2_43 : FLk RX2 43 2 2 := ⟨by decide, by decide, gT_in 175 (by decide +kernel) rfl, rfl⟩
theorem fl_X3_31 : FLk RX3 31 2 3 := ⟨by decide, by decide, gT_in 176 (by decide +kernel) rfl, rfl⟩
theorem fl_X2_46 : FLk RX2 46 2 3 := ⟨by decide, by decide, gT_in 177 (by decide +kernel) rfl, rfl⟩
theorem fl_X3_35 : FLk RX3 35 2 4 := ⟨by decide, by decide, gT_in 178 (by decide +kernel) rfl, rfl⟩
theorem fl_X2_49 : FLk RX2 49 2 4 := ⟨by decide, by decide, gT_in 179 (by decide +kernel) rfl, rfl⟩
theorem fl_X3_39 : FLk RX3 39 2 5 := ⟨by decide, by decide, gT_in 180 (by decide +kernel) rfl, rfl⟩
theorem fl_X2_52 : FLk RX2 52 2 5 := ⟨by decide, by decide, gT_in 181 (by decide +kernel) rfl, rfl⟩
theorem fl_X5_109 : FLk RX5 109 2 5 := ⟨by decide, by decide, gT_in 182 (by decide +kernel) rfl, rfl⟩
theorem fl_X2_31 : FLk RX2 31 2 6 := ⟨by decide, by decide, gT_in 183 (by decide +kernel) rfl, rfl⟩
theorem fl_X2_18 : FLk RX2 18 2 7 := ⟨by decide, by decide, gT_in 184 (by decide +kernel) rfl, rfl⟩
theorem fl_X2_21 : FLk RX2 21 2 8 := ⟨by decide, by decide, gT_in 185 (by decide +kernel) rfl, rfl⟩
theorem fl_X2_35 : FLk RX2 35 2 9 := ⟨by decide, by decide, gT_in 186 (by decide +kernel) rfl, rfl⟩
theorem fl_X5_9 : FLk RX5 9 5 0 := ⟨by decide, by decide, gT_in 208 (by decide +kernel) rfl, rfl⟩
theorem fl_X5_100 : FLk RX5 100 5 1 := ⟨by decide, by decide, gT_in 209 (by decide +kernel) rfl, rfl⟩
theorem fl_X5_16 : FLk RX5 16 5 2 := ⟨by decide, by decide, gT_in 210 (by decide +kernel) rfl, rfl⟩
theorem fl_X5_20 : FLk RX5 20 5 3 := ⟨by decide, by decide, gT_in 211 (by decide +kernel) rfl, rfl⟩
theorem fl_X5_178 : FLk RX5 178 5 4 := ⟨by decide, by decide, gT_in 212 (by decide +kernel) rfl, rfl⟩
theorem fl_X5_24 : FLk RX5 24 5 5 := ⟨by decide, by decide, gT_in 213 (by decide +kernel) rfl, rfl⟩
theorem fl_X5_27 : FLk RX5 27 5 6 := ⟨by decide, by decide, gT_in 214 (by decide +kernel) rfl, rfl⟩
theorem fl_X5_31 : FLk RX5 31 5 7 := ⟨by decide, by decide, gT_in 215 (by decide +kernel) rfl, rfl⟩
theorem fl_X5_37 : FLk RX5 37 5 8 := ⟨by decide, by decide, gT_in 216 (by decide +kernel) rfl, rfl⟩
theorem fl_X5_44 : FLk RX5 44 5 9 := ⟨by decide, by decide, gT_in 217 (by decide +kernel) rfl, rfl⟩
theorem ml_L_13 : Cond.methodLink RL 13 yX5_set ∈ gT := gT_in 239 (by decide +kernel) rfl
theorem ml_X5_48 : Cond.methodLink RX5 48 yX5_isSettingValue ∈ gT := gT_in 243 (by decide +kernel) rfl
theorem ml_X5_52 : Cond.methodLink RX5 52 yX5_recordChange ∈ gT := gT_in 246 (by decide +kernel) rfl
theorem ml_X5_201 : Cond.methodLink RX5 201 yX5_dropOldestChange ∈ gT := gT_in 250 (by decide +kernel) rfl
theorem ml_X5_194 : Cond.methodLink RX5 194 yX4_copyFrom ∈ gT := gT_in 254 (by decide +kernel) rfl
theorem cp_X4_37 : cpW RX4 37 := ⟨gT_in 258 (by decide +kernel) rfl, gT_in 260 (by decide +kernel) rfl, gT_in 259 (by decide +kernel) rfl, gT_in 7 (by decide +kernel) rfl⟩
theorem ml_X4_50 : Cond.methodLink RX4 50 yX1_copyFrom ∈ gT := gT_in 261 (by decide +kernel) rfl
theorem cp_X1_37 : cpW RX1 37 := ⟨gT_in 265 (by decide +kernel) rfl, gT_in 260 (by decide +kernel) rfl, gT_in 259 (by decide +kernel) rfl, gT_in 7 (by decide +kernel) rfl⟩
theorem ml_X5_58 : Cond.methodLink RX5 58 yX4_dropBeyondRoom ∈ gT := gT_in 266 (by decide +kernel) rfl
theorem ml_X4_86 : Cond.methodLink RX4 86 yX4_drop ∈ gT := gT_in 270 (by decide +kernel) rfl
theorem ml_L_18 : Cond.methodLink RL 18 yX5_put ∈ gT := gT_in 274 (by decide +kernel) rfl
theorem ml_X5_61 : Cond.methodLink RX5 61 yX5_isShelf ∈ gT := gT_in 278 (by decide +kernel) rfl
theorem ml_X5_65 : Cond.methodLink RX5 65 yX5_isNumber ∈ gT := gT_in 281 (by decide +kernel) rfl
theorem ml_L_22 : Cond.methodLink RL 22 yX5_poison ∈ gT := gT_in 284 (by decide +kernel) rfl
theorem ml_X5_75 : Cond.methodLink RX5 75 yX5_bitOf ∈ gT := gT_in 288 (by decide +kernel) rfl
theorem ml_L_26 : Cond.methodLink RL 26 yX5_ask ∈ gT := gT_in 291 (by decide +kernel) rfl
theorem ml_X5_79 : Cond.methodLink RX5 79 yX5_isLoaf ∈ gT := gT_in 295 (by decide +kernel) rfl
theorem ml_X5_82 : Cond.methodLink RX5 82 yX0_askedResult ∈ gT := gT_in 298 (by decide +kernel) rfl
theorem ml_X0_30 : Cond.methodLink RX0 30 yX0_begin ∈ gT := gT_in 302 (by decide +kernel) rfl
theorem ml_X0_54 : Cond.methodLink RX0 54 yJ7_fill_53178 ∈ gT := gT_in 306 (by decide +kernel) rfl
theorem ml_X0_34 : Cond.methodLink RX0 34 yX0_loafValue ∈ gT := gT_in 309 (by decide +kernel) rfl
theorem ml_X0_66 : Cond.methodLink RX0 66 yX0_freshValue ∈ gT := gT_in 313 (by decide +kernel) rfl
theorem ml_X0_73 : Cond.methodLink RX0 73 yX0_reckon ∈ gT := gT_in 317 (by decide +kernel) rfl
theorem ml_X0_157 : Cond.methodLink RX0 157 yX1_begin ∈ gT := gT_in 321 (by decide +kernel) rfl
theorem mx_X0_170 : Cond.methodLink RX0 170 Lib.Math.max.name ∈ gT ∧ Cond.static Lib.Math.max.name ∈ gT ∧ Cond.initialized "java/lang/Math" ∈ gT ∧ Cond.code Lib.Math.max.name Lib.Math.max.code 2 (some .int) ∈ gT := ⟨gT_in 325 (by decide +kernel) rfl, gT_in 326 (by decide +kernel) rfl, gT_in 9 (by decide +kernel) rfl, gT_in 327 (by decide +kernel) rfl⟩
theorem ml_X0_175 : Cond.methodLink RX0 175 yX0_lookedUp ∈ gT := gT_in 328 (by decide +kernel) rfl
theorem ml_X0_150 : Cond.methodLink RX0 150 yX1_placeOfLook ∈ gT := gT_in 332 (by decide +kernel) rfl
theorem ml_X0_137 : nlk RX0 137 yX5_isShelf := List.mem_of_getElem? (i := 336) (by decide +kernel)
theorem ml_X0_128 : Cond.methodLink RX0 128 yX0_valueNow ∈ gT := gT_in 337 (by decide +kernel) rfl
theorem ml_X0_144 : nlk RX0 144 yX5_bitOf := List.mem_of_getElem? (i := 341) (by decide +kernel)
theorem ml_X0_153 : Cond.methodLink RX0 153 yX1_addLook ∈ gT := gT_in 342 (by decide +kernel) rfl
theorem ml_X0_179 : Cond.methodLink RX0 179 yX0_joined ∈ gT := gT_in 346 (by decide +kernel) rfl
theorem ml_X0_70 : Cond.methodLink RX0 70 yX0_rememberedValue ∈ gT := gT_in 349 (by decide +kernel) rfl
theorem ml_X0_42 : Cond.methodLink RX0 42 yX0_fittingMemory ∈ gT := gT_in 353 (by decide +kernel) rfl
theorem ml_X0_108 : Cond.methodLink RX0 108 yX4_serialsOf ∈ gT := gT_in 357 (by decide +kernel) rfl
theorem ml_X0_112 : Cond.methodLink RX0 112 yX4_placeOfSerial ∈ gT := gT_in 361 (by decide +kernel) rfl
theorem ml_X0_115 : Cond.methodLink RX0 115 yX0_isAsItWas ∈ gT := gT_in 365 (by decide +kernel) rfl
theorem ml_X0_79 : Cond.methodLink RX0 79 yX4_use ∈ gT := gT_in 369 (by decide +kernel) rfl
theorem ml_X0_104 : Cond.methodLink RX0 104 yX4_keepMemory ∈ gT := gT_in 373 (by decide +kernel) rfl
theorem ml_X4_79 : Cond.methodLink RX4 79 yX4_use ∈ gT := gT_in 377 (by decide +kernel) rfl
theorem ml_X4_83 : Cond.methodLink RX4 83 yX4_dropBeyondRoom ∈ gT := gT_in 378 (by decide +kernel) rfl
theorem ml_L_31 : Cond.methodLink RL 31 yX5_forget ∈ gT := gT_in 379 (by decide +kernel) rfl
theorem ml_X5_86 : Cond.methodLink RX5 86 yX5_isMemory ∈ gT := gT_in 383 (by decide +kernel) rfl
theorem ml_X5_89 : Cond.methodLink RX5 89 yX4_drop ∈ gT := gT_in 387 (by decide +kernel) rfl
theorem ml_L_37 : Cond.methodLink RL 37 yX5_type ∈ gT := gT_in 388 (by decide +kernel) rfl
theorem ml_X5_96 : Cond.methodLink RX5 96 yX5_lengthOfText ∈ gT := gT_in 392 (by decide +kernel) rfl
theorem lc_X5_103 : Cond.constantLong RX5 103 255 ∈ gT := gT_in 395 (by decide +kernel) rfl
theorem ml_L_42 : Cond.methodLink RL 42 yX5_wipe ∈ gT := gT_in 396 (by decide +kernel) rfl
theorem ml_L_47 : Cond.methodLink RL 47 yX5_fault ∈ gT := gT_in 400 (by decide +kernel) rfl
theorem ml_X5_105 : Cond.methodLink RX5 105 yX2_firstFault ∈ gT := gT_in 404 (by decide +kernel) rfl
theorem ml_X2_24 : Cond.methodLink RX2 24 yX2_begin ∈ gT := gT_in 408 (by decide +kernel) rfl
theorem ml_X2_27 : Cond.methodLink RX2 27 yX2_takes ∈ gT := gT_in 412 (by decide +kernel) rfl
theorem ml_X2_55 : Cond.methodLink RX2 55 yX2_takesStart ∈ gT := gT_in 416 (by decide +kernel) rfl
theorem ml_X2_70 : Cond.methodLink RX2 70 yX2_opens ∈ gT := gT_in 420 (by decide +kernel) rfl
theorem ml_X2_61 : Cond.methodLink RX2 61 yX2_isDigit ∈ gT := gT_in 424 (by decide +kernel) rfl
theorem ml_X2_73 : Cond.methodLink RX2 73 yX2_addsPart ∈ gT := gT_in 427 (by decide +kernel) rfl
theorem ml_X2_102 : Cond.methodLink RX2 102 yX2_adds ∈ gT := gT_in 431 (by decide +kernel) rfl
theorem ml_X2_77 : nlk RX2 77 yX5_isShelf := List.mem_of_getElem? (i := 435) (by decide +kernel)
theorem ml_X2_58 : Cond.methodLink RX2 58 yX2_takesLoafDigit ∈ gT := gT_in 436 (by decide +kernel) rfl
theorem ml_X2_64 : Cond.methodLink RX2 64 yX2_takesNextDigit ∈ gT := gT_in 440 (by decide +kernel) rfl
theorem ml_X2_80 : nlk RX2 80 yX5_isNumber := List.mem_of_getElem? (i := 444) (by decide +kernel)
theorem ml_X2_67 : Cond.methodLink RX2 67 yX2_takesAfterRecipe ∈ gT := gT_in 445 (by decide +kernel) rfl
theorem ml_X2_83 : Cond.methodLink RX2 83 yX2_takesOperation ∈ gT := gT_in 449 (by decide +kernel) rfl
theorem ml_X2_99 : Cond.methodLink RX2 99 yX2_waitsNext ∈ gT := gT_in 453 (by decide +kernel) rfl
theorem ml_X2_86 : Cond.methodLink RX2 86 yX2_takesQuestion ∈ gT := gT_in 457 (by decide +kernel) rfl
theorem ml_X2_90 : Cond.methodLink RX2 90 yX2_takesColon ∈ gT := gT_in 461 (by decide +kernel) rfl
theorem ml_X2_105 : Cond.methodLink RX2 105 yX2_closesEnd ∈ gT := gT_in 465 (by decide +kernel) rfl
theorem ml_X2_93 : Cond.methodLink RX2 93 yX2_takesBrace ∈ gT := gT_in 469 (by decide +kernel) rfl
theorem ml_X2_96 : Cond.methodLink RX2 96 yX2_takesBracket ∈ gT := gT_in 473 (by decide +kernel) rfl
theorem ml_L_51 : Cond.methodLink RL 51 yX5_recipe ∈ gT := gT_in 477 (by decide +kernel) rfl
theorem ml_X5_112 : Cond.methodLink RX5 112 yX2_recipeRead ∈ gT := gT_in 481 (by decide +kernel) rfl
theorem kl_X2_38 : Cond.classLink RX2 38 "LoafMemory$Recipe" ∈ gT := gT_in 485 (by decide +kernel) rfl
theorem ml_X2_40 : Cond.methodLink RX2 40 yX3_init ∈ gT := gT_in 487 (by decide +kernel) rfl
theorem ml_X3_1 : Cond.methodLink RX3 1 objectInit ∈ gT := gT_in 490 (by decide +kernel) rfl
theorem ml_X3_20 : Cond.methodLink RX3 20 yJ7_copyOf_59c91 ∈ gT := gT_in 491 (by decide +kernel) rfl
theorem kl_J7_317 : Cond.classLink RJ7 317 "[I" ∈ gT := gT_in 500 (by decide +kernel) rfl
theorem mx_J7_304 : Cond.methodLink RJ7 304 Lib.Math.min.name ∈ gT ∧ Cond.static Lib.Math.min.name ∈ gT ∧ Cond.initialized "java/lang/Math" ∈ gT ∧ Cond.code Lib.Math.min.name Lib.Math.min.code 2 (some .int) ∈ gT := ⟨gT_in 501 (by decide +kernel) rfl, gT_in 502 (by decide +kernel) rfl, gT_in 9 (by decide +kernel) rfl, gT_in 503 (by decide +kernel) rfl⟩
theorem cp_J7_150 : cpW RJ7 150 := ⟨gT_in 504 (by decide +kernel) rfl, gT_in 260 (by decide +kernel) rfl, gT_in 259 (by decide +kernel) rfl, gT_in 7 (by decide +kernel) rfl⟩
theorem fl_X3_26 : FLk RX3 26 3 0 := ⟨by decide, by decide, gT_in 505 (by decide +kernel) rfl, rfl⟩
theorem fl_X0_164 : FLk RX0 164 3 0 := ⟨by decide, by decide, gT_in 506 (by decide +kernel) rfl, rfl⟩
theorem fl_X3_30 : FLk RX3 30 3 1 := ⟨by decide, by decide, gT_in 507 (by decide +kernel) rfl, rfl⟩
theorem fl_X0_167 : FLk RX0 167 3 1 := ⟨by decide, by decide, gT_in 508 (by decide +kernel) rfl, rfl⟩
theorem fl_X3_13 : FLk RX3 13 3 2 := ⟨by decide, by decide, gT_in 509 (by decide +kernel) rfl, rfl⟩
theorem fl_X0_159 : FLk RX0 159 3 2 := ⟨by decide, by decide, gT_in 510 (by decide +kernel) rfl, rfl⟩
theorem fl_X3_34 : FLk RX3 34 3 3 := ⟨by decide, by decide, gT_in 511 (by decide +kernel) rfl, rfl⟩
theorem fl_X5_123 : FLk RX5 123 3 3 := ⟨by decide, by decide, gT_in 512 (by decide +kernel) rfl, rfl⟩
theorem fl_X3_38 : FLk RX3 38 3 4 := ⟨by decide, by decide, gT_in 513 (by decide +kernel) rfl, rfl⟩
theorem fl_X4_63 : FLk RX4 63 3 4 := ⟨by decide, by decide, gT_in 514 (by decide +kernel) rfl, rfl⟩
theorem fl_X5_132 : FLk RX5 132 3 4 := ⟨by decide, by decide, gT_in 515 (by decide +kernel) rfl, rfl⟩
theorem fl_X3_42 : FLk RX3 42 3 5 := ⟨by decide, by decide, gT_in 516 (by decide +kernel) rfl, rfl⟩
theorem fl_X5_135 : FLk RX5 135 3 5 := ⟨by decide, by decide, gT_in 517 (by decide +kernel) rfl, rfl⟩
theorem ml_X5_120 : Cond.methodLink RX5 120 yX4_dropAllOf ∈ gT := gT_in 531 (by decide +kernel) rfl
theorem ml_L_55 : Cond.methodLink RL 55 yX5_ofShelf ∈ gT := gT_in 535 (by decide +kernel) rfl
theorem ml_X5_128 : Cond.methodLink RX5 128 yX4_loavesNaming ∈ gT := gT_in 539 (by decide +kernel) rfl
theorem ml_X4_66 : nlk RX4 66 yX5_bitOf := List.mem_of_getElem? (i := 543) (by decide +kernel)
theorem ml_L_59 : Cond.methodLink RL 59 yX5_ofLoaf ∈ gT := gT_in 544 (by decide +kernel) rfl
theorem ml_X5_142 : Cond.methodLink RX5 142 yX4_memoriesOf ∈ gT := gT_in 548 (by decide +kernel) rfl
theorem ml_L_63 : Cond.methodLink RL 63 yX5_ofMemory ∈ gT := gT_in 552 (by decide +kernel) rfl
theorem ml_L_67 : Cond.methodLink RL 67 yX5_look ∈ gT := gT_in 556 (by decide +kernel) rfl
theorem ml_L_72 : Cond.methodLink RL 72 yX5_count ∈ gT := gT_in 560 (by decide +kernel) rfl
theorem ml_X5_181 : Cond.methodLink RX5 181 yX4_loavesWithRecipe ∈ gT := gT_in 564 (by decide +kernel) rfl
theorem ml_L_76 : Cond.methodLink RL 76 yX5_fresh ∈ gT := gT_in 568 (by decide +kernel) rfl
theorem ml_X5_185 : Cond.methodLink RX5 185 yX0_freshResult ∈ gT := gT_in 572 (by decide +kernel) rfl
theorem ml_L_80 : Cond.methodLink RL 80 yX5_fits ∈ gT := gT_in 576 (by decide +kernel) rfl
theorem ml_X5_188 : Cond.methodLink RX5 188 yX0_fittingPlace ∈ gT := gT_in 580 (by decide +kernel) rfl
theorem ml_L_84 : Cond.methodLink RL 84 yX5_looksAt ∈ gT := gT_in 584 (by decide +kernel) rfl
theorem ml_X5_191 : Cond.methodLink RX5 191 yX0_shelvesOfFresh ∈ gT := gT_in 588 (by decide +kernel) rfl
theorem ml_L_88 : Cond.methodLink RL 88 yX5_changes ∈ gT := gT_in 592 (by decide +kernel) rfl
theorem ml_L_92 : Cond.methodLink RL 92 yX5_numberFor ∈ gT := gT_in 596 (by decide +kernel) rfl
theorem ml_L_96 : Cond.methodLink RL 96 yX5_stepsFor ∈ gT := gT_in 600 (by decide +kernel) rfl
theorem ml_L_100 : Cond.methodLink RL 100 yX5_undo ∈ gT := gT_in 604 (by decide +kernel) rfl
theorem ml_L_104 : Cond.methodLink RL 104 yX5_save ∈ gT := gT_in 608 (by decide +kernel) rfl
theorem ml_X5_198 : Cond.methodLink RX5 198 yX5_isSlot ∈ gT := gT_in 612 (by decide +kernel) rfl
theorem ml_L_108 : Cond.methodLink RL 108 yX5_restore ∈ gT := gT_in 615 (by decide +kernel) rfl
theorem kl_L_10 : Cond.classLink RL 10 "LoafMemoryModel" ∈ gT := gT_in 619 (by decide +kernel) rfl
theorem ml_L_12 : Cond.methodLink RL 12 yX6_init ∈ gT := gT_in 621 (by decide +kernel) rfl
theorem ml_X6_1 : Cond.methodLink RX6 1 objectInit ∈ gT := gT_in 624 (by decide +kernel) rfl
theorem fl_X6_7 : FLk RX6 7 6 0 := ⟨by decide, by decide, gT_in 625 (by decide +kernel) rfl, rfl⟩
theorem fl_X6_13 : FLk RX6 13 6 1 := ⟨by decide, by decide, gT_in 626 (by decide +kernel) rfl, rfl⟩
theorem fl_X6_16 : FLk RX6 16 6 2 := ⟨by decide, by decide, gT_in 627 (by decide +kernel) rfl, rfl⟩
theorem fl_X6_216 : FLk RX6 216 6 3 := ⟨by decide, by decide, gT_in 628 (by decide +kernel) rfl, rfl⟩
theorem fl_X6_19 : FLk RX6 19 6 4 := ⟨by decide, by decide, gT_in 629 (by decide +kernel) rfl, rfl⟩
theorem fl_X6_22 : FLk RX6 22 6 5 := ⟨by decide, by decide, gT_in 630 (by decide +kernel) rfl, rfl⟩
theorem fl_X6_26 : FLk RX6 26 6 6 := ⟨by decide, by decide, gT_in 631 (by decide +kernel) rfl, rfl⟩
theorem fl_X6_101 : FLk RX6 101 6 7 := ⟨by decide, by decide, gT_in 632 (by decide +kernel) rfl, rfl⟩
theorem fl_X6_29 : FLk RX6 29 6 8 := ⟨by decide, by decide, gT_in 633 (by decide +kernel) rfl, rfl⟩
theorem fl_X6_32 : FLk RX6 32 6 9 := ⟨by decide, by decide, gT_in 634 (by decide +kernel) rfl, rfl⟩
theorem fl_X6_104 : FLk RX6 104 6 10 := ⟨by decide, by decide, gT_in 635 (by decide +kernel) rfl, rfl⟩
theorem fl_X6_35 : FLk RX6 35 6 11 := ⟨by decide, by decide, gT_in 636 (by decide +kernel) rfl, rfl⟩
theorem fl_X6_38 : FLk RX6 38 6 12 := ⟨by decide, by decide, gT_in 637 (by decide +kernel) rfl, rfl⟩
theorem fl_X6_107 : FLk RX6 107 6 13 := ⟨by decide, by decide, gT_in 638 (by decide +kernel) rfl, rfl⟩
theorem fl_X6_97 : FLk RX6 97 6 14 := ⟨by decide, by decide, gT_in 639 (by decide +kernel) rfl, rfl⟩
theorem fl_X6_41 : FLk RX6 41 6 15 := ⟨by decide, by decide, gT_in 640 (by decide +kernel) rfl, rfl⟩
theorem fl_X6_44 : FLk RX6 44 6 16 := ⟨by decide, by decide, gT_in 641 (by decide +kernel) rfl, rfl⟩
theorem fl_X6_47 : FLk RX6 47 6 17 := ⟨by decide, by decide, gT_in 642 (by decide +kernel) rfl, rfl⟩
theorem fl_X6_50 : FLk RX6 50 6 18 := ⟨by decide, by decide, gT_in 643 (by decide +kernel) rfl, rfl⟩
theorem fl_X6_53 : FLk RX6 53 6 19 := ⟨by decide, by decide, gT_in 644 (by decide +kernel) rfl, rfl⟩
theorem fl_X6_56 : FLk RX6 56 6 20 := ⟨by decide, by decide, gT_in 645 (by decide +kernel) rfl, rfl⟩
theorem fl_X6_59 : FLk RX6 59 6 21 := ⟨by decide, by decide, gT_in 646 (by decide +kernel) rfl, rfl⟩
theorem fl_X6_62 : FLk RX6 62 6 22 := ⟨by decide, by decide, gT_in 647 (by decide +kernel) rfl, rfl⟩
theorem fl_X6_65 : FLk RX6 65 6 23 := ⟨by decide, by decide, gT_in 648 (by decide +kernel) rfl, rfl⟩
theorem fl_X6_68 : FLk RX6 68 6 24 := ⟨by decide, by decide, gT_in 649 (by decide +kernel) rfl, rfl⟩
theorem fl_X6_71 : FLk RX6 71 6 25 := ⟨by decide, by decide, gT_in 650 (by decide +kernel) rfl, rfl⟩
theorem fl_X6_74 : FLk RX6 74 6 26 := ⟨by decide, by decide, gT_in 651 (by decide +kernel) rfl, rfl⟩
theorem fl_X6_77 : FLk RX6 77 6 27 := ⟨by decide, by decide, gT_in 652 (by decide +kernel) rfl, rfl⟩
theorem fl_X6_80 : FLk RX6 80 6 28 := ⟨by decide, by decide, gT_in 653 (by decide +kernel) rfl, rfl⟩
theorem fl_X6_163 : FLk RX6 163 6 29 := ⟨by decide, by decide, gT_in 654 (by decide +kernel) rfl, rfl⟩
theorem fl_X6_169 : FLk RX6 169 6 30 := ⟨by decide, by decide, gT_in 655 (by decide +kernel) rfl, rfl⟩
theorem fl_X6_83 : FLk RX6 83 6 31 := ⟨by decide, by decide, gT_in 656 (by decide +kernel) rfl, rfl⟩
theorem fl_X6_86 : FLk RX6 86 6 32 := ⟨by decide, by decide, gT_in 657 (by decide +kernel) rfl, rfl⟩
theorem ml_L_41 : Cond.methodLink RL 41 yX6_type ∈ gT := gT_in 725 (by decide +kernel) rfl
theorem lc_X6_138 : Cond.constantLong RX6 138 255 ∈ gT := gT_in 729 (by decide +kernel) rfl
theorem lc_X6_140 : Cond.constantLong RX6 140 33 ∈ gT := gT_in 730 (by decide +kernel) rfl
theorem lc_X6_142 : Cond.constantLong RX6 142 126 ∈ gT := gT_in 731 (by decide +kernel) rfl
theorem ml_X6_91 : Cond.methodLink RX6 91 yX6_in ∈ gT := gT_in 732 (by decide +kernel) rfl
theorem ml_L_46 : Cond.methodLink RL 46 yX6_wipe ∈ gT := gT_in 735 (by decide +kernel) rfl
theorem ml_L_50 : Cond.methodLink RL 50 yX6_fault ∈ gT := gT_in 739 (by decide +kernel) rfl
theorem ml_X6_144 : Cond.methodLink RX6 144 yX6_compile ∈ gT := gT_in 743 (by decide +kernel) rfl
theorem ml_X6_131 : Cond.methodLink RX6 131 yX6_readSimple ∈ gT := gT_in 747 (by decide +kernel) rfl
theorem ml_X6_110 : Cond.methodLink RX6 110 yX6_sign ∈ gT := gT_in 751 (by decide +kernel) rfl
theorem ml_X6_114 : Cond.methodLink RX6 114 yX6_expect ∈ gT := gT_in 755 (by decide +kernel) rfl
theorem lc_X6_118 : Cond.constantLong RX6 118 97 ∈ gT := gT_in 759 (by decide +kernel) rfl
theorem lc_X6_120 : Cond.constantLong RX6 120 108 ∈ gT := gT_in 760 (by decide +kernel) rfl
theorem ml_X6_122 : Cond.methodLink RX6 122 yX6_lay ∈ gT := gT_in 761 (by decide +kernel) rfl
theorem lc_X6_125 : Cond.constantLong RX6 125 48 ∈ gT := gT_in 765 (by decide +kernel) rfl
theorem lc_X6_127 : Cond.constantLong RX6 127 52 ∈ gT := gT_in 766 (by decide +kernel) rfl
theorem lc_X6_129 : Cond.constantLong RX6 129 57 ∈ gT := gT_in 767 (by decide +kernel) rfl
theorem ml_X6_135 : Cond.methodLink RX6 135 yX6_goOut ∈ gT := gT_in 768 (by decide +kernel) rfl
theorem ml_L_17 : Cond.methodLink RL 17 yX6_set ∈ gT := gT_in 772 (by decide +kernel) rfl
theorem lc_X6_223 : Cond.constantLong RX6 223 16 ∈ gT := gT_in 776 (by decide +kernel) rfl
theorem ml_X6_225 : Cond.methodLink RX6 225 yX6_record ∈ gT := gT_in 777 (by decide +kernel) rfl
theorem ml_X6_219 : Cond.methodLink RX6 219 yX6_copyState ∈ gT := gT_in 781 (by decide +kernel) rfl
theorem ml_X6_179 : Cond.methodLink RX6 179 yX6_trim ∈ gT := gT_in 784 (by decide +kernel) rfl
theorem ml_L_21 : Cond.methodLink RL 21 yX6_put ∈ gT := gT_in 787 (by decide +kernel) rfl
theorem ml_X6_228 : Cond.methodLink RX6 228 yX6_isShelf ∈ gT := gT_in 791 (by decide +kernel) rfl
theorem lc_X6_89 : Cond.constantLong RX6 89 11 ∈ gT := gT_in 794 (by decide +kernel) rfl
theorem lc_X6_232 : Cond.constantLong RX6 232 99 ∈ gT := gT_in 795 (by decide +kernel) rfl
theorem ml_L_25 : Cond.methodLink RL 25 yX6_poison ∈ gT := gT_in 796 (by decide +kernel) rfl
theorem ml_L_30 : Cond.methodLink RL 30 yX6_ask ∈ gT := gT_in 800 (by decide +kernel) rfl
theorem ml_X6_234 : Cond.methodLink RX6 234 yX6_isLoaf ∈ gT := gT_in 804 (by decide +kernel) rfl
theorem lc_X6_95 : Cond.constantLong RX6 95 5 ∈ gT := gT_in 807 (by decide +kernel) rfl
theorem ml_X6_237 : Cond.methodLink RX6 237 yX6_askOn ∈ gT := gT_in 808 (by decide +kernel) rfl
theorem ml_X6_204 : Cond.methodLink RX6 204 yX6_begin ∈ gT := gT_in 812 (by decide +kernel) rfl
theorem ml_X6_147 : Cond.methodLink RX6 147 yX6_memoryAt ∈ gT := gT_in 816 (by decide +kernel) rfl
theorem ml_X6_207 : Cond.methodLink RX6 207 yX6_checkMemories ∈ gT := gT_in 819 (by decide +kernel) rfl
theorem ml_X6_155 : Cond.methodLink RX6 155 yX6_memoryNamed ∈ gT := gT_in 823 (by decide +kernel) rfl
theorem ml_X6_159 : Cond.methodLink RX6 159 yX6_nextName ∈ gT := gT_in 826 (by decide +kernel) rfl
theorem ml_X6_166 : Cond.methodLink RX6 166 yX6_useMemory ∈ gT := gT_in 830 (by decide +kernel) rfl
theorem ml_X6_151 : Cond.methodLink RX6 151 yX6_shiftMemories ∈ gT := gT_in 834 (by decide +kernel) rfl
theorem ml_X6_172 : Cond.methodLink RX6 172 yX6_valueOfShelf ∈ gT := gT_in 837 (by decide +kernel) rfl
theorem ml_X6_175 : Cond.methodLink RX6 175 yX6_compare ∈ gT := gT_in 840 (by decide +kernel) rfl
theorem ml_X6_210 : Cond.methodLink RX6 210 yX6_bake ∈ gT := gT_in 844 (by decide +kernel) rfl
theorem ml_X6_189 : Cond.methodLink RX6 189 yX6_pop ∈ gT := gT_in 848 (by decide +kernel) rfl
theorem ml_X6_183 : Cond.methodLink RX6 183 yX6_endBaking ∈ gT := gT_in 852 (by decide +kernel) rfl
theorem ml_X6_186 : Cond.methodLink RX6 186 yX6_push ∈ gT := gT_in 856 (by decide +kernel) rfl
theorem ml_X6_192 : Cond.methodLink RX6 192 yX6_lookOf ∈ gT := gT_in 860 (by decide +kernel) rfl
theorem ml_X6_196 : Cond.methodLink RX6 196 yX6_take ∈ gT := gT_in 864 (by decide +kernel) rfl
theorem ml_X6_200 : Cond.methodLink RX6 200 yX6_reckon ∈ gT := gT_in 868 (by decide +kernel) rfl
theorem ml_X6_213 : Cond.methodLink RX6 213 yX6_comeBack ∈ gT := gT_in 871 (by decide +kernel) rfl
theorem ml_L_34 : Cond.methodLink RL 34 yX6_forget ∈ gT := gT_in 875 (by decide +kernel) rfl
theorem ml_X6_240 : Cond.methodLink RX6 240 yX6_cutMemory ∈ gT := gT_in 879 (by decide +kernel) rfl
theorem ml_L_54 : Cond.methodLink RL 54 yX6_recipe ∈ gT := gT_in 882 (by decide +kernel) rfl
theorem ml_L_58 : Cond.methodLink RL 58 yX6_ofShelf ∈ gT := gT_in 886 (by decide +kernel) rfl
theorem lc_X6_243 : Cond.constantLong RX6 243 2 ∈ gT := gT_in 890 (by decide +kernel) rfl
theorem ml_X6_245 : Cond.methodLink RX6 245 yX6_namedBy ∈ gT := gT_in 891 (by decide +kernel) rfl
theorem ml_L_62 : Cond.methodLink RL 62 yX6_ofLoaf ∈ gT := gT_in 894 (by decide +kernel) rfl
theorem ml_L_66 : Cond.methodLink RL 66 yX6_ofMemory ∈ gT := gT_in 898 (by decide +kernel) rfl
theorem lc_X6_249 : Cond.constantLong RX6 249 4 ∈ gT := gT_in 902 (by decide +kernel) rfl
theorem ml_L_71 : Cond.methodLink RL 71 yX6_look ∈ gT := gT_in 903 (by decide +kernel) rfl
theorem ml_L_75 : Cond.methodLink RL 75 yX6_count ∈ gT := gT_in 907 (by decide +kernel) rfl
theorem ml_L_79 : Cond.methodLink RL 79 yX6_fresh ∈ gT := gT_in 911 (by decide +kernel) rfl
theorem ml_X6_254 : Cond.methodLink RX6 254 yX6_reckonAll ∈ gT := gT_in 915 (by decide +kernel) rfl
theorem ml_X6_251 : Cond.methodLink RX6 251 yX6_reckonLoaf ∈ gT := gT_in 919 (by decide +kernel) rfl
theorem ml_L_83 : Cond.methodLink RL 83 yX6_fits ∈ gT := gT_in 923 (by decide +kernel) rfl
theorem ml_X6_257 : Cond.methodLink RX6 257 yX6_allAlike ∈ gT := gT_in 927 (by decide +kernel) rfl
theorem ml_L_87 : Cond.methodLink RL 87 yX6_looksAt ∈ gT := gT_in 931 (by decide +kernel) rfl
theorem ml_L_91 : Cond.methodLink RL 91 yX6_changes ∈ gT := gT_in 935 (by decide +kernel) rfl
theorem ml_L_95 : Cond.methodLink RL 95 yX6_numberFor ∈ gT := gT_in 939 (by decide +kernel) rfl
theorem lc_X6_260 : Cond.constantLong RX6 260 100 ∈ gT := gT_in 943 (by decide +kernel) rfl
theorem ml_L_99 : Cond.methodLink RL 99 yX6_stepsFor ∈ gT := gT_in 944 (by decide +kernel) rfl
theorem ml_L_103 : Cond.methodLink RL 103 yX6_undo ∈ gT := gT_in 948 (by decide +kernel) rfl
theorem ml_L_107 : Cond.methodLink RL 107 yX6_save ∈ gT := gT_in 952 (by decide +kernel) rfl
theorem ml_L_111 : Cond.methodLink RL 111 yX6_restore ∈ gT := gT_in 956 (by decide +kernel) rfl
theorem lc_L_35 : Cond.constantLong RL 35 4294967295 ∈ gT := gT_in 960 (by decide +kernel) rfl
theorem in_0 : Cond.instantiable (cT 0).1 (cT 0).2.2 ∈ gT := gT_in 132 (by decide +kernel) rfl
theorem ii_0 : Cond.initialized (cT 0).1 ∈ gT := gT_in 4 (by decide +kernel) rfl
theorem in_1 : Cond.instantiable (cT 1).1 (cT 1).2.2 ∈ gT := gT_in 29 (by decide +kernel) rfl
theorem ii_1 : Cond.initialized (cT 1).1 ∈ gT := gT_in 3 (by decide +kernel) rfl
theorem in_2 : Cond.instantiable (cT 2).1 (cT 2).2.2 ∈ gT := gT_in 165 (by decide +kernel) rfl
theorem ii_2 : Cond.initialized (cT 2).1 ∈ gT := gT_in 5 (by decide +kernel) rfl
theorem in_3 : Cond.instantiable (cT 3).1 (cT 3).2.2 ∈ gT := gT_in 486 (by decide +kernel) rfl
theorem ii_3 : Cond.initialized (cT 3).1 ∈ gT := gT_in 10 (by decide +kernel) rfl
theorem in_4 : Cond.instantiable (cT 4).1 (cT 4).2.2 ∈ gT := gT_in 20 (by decide +kernel) rfl
theorem ii_4 : Cond.initialized (cT 4).1 ∈ gT := gT_in 2 (by decide +kernel) rfl
theorem in_5 : Cond.instantiable (cT 5).1 (cT 5).2.2 ∈ gT := gT_in 12 (by decide +kernel) rfl
theorem ii_5 : Cond.initialized (cT 5).1 ∈ gT := gT_in 1 (by decide +kernel) rfl
theorem in_6 : Cond.instantiable (cT 6).1 (cT 6).2.2 ∈ gT := gT_in 620 (by decide +kernel) rfl
theorem ii_6 : Cond.initialized (cT 6).1 ∈ gT := gT_in 6 (by decide +kernel) rfl
theorem ac_I : Cond.arrayClass .int ∈ gT := gT_in 76 (by decide +kernel) rfl
theorem ac_Z : Cond.arrayClass .boolean ∈ gT := gT_in 163 (by decide +kernel) rfl
theorem oi_i : Cond.instanceMethod objectInit ∈ gT := gT_in 17 (by decide +kernel) rfl
theorem oi_c : Cond.code objectInit ⟨#[0xb1]⟩ 1 none ∈ gT := gT_in 18 (by decide +kernel) rfl
theorem mt_X0_init : mtI mX0_init 0 0 := ⟨⟨gT_in 135 (by decide +kernel) rfl, gT_in 4 (by decide +kernel) rfl, ⟨by decide +kernel, by decide +kernel, by decide +kernel⟩, by decide +kernel, by decide +kernel⟩, gT_in 134 (by decide +kernel) rfl, rfl, rfl, by decide⟩
theorem mt_X0_askedResult : mtV mX0_askedResult 2 0 := ⟨⟨gT_in 301 (by decide +kernel) rfl, gT_in 4 (by decide +kernel) rfl, ⟨by decide +kernel, by decide +kernel, by decide +kernel⟩, by decide +kernel, by decide +kernel⟩, gT_in 299 (by decide +kernel) rfl, gT_in 300 (by decide +kernel) rfl, by decide, rfl⟩
theorem mt_X0_freshResult : mtV mX0_freshResult 2 0 := ⟨⟨gT_in 575 (by decide +kernel) rfl, gT_in 4 (by decide +kernel) rfl, ⟨by decide +kernel, by decide +kernel, by decide +kernel⟩, by decide +kernel, by decide +kernel⟩, gT_in 573 (by decide +kernel) rfl, gT_in 574 (by decide +kernel) rfl, by decide, rfl⟩
theorem mt_X0_shelvesOfFresh : mtV mX0_shelvesOfFresh 2 0 := ⟨⟨gT_in 591 (by decide +kernel) rfl, gT_in 4 (by decide +kernel) rfl, ⟨by decide +kernel, by decide +kernel, by decide +kernel⟩, by decide +kernel, by decide +kernel⟩, gT_in 589 (by decide +kernel) rfl, gT_in 590 (by decide +kernel) rfl, by decide, rfl⟩
theorem mt_X0_fittingPlace : mtV mX0_fittingPlace 2 0 := ⟨⟨gT_in 583 (by decide +kernel) rfl, gT_in 4 (by decide +kernel) rfl, ⟨by decide +kernel, by decide +kernel, by decide +kernel⟩, by decide +kernel, by decide +kernel⟩, gT_in 581 (by decide +kernel) rfl, gT_in 582 (by decide +kernel) rfl, by decide, rfl⟩
theorem mt_X0_begin : mtV mX0_begin 2 0 := ⟨⟨gT_in 305 (by decide +kernel) rfl, gT_in 4 (by decide +kernel) rfl, ⟨by decide +kernel, by decide +kernel, by decide +kernel⟩, by decide +kernel, by decide +kernel⟩, gT_in 304 (by decide +kernel) rfl, gT_sel 2 (by decide +kernel) rfl, by decide, rfl⟩
theorem mt_X0_loafValue : mtV mX0_loafValue 2 0 := ⟨⟨gT_in 312 (by decide +kernel) rfl, gT_in 4 (by decide +kernel) rfl, ⟨by decide +kernel, by decide +kernel, by decide +kernel⟩, by decide +kernel, by decide +kernel⟩, gT_in 311 (by decide +kernel) rfl, gT_sel 3 (by decide +kernel) rfl, by decide, rfl⟩
theorem mt_X0_freshValue : mtV mX0_freshValue 2 0 := ⟨⟨gT_in 316 (by decide +kernel) rfl, gT_in 4 (by decide +kernel) rfl, ⟨by decide +kernel, by decide +kernel, by decide +kernel⟩, by decide +kernel, by decide +kernel⟩, gT_in 315 (by decide +kernel) rfl, gT_sel 4 (by decide +kernel) rfl, by decide, rfl⟩
theorem mt_X0_rememberedValue : mtV mX0_rememberedValue 2 0 := ⟨⟨gT_in 352 (by decide +kernel) rfl, gT_in 4 (by decide +kernel) rfl, ⟨by decide +kernel, by decide +kernel, by decide +kernel⟩, by decide +kernel, by decide +kernel⟩, gT_in 351 (by decide +kernel) rfl, gT_sel 8 (by decide +kernel) rfl, by decide, rfl⟩
theorem mt_X0_fittingMemory : mtV mX0_fittingMemory 1 0 := ⟨⟨gT_in 356 (by decide +kernel) rfl, gT_in 4 (by decide +kernel) rfl, ⟨by decide +kernel, by decide +kernel, by decide +kernel⟩, by decide +kernel, by decide +kernel⟩, gT_in 355 (by decide +kernel) rfl, gT_sel 9 (by decide +kernel) rfl, by decide, rfl⟩
theorem mt_X0_isAsItWas : mtV mX0_isAsItWas 2 0 := ⟨⟨gT_in 368 (by decide +kernel) rfl, gT_in 4 (by decide +kernel) rfl, ⟨by decide +kernel, by decide +kernel, by decide +kernel⟩, by decide +kernel, by decide +kernel⟩, gT_in 367 (by decide +kernel) rfl, gT_sel 10 (by decide +kernel) rfl, by decide, rfl⟩
theorem mt_X0_valueNow : mtV mX0_valueNow 2 0 := ⟨⟨gT_in 340 (by decide +kernel) rfl, gT_in 4 (by decide +kernel) rfl, ⟨by decide +kernel, by decide +kernel, by decide +kernel⟩, by decide +kernel, by decide +kernel⟩, gT_in 339 (by decide +kernel) rfl, gT_sel 7 (by decide +kernel) rfl, by decide, rfl⟩
theorem mt_X0_lookedUp : mtV mX0_lookedUp 2 0 := ⟨⟨gT_in 331 (by decide +kernel) rfl, gT_in 4 (by decide +kernel) rfl, ⟨by decide +kernel, by decide +kernel, by decide +kernel⟩, by decide +kernel, by decide +kernel⟩, gT_in 330 (by decide +kernel) rfl, gT_sel 6 (by decide +kernel) rfl, by decide, rfl⟩
theorem mt_X0_reckon : mtV mX0_reckon 2 0 := ⟨⟨gT_in 320 (by decide +kernel) rfl, gT_in 4 (by decide +kernel) rfl, ⟨by decide +kernel, by decide +kernel, by decide +kernel⟩, by decide +kernel, by decide +kernel⟩, gT_in 319 (by decide +kernel) rfl, gT_sel 5 (by decide +kernel) rfl, by decide, rfl⟩
theorem mt_X0_joined : mtS mX0_joined 3 := ⟨⟨gT_in 348 (by decide +kernel) rfl, gT_in 4 (by decide +kernel) rfl, ⟨by decide +kernel, by decide +kernel, by decide +kernel⟩, by decide +kernel, by decide +kernel⟩, gT_in 347 (by decide +kernel) rfl⟩
theorem mt_X1_init : mtI mX1_init 0 1 := ⟨⟨gT_in 32 (by decide +kernel) rfl, gT_in 3 (by decide +kernel) rfl, ⟨by decide +kernel, by decide +kernel, by decide +kernel⟩, by decide +kernel, by decide +kernel⟩, gT_in 31 (by decide +kernel) rfl, rfl, rfl, by decide⟩
theorem mt_X1_begin : mtV mX1_begin 1 1 := ⟨⟨gT_in 324 (by decide +kernel) rfl, gT_in 3 (by decide +kernel) rfl, ⟨by decide +kernel, by decide +kernel, by decide +kernel⟩, by decide +kernel, by decide +kernel⟩, gT_in 322 (by decide +kernel) rfl, gT_in 323 (by decide +kernel) rfl, by decide, rfl⟩
theorem mt_X1_addLook : mtV mX1_addLook 2 1 := ⟨⟨gT_in 345 (by decide +kernel) rfl, gT_in 3 (by decide +kernel) rfl, ⟨by decide +kernel, by decide +kernel, by decide +kernel⟩, by decide +kernel, by decide +kernel⟩, gT_in 343 (by decide +kernel) rfl, gT_in 344 (by decide +kernel) rfl, by decide, rfl⟩
theorem mt_X1_placeOfLook : mtV mX1_placeOfLook 1 1 := ⟨⟨gT_in 335 (by decide +kernel) rfl, gT_in 3 (by decide +kernel) rfl, ⟨by decide +kernel, by decide +kernel, by decide +kernel⟩, by decide +kernel, by decide +kernel⟩, gT_in 333 (by decide +kernel) rfl, gT_in 334 (by decide +kernel) rfl, by decide, rfl⟩
theorem mt_X1_copyFrom : mtV mX1_copyFrom 1 1 := ⟨⟨gT_in 264 (by decide +kernel) rfl, gT_in 3 (by decide +kernel) rfl, ⟨by decide +kernel, by decide +kernel, by decide +kernel⟩, by decide +kernel, by decide +kernel⟩, gT_in 262 (by decide +kernel) rfl, gT_in 263 (by decide +kernel) rfl, by decide, rfl⟩
theorem mt_X2_init : mtI mX2_init 0 2 := ⟨⟨gT_in 168 (by decide +kernel) rfl, gT_in 5 (by decide +kernel) rfl, ⟨by decide +kernel, by decide +kernel, by decide +kernel⟩, by decide +kernel, by decide +kernel⟩, gT_in 167 (by decide +kernel) rfl, rfl, rfl, by decide⟩
theorem mt_X2_firstFault : mtV mX2_firstFault 2 2 := ⟨⟨gT_in 407 (by decide +kernel) rfl, gT_in 5 (by decide +kernel) rfl, ⟨by decide +kernel, by decide +kernel, by decide +kernel⟩, by decide +kernel, by decide +kernel⟩, gT_in 405 (by decide +kernel) rfl, gT_in 406 (by decide +kernel) rfl, by decide, rfl⟩
theorem mt_X2_recipeRead : mtV mX2_recipeRead 0 2 := ⟨⟨gT_in 484 (by decide +kernel) rfl, gT_in 5 (by decide +kernel) rfl, ⟨by decide +kernel, by decide +kernel, by decide +kernel⟩, by decide +kernel, by decide +kernel⟩, gT_in 482 (by decide +kernel) rfl, gT_in 483 (by decide +kernel) rfl, by decide, rfl⟩
theorem mt_X2_begin : mtV mX2_begin 0 2 := ⟨⟨gT_in 411 (by decide +kernel) rfl, gT_in 5 (by decide +kernel) rfl, ⟨by decide +kernel, by decide +kernel, by decide +kernel⟩, by decide +kernel, by decide +kernel⟩, gT_in 410 (by decide +kernel) rfl, gT_sel 12 (by decide +kernel) rfl, by decide, rfl⟩
theorem mt_X2_takes : mtV mX2_takes 1 2 := ⟨⟨gT_in 415 (by decide +kernel) rfl, gT_in 5 (by decide +kernel) rfl, ⟨by decide +kernel, by decide +kernel, by decide +kernel⟩, by decide +kernel, by decide +kernel⟩, gT_in 414 (by decide +kernel) rfl, gT_sel 13 (by decide +kernel) rfl, by decide, rfl⟩
theorem mt_X2_takesStart : mtV mX2_takesStart 1 2 := ⟨⟨gT_in 419 (by decide +kernel) rfl, gT_in 5 (by decide +kernel) rfl, ⟨by decide +kernel, by decide +kernel, by decide +kernel⟩, by decide +kernel, by decide +kernel⟩, gT_in 418 (by decide +kernel) rfl, gT_sel 14 (by decide +kernel) rfl, by decide, rfl⟩
theorem mt_X2_takesLoafDigit : mtV mX2_takesLoafDigit 1 2 := ⟨⟨gT_in 439 (by decide +kernel) rfl, gT_in 5 (by decide +kernel) rfl, ⟨by decide +kernel, by decide +kernel, by decide +kernel⟩, by decide +kernel, by decide +kernel⟩, gT_in 438 (by decide +kernel) rfl, gT_sel 18 (by decide +kernel) rfl, by decide, rfl⟩
theorem mt_X2_takesNextDigit : mtV mX2_takesNextDigit 1 2 := ⟨⟨gT_in 443 (by decide +kernel) rfl, gT_in 5 (by decide +kernel) rfl, ⟨by decide +kernel, by decide +kernel, by decide +kernel⟩, by decide +kernel, by decide +kernel⟩, gT_in 442 (by decide +kernel) rfl, gT_sel 19 (by decide +kernel) rfl, by decide, rfl⟩
theorem mt_X2_takesAfterRecipe : mtV mX2_takesAfterRecipe 1 2 := ⟨⟨gT_in 448 (by decide +kernel) rfl, gT_in 5 (by decide +kernel) rfl, ⟨by decide +kernel, by decide +kernel, by decide +kernel⟩, by decide +kernel, by decide +kernel⟩, gT_in 447 (by decide +kernel) rfl, gT_sel 20 (by decide +kernel) rfl, by decide, rfl⟩
theorem mt_X2_takesOperation : mtV mX2_takesOperation 1 2 := ⟨⟨gT_in 452 (by decide +kernel) rfl, gT_in 5 (by decide +kernel) rfl, ⟨by decide +kernel, by decide +kernel, by decide +kernel⟩, by decide +kernel, by decide +kernel⟩, gT_in 451 (by decide +kernel) rfl, gT_sel 21 (by decide +kernel) rfl, by decide, rfl⟩
theorem mt_X2_takesBracket : mtV mX2_takesBracket 0 2 := ⟨⟨gT_in 476 (by decide +kernel) rfl, gT_in 5 (by decide +kernel) rfl, ⟨by decide +kernel, by decide +kernel, by decide +kernel⟩, by decide +kernel, by decide +kernel⟩, gT_in 475 (by decide +kernel) rfl, gT_sel 27 (by decide +kernel) rfl, by decide, rfl⟩
theorem mt_X2_takesQuestion : mtV mX2_takesQuestion 0 2 := ⟨⟨gT_in 460 (by decide +kernel) rfl, gT_in 5 (by decide +kernel) rfl, ⟨by decide +kernel, by decide +kernel, by decide +kernel⟩, by decide +kernel, by decide +kernel⟩, gT_in 459 (by decide +kernel) rfl, gT_sel 23 (by decide +kernel) rfl, by decide, rfl⟩
theorem mt_X2_takesColon : mtV mX2_takesColon 0 2 := ⟨⟨gT_in 464 (by decide +kernel) rfl, gT_in 5 (by decide +kernel) rfl, ⟨by decide +kernel, by decide +kernel, by decide +kernel⟩, by decide +kernel, by decide +kernel⟩, gT_in 463 (by decide +kernel) rfl, gT_sel 24 (by decide +kernel) rfl, by decide, rfl⟩
theorem mt_X2_takesBrace : mtV mX2_takesBrace 0 2 := ⟨⟨gT_in 472 (by decide +kernel) rfl, gT_in 5 (by decide +kernel) rfl, ⟨by decide +kernel, by decide +kernel, by decide +kernel⟩, by decide +kernel, by decide +kernel⟩, gT_in 471 (by decide +kernel) rfl, gT_sel 26 (by decide +kernel) rfl, by decide, rfl⟩
theorem mt_X2_opens : mtV mX2_opens 1 2 := ⟨⟨gT_in 423 (by decide +kernel) rfl, gT_in 5 (by decide +kernel) rfl, ⟨by decide +kernel, by decide +kernel, by decide +kernel⟩, by decide +kernel, by decide +kernel⟩, gT_in 422 (by decide +kernel) rfl, gT_sel 15 (by decide +kernel) rfl, by decide, rfl⟩
theorem mt_X2_waitsNext : mtV mX2_waitsNext 1 2 := ⟨⟨gT_in 456 (by decide +kernel) rfl, gT_in 5 (by decide +kernel) rfl, ⟨by decide +kernel, by decide +kernel, by decide +kernel⟩, by decide +kernel, by decide +kernel⟩, gT_in 455 (by decide +kernel) rfl, gT_sel 22 (by decide +kernel) rfl, by decide, rfl⟩
theorem mt_X2_addsPart : mtV mX2_addsPart 2 2 := ⟨⟨gT_in 430 (by decide +kernel) rfl, gT_in 5 (by decide +kernel) rfl, ⟨by decide +kernel, by decide +kernel, by decide +kernel⟩, by decide +kernel, by decide +kernel⟩, gT_in 429 (by decide +kernel) rfl, gT_sel 16 (by decide +kernel) rfl, by decide, rfl⟩
theorem mt_X2_adds : mtV mX2_adds 2 2 := ⟨⟨gT_in 434 (by decide +kernel) rfl, gT_in 5 (by decide +kernel) rfl, ⟨by decide +kernel, by decide +kernel, by decide +kernel⟩, by decide +kernel, by decide +kernel⟩, gT_in 433 (by decide +kernel) rfl, gT_sel 17 (by decide +kernel) rfl, by decide, rfl⟩
theorem mt_X2_closesEnd : mtV mX2_closesEnd 1 2 := ⟨⟨gT_in 468 (by decide +kernel) rfl, gT_in 5 (by decide +kernel) rfl, ⟨by decide +kernel, by decide +kernel, by decide +kernel⟩, by decide +kernel, by decide +kernel⟩, gT_in 467 (by decide +kernel) rfl, gT_sel 25 (by decide +kernel) rfl, by decide, rfl⟩
theorem mt_X2_isDigit : mtS mX2_isDigit 1 := ⟨⟨gT_in 426 (by decide +kernel) rfl, gT_in 5 (by decide +kernel) rfl, ⟨by decide +kernel, by decide +kernel, by decide +kernel⟩, by decide +kernel, by decide +kernel⟩, gT_in 425 (by decide +kernel) rfl⟩
theorem mt_X3_init : mtI mX3_init 1 3 := ⟨⟨gT_in 489 (by decide +kernel) rfl, gT_in 10 (by decide +kernel) rfl, ⟨by decide +kernel, by decide +kernel, by decide +kernel⟩, by decide +kernel, by decide +kernel⟩, gT_in 488 (by decide +kernel) rfl, rfl, rfl, by decide⟩
theorem mt_X4_init : mtI mX4_init 0 4 := ⟨⟨gT_in 23 (by decide +kernel) rfl, gT_in 2 (by decide +kernel) rfl, ⟨by decide +kernel, by decide +kernel, by decide +kernel⟩, by decide +kernel, by decide +kernel⟩, gT_in 22 (by decide +kernel) rfl, rfl, rfl, by decide⟩
theorem mt_X4_copyFrom : mtV mX4_copyFrom 1 4 := ⟨⟨gT_in 257 (by decide +kernel) rfl, gT_in 2 (by decide +kernel) rfl, ⟨by decide +kernel, by decide +kernel, by decide +kernel⟩, by decide +kernel, by decide +kernel⟩, gT_in 255 (by decide +kernel) rfl, gT_in 256 (by decide +kernel) rfl, by decide, rfl⟩
theorem mt_X4_loavesNaming : mtV mX4_loavesNaming 1 4 := ⟨⟨gT_in 542 (by decide +kernel) rfl, gT_in 2 (by decide +kernel) rfl, ⟨by decide +kernel, by decide +kernel, by decide +kernel⟩, by decide +kernel, by decide +kernel⟩, gT_in 540 (by decide +kernel) rfl, gT_in 541 (by decide +kernel) rfl, by decide, rfl⟩
theorem mt_X4_loavesWithRecipe : mtV mX4_loavesWithRecipe 0 4 := ⟨⟨gT_in 567 (by decide +kernel) rfl, gT_in 2 (by decide +kernel) rfl, ⟨by decide +kernel, by decide +kernel, by decide +kernel⟩, by decide +kernel, by decide +kernel⟩, gT_in 565 (by decide +kernel) rfl, gT_in 566 (by decide +kernel) rfl, by decide, rfl⟩
theorem mt_X4_memoriesOf : mtV mX4_memoriesOf 1 4 := ⟨⟨gT_in 551 (by decide +kernel) rfl, gT_in 2 (by decide +kernel) rfl, ⟨by decide +kernel, by decide +kernel, by decide +kernel⟩, by decide +kernel, by decide +kernel⟩, gT_in 549 (by decide +kernel) rfl, gT_in 550 (by decide +kernel) rfl, by decide, rfl⟩
theorem mt_X4_serialsOf : mtV mX4_serialsOf 2 4 := ⟨⟨gT_in 360 (by decide +kernel) rfl, gT_in 2 (by decide +kernel) rfl, ⟨by decide +kernel, by decide +kernel, by decide +kernel⟩, by decide +kernel, by decide +kernel⟩, gT_in 358 (by decide +kernel) rfl, gT_in 359 (by decide +kernel) rfl, by decide, rfl⟩
theorem mt_X4_placeOfSerial : mtV mX4_placeOfSerial 1 4 := ⟨⟨gT_in 364 (by decide +kernel) rfl, gT_in 2 (by decide +kernel) rfl, ⟨by decide +kernel, by decide +kernel, by decide +kernel⟩, by decide +kernel, by decide +kernel⟩, gT_in 362 (by decide +kernel) rfl, gT_in 363 (by decide +kernel) rfl, by decide, rfl⟩
theorem mt_X4_use : mtV mX4_use 1 4 := ⟨⟨gT_in 372 (by decide +kernel) rfl, gT_in 2 (by decide +kernel) rfl, ⟨by decide +kernel, by decide +kernel, by decide +kernel⟩, by decide +kernel, by decide +kernel⟩, gT_in 370 (by decide +kernel) rfl, gT_in 371 (by decide +kernel) rfl, by decide, rfl⟩
theorem mt_X4_keepMemory : mtV mX4_keepMemory 1 4 := ⟨⟨gT_in 376 (by decide +kernel) rfl, gT_in 2 (by decide +kernel) rfl, ⟨by decide +kernel, by decide +kernel, by decide +kernel⟩, by decide +kernel, by decide +kernel⟩, gT_in 374 (by decide +kernel) rfl, gT_in 375 (by decide +kernel) rfl, by decide, rfl⟩
theorem mt_X4_dropBeyondRoom : mtV mX4_dropBeyondRoom 0 4 := ⟨⟨gT_in 269 (by decide +kernel) rfl, gT_in 2 (by decide +kernel) rfl, ⟨by decide +kernel, by decide +kernel, by decide +kernel⟩, by decide +kernel, by decide +kernel⟩, gT_in 267 (by decide +kernel) rfl, gT_in 268 (by decide +kernel) rfl, by decide, rfl⟩
theorem mt_X4_dropAllOf : mtV mX4_dropAllOf 1 4 := ⟨⟨gT_in 534 (by decide +kernel) rfl, gT_in 2 (by decide +kernel) rfl, ⟨by decide +kernel, by decide +kernel, by decide +kernel⟩, by decide +kernel, by decide +kernel⟩, gT_in 532 (by decide +kernel) rfl, gT_in 533 (by decide +kernel) rfl, by decide, rfl⟩
theorem mt_X4_drop : mtV mX4_drop 1 4 := ⟨⟨gT_in 273 (by decide +kernel) rfl, gT_in 2 (by decide +kernel) rfl, ⟨by decide +kernel, by decide +kernel, by decide +kernel⟩, by decide +kernel, by decide +kernel⟩, gT_in 271 (by decide +kernel) rfl, gT_in 272 (by decide +kernel) rfl, by decide, rfl⟩
theorem mt_X5_init : mtI mX5_init 0 5 := ⟨⟨gT_in 15 (by decide +kernel) rfl, gT_in 1 (by decide +kernel) rfl, ⟨by decide +kernel, by decide +kernel, by decide +kernel⟩, by decide +kernel, by decide +kernel⟩, gT_in 14 (by decide +kernel) rfl, rfl, rfl, by decide⟩
theorem mt_X5_set : mtV mX5_set 2 5 := ⟨⟨gT_in 242 (by decide +kernel) rfl, gT_in 1 (by decide +kernel) rfl, ⟨by decide +kernel, by decide +kernel, by decide +kernel⟩, by decide +kernel, by decide +kernel⟩, gT_in 240 (by decide +kernel) rfl, gT_in 241 (by decide +kernel) rfl, by decide, rfl⟩
theorem mt_X5_put : mtV mX5_put 2 5 := ⟨⟨gT_in 277 (by decide +kernel) rfl, gT_in 1 (by decide +kernel) rfl, ⟨by decide +kernel, by decide +kernel, by decide +kernel⟩, by decide +kernel, by decide +kernel⟩, gT_in 275 (by decide +kernel) rfl, gT_in 276 (by decide +kernel) rfl, by decide, rfl⟩
theorem mt_X5_poison : mtV mX5_poison 2 5 := ⟨⟨gT_in 287 (by decide +kernel) rfl, gT_in 1 (by decide +kernel) rfl, ⟨by decide +kernel, by decide +kernel, by decide +kernel⟩, by decide +kernel, by decide +kernel⟩, gT_in 285 (by decide +kernel) rfl, gT_in 286 (by decide +kernel) rfl, by decide, rfl⟩
theorem mt_X5_ask : mtV mX5_ask 1 5 := ⟨⟨gT_in 294 (by decide +kernel) rfl, gT_in 1 (by decide +kernel) rfl, ⟨by decide +kernel, by decide +kernel, by decide +kernel⟩, by decide +kernel, by decide +kernel⟩, gT_in 292 (by decide +kernel) rfl, gT_in 293 (by decide +kernel) rfl, by decide, rfl⟩
theorem mt_X5_forget : mtV mX5_forget 1 5 := ⟨⟨gT_in 382 (by decide +kernel) rfl, gT_in 1 (by decide +kernel) rfl, ⟨by decide +kernel, by decide +kernel, by decide +kernel⟩, by decide +kernel, by decide +kernel⟩, gT_in 380 (by decide +kernel) rfl, gT_in 381 (by decide +kernel) rfl, by decide, rfl⟩
theorem mt_X5_type : mtV mX5_type 1 5 := ⟨⟨gT_in 391 (by decide +kernel) rfl, gT_in 1 (by decide +kernel) rfl, ⟨by decide +kernel, by decide +kernel, by decide +kernel⟩, by decide +kernel, by decide +kernel⟩, gT_in 389 (by decide +kernel) rfl, gT_in 390 (by decide +kernel) rfl, by decide, rfl⟩
theorem mt_X5_wipe : mtV mX5_wipe 0 5 := ⟨⟨gT_in 399 (by decide +kernel) rfl, gT_in 1 (by decide +kernel) rfl, ⟨by decide +kernel, by decide +kernel, by decide +kernel⟩, by decide +kernel, by decide +kernel⟩, gT_in 397 (by decide +kernel) rfl, gT_in 398 (by decide +kernel) rfl, by decide, rfl⟩
theorem mt_X5_fault : mtV mX5_fault 0 5 := ⟨⟨gT_in 403 (by decide +kernel) rfl, gT_in 1 (by decide +kernel) rfl, ⟨by decide +kernel, by decide +kernel, by decide +kernel⟩, by decide +kernel, by decide +kernel⟩, gT_in 401 (by decide +kernel) rfl, gT_in 402 (by decide +kernel) rfl, by decide, rfl⟩
theorem mt_X5_recipe : mtV mX5_recipe 1 5 := ⟨⟨gT_in 480 (by decide +kernel) rfl, gT_in 1 (by decide +kernel) rfl, ⟨by decide +kernel, by decide +kernel, by decide +kernel⟩, by decide +kernel, by decide +kernel⟩, gT_in 478 (by decide +kernel) rfl, gT_in 479 (by decide +kernel) rfl, by decide, rfl⟩
theorem mt_X5_ofShelf : mtV mX5_ofShelf 2 5 := ⟨⟨gT_in 538 (by decide +kernel) rfl, gT_in 1 (by decide +kernel) rfl, ⟨by decide +kernel, by decide +kernel, by decide +kernel⟩, by decide +kernel, by decide +kernel⟩, gT_in 536 (by decide +kernel) rfl, gT_in 537 (by decide +kernel) rfl, by decide, rfl⟩
theorem mt_X5_ofLoaf : mtV mX5_ofLoaf 2 5 := ⟨⟨gT_in 547 (by decide +kernel) rfl, gT_in 1 (by decide +kernel) rfl, ⟨by decide +kernel, by decide +kernel, by decide +kernel⟩, by decide +kernel, by decide +kernel⟩, gT_in 545 (by decide +kernel) rfl, gT_in 546 (by decide +kernel) rfl, by decide, rfl⟩
theorem mt_X5_ofMemory : mtV mX5_ofMemory 2 5 := ⟨⟨gT_in 555 (by decide +kernel) rfl, gT_in 1 (by decide +kernel) rfl, ⟨by decide +kernel, by decide +kernel, by decide +kernel⟩, by decide +kernel, by decide +kernel⟩, gT_in 553 (by decide +kernel) rfl, gT_in 554 (by decide +kernel) rfl, by decide, rfl⟩
theorem mt_X5_look : mtV mX5_look 3 5 := ⟨⟨gT_in 559 (by decide +kernel) rfl, gT_in 1 (by decide +kernel) rfl, ⟨by decide +kernel, by decide +kernel, by decide +kernel⟩, by decide +kernel, by decide +kernel⟩, gT_in 557 (by decide +kernel) rfl, gT_in 558 (by decide +kernel) rfl, by decide, rfl⟩
theorem mt_X5_count : mtV mX5_count 1 5 := ⟨⟨gT_in 563 (by decide +kernel) rfl, gT_in 1 (by decide +kernel) rfl, ⟨by decide +kernel, by decide +kernel, by decide +kernel⟩, by decide +kernel, by decide +kernel⟩, gT_in 561 (by decide +kernel) rfl, gT_in 562 (by decide +kernel) rfl, by decide, rfl⟩
theorem mt_X5_fresh : mtV mX5_fresh 1 5 := ⟨⟨gT_in 571 (by decide +kernel) rfl, gT_in 1 (by decide +kernel) rfl, ⟨by decide +kernel, by decide +kernel, by decide +kernel⟩, by decide +kernel, by decide +kernel⟩, gT_in 569 (by decide +kernel) rfl, gT_in 570 (by decide +kernel) rfl, by decide, rfl⟩
theorem mt_X5_fits : mtV mX5_fits 1 5 := ⟨⟨gT_in 579 (by decide +kernel) rfl, gT_in 1 (by decide +kernel) rfl, ⟨by decide +kernel, by decide +kernel, by decide +kernel⟩, by decide +kernel, by decide +kernel⟩, gT_in 577 (by decide +kernel) rfl, gT_in 578 (by decide +kernel) rfl, by decide, rfl⟩
theorem mt_X5_looksAt : mtV mX5_looksAt 1 5 := ⟨⟨gT_in 587 (by decide +kernel) rfl, gT_in 1 (by decide +kernel) rfl, ⟨by decide +kernel, by decide +kernel, by decide +kernel⟩, by decide +kernel, by decide +kernel⟩, gT_in 585 (by decide +kernel) rfl, gT_in 586 (by decide +kernel) rfl, by decide, rfl⟩
theorem mt_X5_changes : mtV mX5_changes 2 5 := ⟨⟨gT_in 595 (by decide +kernel) rfl, gT_in 1 (by decide +kernel) rfl, ⟨by decide +kernel, by decide +kernel, by decide +kernel⟩, by decide +kernel, by decide +kernel⟩, gT_in 593 (by decide +kernel) rfl, gT_in 594 (by decide +kernel) rfl, by decide, rfl⟩
theorem mt_X5_numberFor : mtV mX5_numberFor 3 5 := ⟨⟨gT_in 599 (by decide +kernel) rfl, gT_in 1 (by decide +kernel) rfl, ⟨by decide +kernel, by decide +kernel, by decide +kernel⟩, by decide +kernel, by decide +kernel⟩, gT_in 597 (by decide +kernel) rfl, gT_in 598 (by decide +kernel) rfl, by decide, rfl⟩
theorem mt_X5_stepsFor : mtV mX5_stepsFor 1 5 := ⟨⟨gT_in 603 (by decide +kernel) rfl, gT_in 1 (by decide +kernel) rfl, ⟨by decide +kernel, by decide +kernel, by decide +kernel⟩, by decide +kernel, by decide +kernel⟩, gT_in 601 (by decide +kernel) rfl, gT_in 602 (by decide +kernel) rfl, by decide, rfl⟩
theorem mt_X5_undo : mtV mX5_undo 0 5 := ⟨⟨gT_in 607 (by decide +kernel) rfl, gT_in 1 (by decide +kernel) rfl, ⟨by decide +kernel, by decide +kernel, by decide +kernel⟩, by decide +kernel, by decide +kernel⟩, gT_in 605 (by decide +kernel) rfl, gT_in 606 (by decide +kernel) rfl, by decide, rfl⟩
theorem mt_X5_save : mtV mX5_save 1 5 := ⟨⟨gT_in 611 (by decide +kernel) rfl, gT_in 1 (by decide +kernel) rfl, ⟨by decide +kernel, by decide +kernel, by decide +kernel⟩, by decide +kernel, by decide +kernel⟩, gT_in 609 (by decide +kernel) rfl, gT_in 610 (by decide +kernel) rfl, by decide, rfl⟩
theorem mt_X5_restore : mtV mX5_restore 1 5 := ⟨⟨gT_in 618 (by decide +kernel) rfl, gT_in 1 (by decide +kernel) rfl, ⟨by decide +kernel, by decide +kernel, by decide +kernel⟩, by decide +kernel, by decide +kernel⟩, gT_in 616 (by decide +kernel) rfl, gT_in 617 (by decide +kernel) rfl, by decide, rfl⟩
theorem mt_X5_recordChange : mtV mX5_recordChange 0 5 := ⟨⟨gT_in 249 (by decide +kernel) rfl, gT_in 1 (by decide +kernel) rfl, ⟨by decide +kernel, by decide +kernel, by decide +kernel⟩, by decide +kernel, by decide +kernel⟩, gT_in 248 (by decide +kernel) rfl, gT_sel 0 (by decide +kernel) rfl, by decide, rfl⟩
theorem mt_X5_dropOldestChange : mtV mX5_dropOldestChange 0 5 := ⟨⟨gT_in 253 (by decide +kernel) rfl, gT_in 1 (by decide +kernel) rfl, ⟨by decide +kernel, by decide +kernel, by decide +kernel⟩, by decide +kernel, by decide +kernel⟩, gT_in 252 (by decide +kernel) rfl, gT_sel 1 (by decide +kernel) rfl, by decide, rfl⟩
theorem mt_X5_isMemory : mtV mX5_isMemory 1 5 := ⟨⟨gT_in 386 (by decide +kernel) rfl, gT_in 1 (by decide +kernel) rfl, ⟨by decide +kernel, by decide +kernel, by decide +kernel⟩, by decide +kernel, by decide +kernel⟩, gT_in 385 (by decide +kernel) rfl, gT_sel 11 (by decide +kernel) rfl, by decide, rfl⟩
theorem mt_X5_isShelf : mtS mX5_isShelf 1 := ⟨⟨gT_in 280 (by decide +kernel) rfl, gT_in 1 (by decide +kernel) rfl, ⟨by decide +kernel, by decide +kernel, by decide +kernel⟩, by decide +kernel, by decide +kernel⟩, gT_in 279 (by decide +kernel) rfl⟩
theorem mt_X5_isLoaf : mtS mX5_isLoaf 1 := ⟨⟨gT_in 297 (by decide +kernel) rfl, gT_in 1 (by decide +kernel) rfl, ⟨by decide +kernel, by decide +kernel, by decide +kernel⟩, by decide +kernel, by decide +kernel⟩, gT_in 296 (by decide +kernel) rfl⟩
theorem mt_X5_isNumber : mtS mX5_isNumber 1 := ⟨⟨gT_in 283 (by decide +kernel) rfl, gT_in 1 (by decide +kernel) rfl, ⟨by decide +kernel, by decide +kernel, by decide +kernel⟩, by decide +kernel, by decide +kernel⟩, gT_in 282 (by decide +kernel) rfl⟩
theorem mt_X5_isSlot : mtS mX5_isSlot 1 := ⟨⟨gT_in 614 (by decide +kernel) rfl, gT_in 1 (by decide +kernel) rfl, ⟨by decide +kernel, by decide +kernel, by decide +kernel⟩, by decide +kernel, by decide +kernel⟩, gT_in 613 (by decide +kernel) rfl⟩
theorem mt_X5_isSettingValue : mtS mX5_isSettingValue 2 := ⟨⟨gT_in 245 (by decide +kernel) rfl, gT_in 1 (by decide +kernel) rfl, ⟨by decide +kernel, by decide +kernel, by decide +kernel⟩, by decide +kernel, by decide +kernel⟩, gT_in 244 (by decide +kernel) rfl⟩
theorem mt_X5_bitOf : mtS mX5_bitOf 2 := ⟨⟨gT_in 290 (by decide +kernel) rfl, gT_in 1 (by decide +kernel) rfl, ⟨by decide +kernel, by decide +kernel, by decide +kernel⟩, by decide +kernel, by decide +kernel⟩, gT_in 289 (by decide +kernel) rfl⟩
theorem mt_X5_lengthOfText : mtS mX5_lengthOfText 1 := ⟨⟨gT_in 394 (by decide +kernel) rfl, gT_in 1 (by decide +kernel) rfl, ⟨by decide +kernel, by decide +kernel, by decide +kernel⟩, by decide +kernel, by decide +kernel⟩, gT_in 393 (by decide +kernel) rfl⟩
theorem mt_X6_init : mtI mX6_init 0 6 := ⟨⟨gT_in 623 (by decide +kernel) rfl, gT_in 6 (by decide +kernel) rfl, ⟨by decide +kernel, by decide +kernel, by decide +kernel⟩, by decide +kernel, by decide +kernel⟩, gT_in 622 (by decide +kernel) rfl, rfl, rfl, by decide⟩
theorem mt_X6_in : mtS mX6_in 3 := ⟨⟨gT_in 734 (by decide +kernel) rfl, gT_in 6 (by decide +kernel) rfl, ⟨by decide +kernel, by decide +kernel, by decide +kernel⟩, by decide +kernel, by decide +kernel⟩, gT_in 733 (by decide +kernel) rfl⟩
theorem mt_X6_copyState : mtS mX6_copyState 4 := ⟨⟨gT_in 783 (by decide +kernel) rfl, gT_in 6 (by decide +kernel) rfl, ⟨by decide +kernel, by decide +kernel, by decide +kernel⟩, by decide +kernel, by decide +kernel⟩, gT_in 782 (by decide +kernel) rfl⟩
theorem mt_X6_isShelf : mtS mX6_isShelf 1 := ⟨⟨gT_in 793 (by decide +kernel) rfl, gT_in 6 (by decide +kernel) rfl, ⟨by decide +kernel, by decide +kernel, by decide +kernel⟩, by decide +kernel, by decide +kernel⟩, gT_in 792 (by decide +kernel) rfl⟩
theorem mt_X6_isLoaf : mtS mX6_isLoaf 1 := ⟨⟨gT_in 806 (by decide +kernel) rfl, gT_in 6 (by decide +kernel) rfl, ⟨by decide +kernel, by decide +kernel, by decide +kernel⟩, by decide +kernel, by decide +kernel⟩, gT_in 805 (by decide +kernel) rfl⟩
theorem mt_X6_memoryAt : mtS mX6_memoryAt 1 := ⟨⟨gT_in 818 (by decide +kernel) rfl, gT_in 6 (by decide +kernel) rfl, ⟨by decide +kernel, by decide +kernel, by decide +kernel⟩, by decide +kernel, by decide +kernel⟩, gT_in 817 (by decide +kernel) rfl⟩
theorem mt_X6_valueOfShelf : mtS mX6_valueOfShelf 2 := ⟨⟨gT_in 839 (by decide +kernel) rfl, gT_in 6 (by decide +kernel) rfl, ⟨by decide +kernel, by decide +kernel, by decide +kernel⟩, by decide +kernel, by decide +kernel⟩, gT_in 838 (by decide +kernel) rfl⟩
theorem mt_X6_sign : mtV mX6_sign 0 6 := ⟨⟨gT_in 754 (by decide +kernel) rfl, gT_in 6 (by decide +kernel) rfl, ⟨by decide +kernel, by decide +kernel, by decide +kernel⟩, by decide +kernel, by decide +kernel⟩, gT_in 753 (by decide +kernel) rfl, gT_sel 30 (by decide +kernel) rfl, by decide, rfl⟩
theorem mt_X6_lay : mtV mX6_lay 2 6 := ⟨⟨gT_in 764 (by decide +kernel) rfl, gT_in 6 (by decide +kernel) rfl, ⟨by decide +kernel, by decide +kernel, by decide +kernel⟩, by decide +kernel, by decide +kernel⟩, gT_in 763 (by decide +kernel) rfl, gT_sel 32 (by decide +kernel) rfl, by decide, rfl⟩
theorem mt_X6_expect : mtV mX6_expect 2 6 := ⟨⟨gT_in 758 (by decide +kernel) rfl, gT_in 6 (by decide +kernel) rfl, ⟨by decide +kernel, by decide +kernel, by decide +kernel⟩, by decide +kernel, by decide +kernel⟩, gT_in 757 (by decide +kernel) rfl, gT_sel 31 (by decide +kernel) rfl, by decide, rfl⟩
theorem mt_X6_readSimple : mtV mX6_readSimple 0 6 := ⟨⟨gT_in 750 (by decide +kernel) rfl, gT_in 6 (by decide +kernel) rfl, ⟨by decide +kernel, by decide +kernel, by decide +kernel⟩, by decide +kernel, by decide +kernel⟩, gT_in 749 (by decide +kernel) rfl, gT_sel 29 (by decide +kernel) rfl, by decide, rfl⟩
theorem mt_X6_goOut : mtV mX6_goOut 0 6 := ⟨⟨gT_in 771 (by decide +kernel) rfl, gT_in 6 (by decide +kernel) rfl, ⟨by decide +kernel, by decide +kernel, by decide +kernel⟩, by decide +kernel, by decide +kernel⟩, gT_in 770 (by decide +kernel) rfl, gT_sel 33 (by decide +kernel) rfl, by decide, rfl⟩
theorem mt_X6_compile : mtV mX6_compile 0 6 := ⟨⟨gT_in 746 (by decide +kernel) rfl, gT_in 6 (by decide +kernel) rfl, ⟨by decide +kernel, by decide +kernel, by decide +kernel⟩, by decide +kernel, by decide +kernel⟩, gT_in 745 (by decide +kernel) rfl, gT_sel 28 (by decide +kernel) rfl, by decide, rfl⟩
theorem mt_X6_type : mtV mX6_type 1 6 := ⟨⟨gT_in 728 (by decide +kernel) rfl, gT_in 6 (by decide +kernel) rfl, ⟨by decide +kernel, by decide +kernel, by decide +kernel⟩, by decide +kernel, by decide +kernel⟩, gT_in 726 (by decide +kernel) rfl, gT_in 727 (by decide +kernel) rfl, by decide, rfl⟩
theorem mt_X6_wipe : mtV mX6_wipe 0 6 := ⟨⟨gT_in 738 (by decide +kernel) rfl, gT_in 6 (by decide +kernel) rfl, ⟨by decide +kernel, by decide +kernel, by decide +kernel⟩, by decide +kernel, by decide +kernel⟩, gT_in 736 (by decide +kernel) rfl, gT_in 737 (by decide +kernel) rfl, by decide, rfl⟩
theorem mt_X6_fault : mtV mX6_fault 0 6 := ⟨⟨gT_in 742 (by decide +kernel) rfl, gT_in 6 (by decide +kernel) rfl, ⟨by decide +kernel, by decide +kernel, by decide +kernel⟩, by decide +kernel, by decide +kernel⟩, gT_in 740 (by decide +kernel) rfl, gT_in 741 (by decide +kernel) rfl, by decide, rfl⟩
theorem mt_X6_memoryNamed : mtS mX6_memoryNamed 2 := ⟨⟨gT_in 825 (by decide +kernel) rfl, gT_in 6 (by decide +kernel) rfl, ⟨by decide +kernel, by decide +kernel, by decide +kernel⟩, by decide +kernel, by decide +kernel⟩, gT_in 824 (by decide +kernel) rfl⟩
theorem mt_X6_cutMemory : mtS mX6_cutMemory 2 := ⟨⟨gT_in 881 (by decide +kernel) rfl, gT_in 6 (by decide +kernel) rfl, ⟨by decide +kernel, by decide +kernel, by decide +kernel⟩, by decide +kernel, by decide +kernel⟩, gT_in 880 (by decide +kernel) rfl⟩
theorem mt_X6_shiftMemories : mtS mX6_shiftMemories 2 := ⟨⟨gT_in 836 (by decide +kernel) rfl, gT_in 6 (by decide +kernel) rfl, ⟨by decide +kernel, by decide +kernel, by decide +kernel⟩, by decide +kernel, by decide +kernel⟩, gT_in 835 (by decide +kernel) rfl⟩
theorem mt_X6_useMemory : mtV mX6_useMemory 2 6 := ⟨⟨gT_in 833 (by decide +kernel) rfl, gT_in 6 (by decide +kernel) rfl, ⟨by decide +kernel, by decide +kernel, by decide +kernel⟩, by decide +kernel, by decide +kernel⟩, gT_in 832 (by decide +kernel) rfl, gT_sel 39 (by decide +kernel) rfl, by decide, rfl⟩
theorem mt_X6_trim : mtS mX6_trim 1 := ⟨⟨gT_in 786 (by decide +kernel) rfl, gT_in 6 (by decide +kernel) rfl, ⟨by decide +kernel, by decide +kernel, by decide +kernel⟩, by decide +kernel, by decide +kernel⟩, gT_in 785 (by decide +kernel) rfl⟩
theorem mt_X6_begin : mtV mX6_begin 3 6 := ⟨⟨gT_in 815 (by decide +kernel) rfl, gT_in 6 (by decide +kernel) rfl, ⟨by decide +kernel, by decide +kernel, by decide +kernel⟩, by decide +kernel, by decide +kernel⟩, gT_in 814 (by decide +kernel) rfl, gT_sel 36 (by decide +kernel) rfl, by decide, rfl⟩
theorem mt_X6_nextName : mtV mX6_nextName 1 6 := ⟨⟨gT_in 829 (by decide +kernel) rfl, gT_in 6 (by decide +kernel) rfl, ⟨by decide +kernel, by decide +kernel, by decide +kernel⟩, by decide +kernel, by decide +kernel⟩, gT_in 828 (by decide +kernel) rfl, gT_sel 38 (by decide +kernel) rfl, by decide, rfl⟩
theorem mt_X6_compare : mtV mX6_compare 3 6 := ⟨⟨gT_in 843 (by decide +kernel) rfl, gT_in 6 (by decide +kernel) rfl, ⟨by decide +kernel, by decide +kernel, by decide +kernel⟩, by decide +kernel, by decide +kernel⟩, gT_in 842 (by decide +kernel) rfl, gT_sel 40 (by decide +kernel) rfl, by decide, rfl⟩
theorem mt_X6_checkMemories : mtV mX6_checkMemories 2 6 := ⟨⟨gT_in 822 (by decide +kernel) rfl, gT_in 6 (by decide +kernel) rfl, ⟨by decide +kernel, by decide +kernel, by decide +kernel⟩, by decide +kernel, by decide +kernel⟩, gT_in 821 (by decide +kernel) rfl, gT_sel 37 (by decide +kernel) rfl, by decide, rfl⟩
theorem mt_X6_push : mtV mX6_push 2 6 := ⟨⟨gT_in 859 (by decide +kernel) rfl, gT_in 6 (by decide +kernel) rfl, ⟨by decide +kernel, by decide +kernel, by decide +kernel⟩, by decide +kernel, by decide +kernel⟩, gT_in 858 (by decide +kernel) rfl, gT_sel 44 (by decide +kernel) rfl, by decide, rfl⟩
theorem mt_X6_pop : mtV mX6_pop 1 6 := ⟨⟨gT_in 851 (by decide +kernel) rfl, gT_in 6 (by decide +kernel) rfl, ⟨by decide +kernel, by decide +kernel, by decide +kernel⟩, by decide +kernel, by decide +kernel⟩, gT_in 850 (by decide +kernel) rfl, gT_sel 42 (by decide +kernel) rfl, by decide, rfl⟩
theorem mt_X6_lookOf : mtV mX6_lookOf 2 6 := ⟨⟨gT_in 863 (by decide +kernel) rfl, gT_in 6 (by decide +kernel) rfl, ⟨by decide +kernel, by decide +kernel, by decide +kernel⟩, by decide +kernel, by decide +kernel⟩, gT_in 862 (by decide +kernel) rfl, gT_sel 45 (by decide +kernel) rfl, by decide, rfl⟩
theorem mt_X6_endBaking : mtV mX6_endBaking 3 6 := ⟨⟨gT_in 855 (by decide +kernel) rfl, gT_in 6 (by decide +kernel) rfl, ⟨by decide +kernel, by decide +kernel, by decide +kernel⟩, by decide +kernel, by decide +kernel⟩, gT_in 854 (by decide +kernel) rfl, gT_sel 43 (by decide +kernel) rfl, by decide, rfl⟩
theorem mt_X6_take : mtV mX6_take 4 6 := ⟨⟨gT_in 867 (by decide +kernel) rfl, gT_in 6 (by decide +kernel) rfl, ⟨by decide +kernel, by decide +kernel, by decide +kernel⟩, by decide +kernel, by decide +kernel⟩, gT_in 866 (by decide +kernel) rfl, gT_sel 46 (by decide +kernel) rfl, by decide, rfl⟩
theorem mt_X6_reckon : mtS mX6_reckon 3 := ⟨⟨gT_in 870 (by decide +kernel) rfl, gT_in 6 (by decide +kernel) rfl, ⟨by decide +kernel, by decide +kernel, by decide +kernel⟩, by decide +kernel, by decide +kernel⟩, gT_in 869 (by decide +kernel) rfl⟩
theorem mt_X6_bake : mtV mX6_bake 2 6 := ⟨⟨gT_in 847 (by decide +kernel) rfl, gT_in 6 (by decide +kernel) rfl, ⟨by decide +kernel, by decide +kernel, by decide +kernel⟩, by decide +kernel, by decide +kernel⟩, gT_in 846 (by decide +kernel) rfl, gT_sel 41 (by decide +kernel) rfl, by decide, rfl⟩
theorem mt_X6_askOn : mtV mX6_askOn 2 6 := ⟨⟨gT_in 811 (by decide +kernel) rfl, gT_in 6 (by decide +kernel) rfl, ⟨by decide +kernel, by decide +kernel, by decide +kernel⟩, by decide +kernel, by decide +kernel⟩, gT_in 810 (by decide +kernel) rfl, gT_sel 35 (by decide +kernel) rfl, by decide, rfl⟩
theorem mt_X6_comeBack : mtV mX6_comeBack 4 6 := ⟨⟨gT_in 874 (by decide +kernel) rfl, gT_in 6 (by decide +kernel) rfl, ⟨by decide +kernel, by decide +kernel, by decide +kernel⟩, by decide +kernel, by decide +kernel⟩, gT_in 873 (by decide +kernel) rfl, gT_sel 47 (by decide +kernel) rfl, by decide, rfl⟩
theorem mt_X6_record : mtV mX6_record 0 6 := ⟨⟨gT_in 780 (by decide +kernel) rfl, gT_in 6 (by decide +kernel) rfl, ⟨by decide +kernel, by decide +kernel, by decide +kernel⟩, by decide +kernel, by decide +kernel⟩, gT_in 779 (by decide +kernel) rfl, gT_sel 34 (by decide +kernel) rfl, by decide, rfl⟩
theorem mt_X6_set : mtV mX6_set 2 6 := ⟨⟨gT_in 775 (by decide +kernel) rfl, gT_in 6 (by decide +kernel) rfl, ⟨by decide +kernel, by decide +kernel, by decide +kernel⟩, by decide +kernel, by decide +kernel⟩, gT_in 773 (by decide +kernel) rfl, gT_in 774 (by decide +kernel) rfl, by decide, rfl⟩
theorem mt_X6_put : mtV mX6_put 2 6 := ⟨⟨gT_in 790 (by decide +kernel) rfl, gT_in 6 (by decide +kernel) rfl, ⟨by decide +kernel, by decide +kernel, by decide +kernel⟩, by decide +kernel, by decide +kernel⟩, gT_in 788 (by decide +kernel) rfl, gT_in 789 (by decide +kernel) rfl, by decide, rfl⟩
theorem mt_X6_poison : mtV mX6_poison 2 6 := ⟨⟨gT_in 799 (by decide +kernel) rfl, gT_in 6 (by decide +kernel) rfl, ⟨by decide +kernel, by decide +kernel, by decide +kernel⟩, by decide +kernel, by decide +kernel⟩, gT_in 797 (by decide +kernel) rfl, gT_in 798 (by decide +kernel) rfl, by decide, rfl⟩
theorem mt_X6_ask : mtV mX6_ask 1 6 := ⟨⟨gT_in 803 (by decide +kernel) rfl, gT_in 6 (by decide +kernel) rfl, ⟨by decide +kernel, by decide +kernel, by decide +kernel⟩, by decide +kernel, by decide +kernel⟩, gT_in 801 (by decide +kernel) rfl, gT_in 802 (by decide +kernel) rfl, by decide, rfl⟩
theorem mt_X6_forget : mtV mX6_forget 1 6 := ⟨⟨gT_in 878 (by decide +kernel) rfl, gT_in 6 (by decide +kernel) rfl, ⟨by decide +kernel, by decide +kernel, by decide +kernel⟩, by decide +kernel, by decide +kernel⟩, gT_in 876 (by decide +kernel) rfl, gT_in 877 (by decide +kernel) rfl, by decide, rfl⟩
theorem mt_X6_recipe : mtV mX6_recipe 1 6 := ⟨⟨gT_in 885 (by decide +kernel) rfl, gT_in 6 (by decide +kernel) rfl, ⟨by decide +kernel, by decide +kernel, by decide +kernel⟩, by decide +kernel, by decide +kernel⟩, gT_in 883 (by decide +kernel) rfl, gT_in 884 (by decide +kernel) rfl, by decide, rfl⟩
theorem mt_X6_namedBy : mtS mX6_namedBy 3 := ⟨⟨gT_in 893 (by decide +kernel) rfl, gT_in 6 (by decide +kernel) rfl, ⟨by decide +kernel, by decide +kernel, by decide +kernel⟩, by decide +kernel, by decide +kernel⟩, gT_in 892 (by decide +kernel) rfl⟩
theorem mt_X6_ofShelf : mtV mX6_ofShelf 2 6 := ⟨⟨gT_in 889 (by decide +kernel) rfl, gT_in 6 (by decide +kernel) rfl, ⟨by decide +kernel, by decide +kernel, by decide +kernel⟩, by decide +kernel, by decide +kernel⟩, gT_in 887 (by decide +kernel) rfl, gT_in 888 (by decide +kernel) rfl, by decide, rfl⟩
theorem mt_X6_ofLoaf : mtV mX6_ofLoaf 2 6 := ⟨⟨gT_in 897 (by decide +kernel) rfl, gT_in 6 (by decide +kernel) rfl, ⟨by decide +kernel, by decide +kernel, by decide +kernel⟩, by decide +kernel, by decide +kernel⟩, gT_in 895 (by decide +kernel) rfl, gT_in 896 (by decide +kernel) rfl, by decide, rfl⟩
theorem mt_X6_ofMemory : mtV mX6_ofMemory 2 6 := ⟨⟨gT_in 901 (by decide +kernel) rfl, gT_in 6 (by decide +kernel) rfl, ⟨by decide +kernel, by decide +kernel, by decide +kernel⟩, by decide +kernel, by decide +kernel⟩, gT_in 899 (by decide +kernel) rfl, gT_in 900 (by decide +kernel) rfl, by decide, rfl⟩
theorem mt_X6_look : mtV mX6_look 3 6 := ⟨⟨gT_in 906 (by decide +kernel) rfl, gT_in 6 (by decide +kernel) rfl, ⟨by decide +kernel, by decide +kernel, by decide +kernel⟩, by decide +kernel, by decide +kernel⟩, gT_in 904 (by decide +kernel) rfl, gT_in 905 (by decide +kernel) rfl, by decide, rfl⟩
theorem mt_X6_count : mtV mX6_count 1 6 := ⟨⟨gT_in 910 (by decide +kernel) rfl, gT_in 6 (by decide +kernel) rfl, ⟨by decide +kernel, by decide +kernel, by decide +kernel⟩, by decide +kernel, by decide +kernel⟩, gT_in 908 (by decide +kernel) rfl, gT_in 909 (by decide +kernel) rfl, by decide, rfl⟩
theorem mt_X6_reckonLoaf : mtV mX6_reckonLoaf 2 6 := ⟨⟨gT_in 922 (by decide +kernel) rfl, gT_in 6 (by decide +kernel) rfl, ⟨by decide +kernel, by decide +kernel, by decide +kernel⟩, by decide +kernel, by decide +kernel⟩, gT_in 921 (by decide +kernel) rfl, gT_sel 49 (by decide +kernel) rfl, by decide, rfl⟩
theorem mt_X6_reckonAll : mtV mX6_reckonAll 1 6 := ⟨⟨gT_in 918 (by decide +kernel) rfl, gT_in 6 (by decide +kernel) rfl, ⟨by decide +kernel, by decide +kernel, by decide +kernel⟩, by decide +kernel, by decide +kernel⟩, gT_in 917 (by decide +kernel) rfl, gT_sel 48 (by decide +kernel) rfl, by decide, rfl⟩
theorem mt_X6_fresh : mtV mX6_fresh 1 6 := ⟨⟨gT_in 914 (by decide +kernel) rfl, gT_in 6 (by decide +kernel) rfl, ⟨by decide +kernel, by decide +kernel, by decide +kernel⟩, by decide +kernel, by decide +kernel⟩, gT_in 912 (by decide +kernel) rfl, gT_in 913 (by decide +kernel) rfl, by decide, rfl⟩
theorem mt_X6_allAlike : mtV mX6_allAlike 1 6 := ⟨⟨gT_in 930 (by decide +kernel) rfl, gT_in 6 (by decide +kernel) rfl, ⟨by decide +kernel, by decide +kernel, by decide +kernel⟩, by decide +kernel, by decide +kernel⟩, gT_in 929 (by decide +kernel) rfl, gT_sel 50 (by decide +kernel) rfl, by decide, rfl⟩
theorem mt_X6_fits : mtV mX6_fits 1 6 := ⟨⟨gT_in 926 (by decide +kernel) rfl, gT_in 6 (by decide +kernel) rfl, ⟨by decide +kernel, by decide +kernel, by decide +kernel⟩, by decide +kernel, by decide +kernel⟩, gT_in 924 (by decide +kernel) rfl, gT_in 925 (by decide +kernel) rfl, by decide, rfl⟩
theorem mt_X6_looksAt : mtV mX6_looksAt 1 6 := ⟨⟨gT_in 934 (by decide +kernel) rfl, gT_in 6 (by decide +kernel) rfl, ⟨by decide +kernel, by decide +kernel, by decide +kernel⟩, by decide +kernel, by decide +kernel⟩, gT_in 932 (by decide +kernel) rfl, gT_in 933 (by decide +kernel) rfl, by decide, rfl⟩
theorem mt_X6_changes : mtV mX6_changes 2 6 := ⟨⟨gT_in 938 (by decide +kernel) rfl, gT_in 6 (by decide +kernel) rfl, ⟨by decide +kernel, by decide +kernel, by decide +kernel⟩, by decide +kernel, by decide +kernel⟩, gT_in 936 (by decide +kernel) rfl, gT_in 937 (by decide +kernel) rfl, by decide, rfl⟩
theorem mt_X6_numberFor : mtV mX6_numberFor 3 6 := ⟨⟨gT_in 942 (by decide +kernel) rfl, gT_in 6 (by decide +kernel) rfl, ⟨by decide +kernel, by decide +kernel, by decide +kernel⟩, by decide +kernel, by decide +kernel⟩, gT_in 940 (by decide +kernel) rfl, gT_in 941 (by decide +kernel) rfl, by decide, rfl⟩
theorem mt_X6_stepsFor : mtV mX6_stepsFor 1 6 := ⟨⟨gT_in 947 (by decide +kernel) rfl, gT_in 6 (by decide +kernel) rfl, ⟨by decide +kernel, by decide +kernel, by decide +kernel⟩, by decide +kernel, by decide +kernel⟩, gT_in 945 (by decide +kernel) rfl, gT_in 946 (by decide +kernel) rfl, by decide, rfl⟩
theorem mt_X6_undo : mtV mX6_undo 0 6 := ⟨⟨gT_in 951 (by decide +kernel) rfl, gT_in 6 (by decide +kernel) rfl, ⟨by decide +kernel, by decide +kernel, by decide +kernel⟩, by decide +kernel, by decide +kernel⟩, gT_in 949 (by decide +kernel) rfl, gT_in 950 (by decide +kernel) rfl, by decide, rfl⟩
theorem mt_X6_save : mtV mX6_save 1 6 := ⟨⟨gT_in 955 (by decide +kernel) rfl, gT_in 6 (by decide +kernel) rfl, ⟨by decide +kernel, by decide +kernel, by decide +kernel⟩, by decide +kernel, by decide +kernel⟩, gT_in 953 (by decide +kernel) rfl, gT_in 954 (by decide +kernel) rfl, by decide, rfl⟩
theorem mt_X6_restore : mtV mX6_restore 1 6 := ⟨⟨gT_in 959 (by decide +kernel) rfl, gT_in 6 (by decide +kernel) rfl, ⟨by decide +kernel, by decide +kernel, by decide +kernel⟩, by decide +kernel, by decide +kernel⟩, gT_in 957 (by decide +kernel) rfl, gT_in 958 (by decide +kernel) rfl, by decide, rfl⟩
theorem mt_J7_fill_53178 : mtS mJ7_fill_53178 2 := ⟨⟨gT_in 308 (by decide +kernel) rfl, gT_in 8 (by decide +kernel) rfl, ⟨by decide +kernel, by decide +kernel, by decide +kernel⟩, by decide +kernel, by decide +kernel⟩, gT_in 307 (by decide +kernel) rfl⟩
theorem mt_J7_copyOf_59c91 : mtS mJ7_copyOf_59c91 2 := ⟨⟨gT_in 493 (by decide +kernel) rfl, gT_in 8 (by decide +kernel) rfl, ⟨by decide +kernel, by decide +kernel, by decide +kernel⟩, by decide +kernel, by decide +kernel⟩, gT_in 492 (by decide +kernel) rfl⟩
end
section
section VRows
variable {G : GT} {d k n : Nat} {M : MM} {pc : Nat} {ls st : List AV} {σ : Sg} {Q : Option AV → Sg → Prop}
theorem nol_0 {ls : List AV} : nol ls 0 := fun _ h => absurd rfl h
theorem nol_s {ls : List AV} {i : Nat} {v : AV} (h : ls[i]? = some v) (hv : ∀ x, v ≠ Vl x) : nol ls (i + 1) := by
  intro x _ e
  rw [Nat.add_sub_cancel, h] at e
  exact hv x (Option.some.inj e)
theorem ar_ist_0 {v0 : AV} {t : List AV} {x : Int} (q : Nat) (hq : pc + 1 = q) (hd : decode (bc M) pc = .ok (.istore_n 0, 1)) (hlen : (v0 :: t).length = M.2.2.1) 
    (kk : WA G d k n M q (Vi x :: t) st σ Q) : WA G d k n M pc (v0 :: t) (Vi x :: st) σ Q := ar_istore_n (i := 0) q hq hd hlen (by show 0 < _; simp) nol_0 kk
theorem ar_ast_0 {v0 : AV} {t : List AV} {r : Option Nat} (q : Nat) (hq : pc + 1 = q) (hd : decode (bc M) pc = .ok (.astore_n 0, 1)) (hlen : (v0 :: t).length = M.2.2.1) 
    (kk : WA G d k n M q (Vr r :: t) st σ Q) : WA G d k n M pc (v0 :: t) (Vr r :: st) σ Q := ar_astore_n (i := 0) q hq hd hlen (by show 0 < _; simp) nol_0 kk
theorem ar_inc_0 {t : List AV} {x z y : Int} (q : Nat) (hq : pc + 3 = q) (hd : decode (bc M) pc = .ok (.iinc 0 z, 3)) (hlen : (Vi x :: t).length = M.2.2.1)  (hy : x + z = y)
    (kk : WA G d k n M q (Vi y :: t) st σ Q) : WA G d k n M pc (Vi x :: t) st σ Q := by
  subst hy
  exact ar_iinc (i := 0) q hq hd hlen rfl nol_0 kk
theorem ar_ist_1 {v0 v1 : AV} {t : List AV} {x : Int} (q : Nat) (hq : pc + 1 = q) (hd : decode (bc M) pc = .ok (.istore_n 1, 1)) (hlen : (v0 :: v1 :: t).length = M.2.2.1) (hv : ∀ x, v0 ≠ Vl x)
    (kk : WA G d k n M q (v0 :: Vi x :: t) st σ Q) : WA G d k n M pc (v0 :: v1 :: t) (Vi x :: st) σ Q := ar_istore_n (i := 1) q hq hd hlen (by show 1 < _; simp) (nol_s (v := v0) rfl hv) kk
theorem ar_ast_1 {v0 v1 : AV} {t : List AV} {r : Option Nat} (q : Nat) (hq : pc + 1 = q) (hd : decode (bc M) pc = .ok (.astore_n 1, 1)) (hlen : (v0 :: v1 :: t).length = M.2.2.1) (hv : ∀ x, v0 ≠ Vl x)
    (kk : WA G d k n M q (v0 :: Vr r :: t) st σ Q) : WA G d k n M pc (v0 :: v1 :: t) (Vr r :: st) σ Q := ar_astore_n (i := 1) q hq hd hlen (by show 1 < _; simp) (nol_s (v := v0) rfl hv) kk
theorem ar_inc_1 {v0 : AV} {t : List AV} {x z y : Int} (q : Nat) (hq : pc + 3 = q) (hd : decode (bc M) pc = .ok (.iinc 1 z, 3)) (hlen : (v0 :: Vi x :: t).length = M.2.2.1) (hv : ∀ x, v0 ≠ Vl x) (hy : x + z = y)
    (kk : WA G d k n M q (v0 :: Vi y :: t) st σ Q) : WA G d k n M pc (v0 :: Vi x :: t) st σ Q := by
  subst hy
  exact ar_iinc (i := 1) q hq hd hlen rfl (nol_s (v := v0) rfl hv) kk
theorem ar_lst_1 {v0 v1 v2 : AV} {t : List AV} {x : Int} (q : Nat) (hq : pc + 1 = q) (hd : decode (bc M) pc = .ok (.lstore_n 1, 1)) (hlen : (v0 :: v1 :: v2 :: t).length = M.2.2.1) (hv : ∀ x, v0 ≠ Vl x)
    (kk : WA G d k n M q (v0 :: Vl x :: Vu :: t) st σ Q) : WA G d k n M pc (v0 :: v1 :: v2 :: t) (Vl x :: st) σ Q := ar_lstore_n (i := 1) q hq hd hlen (by show 1 + 1 < _; simp) (nol_s (v := v0) rfl hv) kk
theorem ar_ist_2 {v0 v1 v2 : AV} {t : List AV} {x : Int} (q : Nat) (hq : pc + 1 = q) (hd : decode (bc M) pc = .ok (.istore_n 2, 1)) (hlen : (v0 :: v1 :: v2 :: t).length = M.2.2.1) (hv : ∀ x, v1 ≠ Vl x)
    (kk : WA G d k n M q (v0 :: v1 :: Vi x :: t) st σ Q) : WA G d k n M pc (v0 :: v1 :: v2 :: t) (Vi x :: st) σ Q := ar_istore_n (i := 2) q hq hd hlen (by show 2 < _; simp) (nol_s (v := v1) rfl hv) kk
theorem ar_ast_2 {v0 v1 v2 : AV} {t : List AV} {r : Option Nat} (q : Nat) (hq : pc + 1 = q) (hd : decode (bc M) pc = .ok (.astore_n 2, 1)) (hlen : (v0 :: v1 :: v2 :: t).length = M.2.2.1) (hv : ∀ x, v1 ≠ Vl x)
    (kk : WA G d k n M q (v0 :: v1 :: Vr r :: t) st σ Q) : WA G d k n M pc (v0 :: v1 :: v2 :: t) (Vr r :: st) σ Q := ar_astore_n (i := 2) q hq hd hlen (by show 2 < _; simp) (nol_s (v := v1) rfl hv) kk
theorem ar_inc_2 {v0 v1 : AV} {t : List AV} {x z y : Int} (q : Nat) (hq : pc + 3 = q) (hd : decode (bc M) pc = .ok (.iinc 2 z, 3)) (hlen : (v0 :: v1 :: Vi x :: t).length = M.2.2.1) (hv : ∀ x, v1 ≠ Vl x) (hy : x + z = y)
    (kk : WA G d k n M q (v0 :: v1 :: Vi y :: t) st σ Q) : WA G d k n M pc (v0 :: v1 :: Vi x :: t) st σ Q := by
  subst hy
  exact ar_iinc (i := 2) q hq hd hlen rfl (nol_s (v := v1) rfl hv) kk
theorem ar_lst_2 {v0 v1 v2 v3 : AV} {t : List AV} {x : Int} (q : Nat) (hq : pc + 1 = q) (hd : decode (bc M) pc = .ok (.lstore_n 2, 1)) (hlen : (v0 :: v1 :: v2 :: v3 :: t).length = M.2.2.1) (hv : ∀ x, v1 ≠ Vl x)
    (kk : WA G d k n M q (v0 :: v1 :: Vl x :: Vu :: t) st σ Q) : WA G d k n M pc (v0 :: v1 :: v2 :: v3 :: t) (Vl x :: st) σ Q := ar_lstore_n (i := 2) q hq hd hlen (by show 2 + 1 < _; simp) (nol_s (v := v1) rfl hv) kk
theorem ar_ist_3 {v0 v1 v2 v3 : AV} {t : List AV} {x : Int} (q : Nat) (hq : pc + 1 = q) (hd : decode (bc M) pc = .ok (.istore_n 3, 1)) (hlen : (v0 :: v1 :: v2 :: v3 :: t).length = M.2.2.1) (hv : ∀ x, v2 ≠ Vl x)
    (kk : WA G d k n M q (v0 :: v1 :: v2 :: Vi x :: t) st σ Q) : WA G d k n M pc (v0 :: v1 :: v2 :: v3 :: t) (Vi x :: st) σ Q := ar_istore_n (i := 3) q hq hd hlen (by show 3 < _; simp) (nol_s (v := v2) rfl hv) kk
theorem ar_ast_3 {v0 v1 v2 v3 : AV} {t : List AV} {r : Option Nat} (q : Nat) (hq : pc + 1 = q) (hd : decode (bc M) pc = .ok (.astore_n 3, 1)) (hlen : (v0 :: v1 :: v2 :: v3 :: t).length = M.2.2.1) (hv : ∀ x, v2 ≠ Vl x)
    (kk : WA G d k n M q (v0 :: v1 :: v2 :: Vr r :: t) st σ Q) : WA G d k n M pc (v0 :: v1 :: v2 :: v3 :: t) (Vr r :: st) σ Q := ar_astore_n (i := 3) q hq hd hlen (by show 3 < _; simp) (nol_s (v := v2) rfl hv) kk
theorem ar_inc_3 {v0 v1 v2 : AV} {t : List AV} {x z y : Int} (q : Nat) (hq : pc + 3 = q) (hd : decode (bc M) pc = .ok (.iinc 3 z, 3)) (hlen : (v0 :: v1 :: v2 :: Vi x :: t).length = M.2.2.1) (hv : ∀ x, v2 ≠ Vl x) (hy : x + z = y)
    (kk : WA G d k n M q (v0 :: v1 :: v2 :: Vi y :: t) st σ Q) : WA G d k n M pc (v0 :: v1 :: v2 :: Vi x :: t) st σ Q := by
  subst hy
  exact ar_iinc (i := 3) q hq hd hlen rfl (nol_s (v := v2) rfl hv) kk
theorem ar_lst_3 {v0 v1 v2 v3 v4 : AV} {t : List AV} {x : Int} (q : Nat) (hq : pc + 1 = q) (hd : decode (bc M) pc = .ok (.lstore_n 3, 1)) (hlen : (v0 :: v1 :: v2 :: v3 :: v4 :: t).length = M.2.2.1) (hv : ∀ x, v2 ≠ Vl x)
    (kk : WA G d k n M q (v0 :: v1 :: v2 :: Vl x :: Vu :: t) st σ Q) : WA G d k n M pc (v0 :: v1 :: v2 :: v3 :: v4 :: t) (Vl x :: st) σ Q := ar_lstore_n (i := 3) q hq hd hlen (by show 3 + 1 < _; simp) (nol_s (v := v2) rfl hv) kk
theorem ar_ist_4 {v0 v1 v2 v3 v4 : AV} {t : List AV} {x : Int} (q : Nat) (hq : pc + 2 = q) (hd : decode (bc M) pc = .ok (.istore 4, 2)) (hlen : (v0 :: v1 :: v2 :: v3 :: v4 :: t).length = M.2.2.1) (hv : ∀ x, v3 ≠ Vl x)
    (kk : WA G d k n M q (v0 :: v1 :: v2 :: v3 :: Vi x :: t) st σ Q) : WA G d k n M pc (v0 :: v1 :: v2 :: v3 :: v4 :: t) (Vi x :: st) σ Q := ar_istore (i := 4) q hq hd hlen (by show 4 < _; simp) (nol_s (v := v3) rfl hv) kk
theorem ar_ast_4 {v0 v1 v2 v3 v4 : AV} {t : List AV} {r : Option Nat} (q : Nat) (hq : pc + 2 = q) (hd : decode (bc M) pc = .ok (.astore 4, 2)) (hlen : (v0 :: v1 :: v2 :: v3 :: v4 :: t).length = M.2.2.1) (hv : ∀ x, v3 ≠ Vl x)
    (kk : WA G d k n M q (v0 :: v1 :: v2 :: v3 :: Vr r :: t) st σ Q) : WA G d k n M pc (v0 :: v1 :: v2 :: v3 :: v4 :: t) (Vr r :: st) σ Q := ar_astore (i := 4) q hq hd hlen (by show 4 < _; simp) (nol_s (v := v3) rfl hv) kk
theorem ar_inc_4 {v0 v1 v2 v3 : AV} {t : List AV} {x z y : Int} (q : Nat) (hq : pc + 3 = q) (hd : decode (bc M) pc = .ok (.iinc 4 z, 3)) (hlen : (v0 :: v1 :: v2 :: v3 :: Vi x :: t).length = M.2.2.1) (hv : ∀ x, v3 ≠ Vl x) (hy : x + z = y)
    (kk : WA G d k n M q (v0 :: v1 :: v2 :: v3 :: Vi y :: t) st σ Q) : WA G d k n M pc (v0 :: v1 :: v2 :: v3 :: Vi x :: t) st σ Q := by
  subst hy
  exact ar_iinc (i := 4) q hq hd hlen rfl (nol_s (v := v3) rfl hv) kk
theorem ar_lst_4 {v0 v1 v2 v3 v4 v5 : AV} {t : List AV} {x : Int} (q : Nat) (hq : pc + 2 = q) (hd : decode (bc M) pc = .ok (.lstore 4, 2)) (hlen : (v0 :: v1 :: v2 :: v3 :: v4 :: v5 :: t).length = M.2.2.1) (hv : ∀ x, v3 ≠ Vl x)
    (kk : WA G d k n M q (v0 :: v1 :: v2 :: v3 :: Vl x :: Vu :: t) st σ Q) : WA G d k n M pc (v0 :: v1 :: v2 :: v3 :: v4 :: v5 :: t) (Vl x :: st) σ Q := ar_lstore (i := 4) q hq hd hlen (by show 4 + 1 < _; simp) (nol_s (v := v3) rfl hv) kk
theorem ar_ist_5 {v0 v1 v2 v3 v4 v5 : AV} {t : List AV} {x : Int} (q : Nat) (hq : pc + 2 = q) (hd : decode (bc M) pc = .ok (.istore 5, 2)) (hlen : (v0 :: v1 :: v2 :: v3 :: v4 :: v5 :: t).length = M.2.2.1) (hv : ∀ x, v4 ≠ Vl x)
    (kk : WA G d k n M q (v0 :: v1 :: v2 :: v3 :: v4 :: Vi x :: t) st σ Q) : WA G d k n M pc (v0 :: v1 :: v2 :: v3 :: v4 :: v5 :: t) (Vi x :: st) σ Q := ar_istore (i := 5) q hq hd hlen (by show 5 < _; simp) (nol_s (v := v4) rfl hv) kk
theorem ar_ast_5 {v0 v1 v2 v3 v4 v5 : AV} {t : List AV} {r : Option Nat} (q : Nat) (hq : pc + 2 = q) (hd : decode (bc M) pc = .ok (.astore 5, 2)) (hlen : (v0 :: v1 :: v2 :: v3 :: v4 :: v5 :: t).length = M.2.2.1) (hv : ∀ x, v4 ≠ Vl x)
    (kk : WA G d k n M q (v0 :: v1 :: v2 :: v3 :: v4 :: Vr r :: t) st σ Q) : WA G d k n M pc (v0 :: v1 :: v2 :: v3 :: v4 :: v5 :: t) (Vr r :: st) σ Q := ar_astore (i := 5) q hq hd hlen (by show 5 < _; simp) (nol_s (v := v4) rfl hv) kk
theorem ar_inc_5 {v0 v1 v2 v3 v4 : AV} {t : List AV} {x z y : Int} (q : Nat) (hq : pc + 3 = q) (hd : decode (bc M) pc = .ok (.iinc 5 z, 3)) (hlen : (v0 :: v1 :: v2 :: v3 :: v4 :: Vi x :: t).length = M.2.2.1) (hv : ∀ x, v4 ≠ Vl x) (hy : x + z = y)
    (kk : WA G d k n M q (v0 :: v1 :: v2 :: v3 :: v4 :: Vi y :: t) st σ Q) : WA G d k n M pc (v0 :: v1 :: v2 :: v3 :: v4 :: Vi x :: t) st σ Q := by
  subst hy
  exact ar_iinc (i := 5) q hq hd hlen rfl (nol_s (v := v4) rfl hv) kk
theorem ar_lst_5 {v0 v1 v2 v3 v4 v5 v6 : AV} {t : List AV} {x : Int} (q : Nat) (hq : pc + 2 = q) (hd : decode (bc M) pc = .ok (.lstore 5, 2)) (hlen : (v0 :: v1 :: v2 :: v3 :: v4 :: v5 :: v6 :: t).length = M.2.2.1) (hv : ∀ x, v4 ≠ Vl x)
    (kk : WA G d k n M q (v0 :: v1 :: v2 :: v3 :: v4 :: Vl x :: Vu :: t) st σ Q) : WA G d k n M pc (v0 :: v1 :: v2 :: v3 :: v4 :: v5 :: v6 :: t) (Vl x :: st) σ Q := ar_lstore (i := 5) q hq hd hlen (by show 5 + 1 < _; simp) (nol_s (v := v4) rfl hv) kk
theorem ar_ist_6 {v0 v1 v2 v3 v4 v5 v6 : AV} {t : List AV} {x : Int} (q : Nat) (hq : pc + 2 = q) (hd : decode (bc M) pc = .ok (.istore 6, 2)) (hlen : (v0 :: v1 :: v2 :: v3 :: v4 :: v5 :: v6 :: t).length = M.2.2.1) (hv : ∀ x, v5 ≠ Vl x)
    (kk : WA G d k n M q (v0 :: v1 :: v2 :: v3 :: v4 :: v5 :: Vi x :: t) st σ Q) : WA G d k n M pc (v0 :: v1 :: v2 :: v3 :: v4 :: v5 :: v6 :: t) (Vi x :: st) σ Q := ar_istore (i := 6) q hq hd hlen (by show 6 < _; simp) (nol_s (v := v5) rfl hv) kk
theorem ar_ast_6 {v0 v1 v2 v3 v4 v5 v6 : AV} {t : List AV} {r : Option Nat} (q : Nat) (hq : pc + 2 = q) (hd : decode (bc M) pc = .ok (.astore 6, 2)) (hlen : (v0 :: v1 :: v2 :: v3 :: v4 :: v5 :: v6 :: t).length = M.2.2.1) (hv : ∀ x, v5 ≠ Vl x)
    (kk : WA G d k n M q (v0 :: v1 :: v2 :: v3 :: v4 :: v5 :: Vr r :: t) st σ Q) : WA G d k n M pc (v0 :: v1 :: v2 :: v3 :: v4 :: v5 :: v6 :: t) (Vr r :: st) σ Q := ar_astore (i := 6) q hq hd hlen (by show 6 < _; simp) (nol_s (v := v5) rfl hv) kk
theorem ar_inc_6 {v0 v1 v2 v3 v4 v5 : AV} {t : List AV} {x z y : Int} (q : Nat) (hq : pc + 3 = q) (hd : decode (bc M) pc = .ok (.iinc 6 z, 3)) (hlen : (v0 :: v1 :: v2 :: v3 :: v4 :: v5 :: Vi x :: t).length = M.2.2.1) (hv : ∀ x, v5 ≠ Vl x) (hy : x + z = y)
    (kk : WA G d k n M q (v0 :: v1 :: v2 :: v3 :: v4 :: v5 :: Vi y :: t) st σ Q) : WA G d k n M pc (v0 :: v1 :: v2 :: v3 :: v4 :: v5 :: Vi x :: t) st σ Q := by
  subst hy
  exact ar_iinc (i := 6) q hq hd hlen rfl (nol_s (v := v5) rfl hv) kk
theorem ar_lst_6 {v0 v1 v2 v3 v4 v5 v6 v7 : AV} {t : List AV} {x : Int} (q : Nat) (hq : pc + 2 = q) (hd : decode (bc M) pc = .ok (.lstore 6, 2)) (hlen : (v0 :: v1 :: v2 :: v3 :: v4 :: v5 :: v6 :: v7 :: t).length = M.2.2.1) (hv : ∀ x, v5 ≠ Vl x)
    (kk : WA G d k n M q (v0 :: v1 :: v2 :: v3 :: v4 :: v5 :: Vl x :: Vu :: t) st σ Q) : WA G d k n M pc (v0 :: v1 :: v2 :: v3 :: v4 :: v5 :: v6 :: v7 :: t) (Vl x :: st) σ Q := ar_lstore (i := 6) q hq hd hlen (by show 6 + 1 < _; simp) (nol_s (v := v5) rfl hv) kk
theorem ar_ist_7 {v0 v1 v2 v3 v4 v5 v6 v7 : AV} {t : List AV} {x : Int} (q : Nat) (hq : pc + 2 = q) (hd : decode (bc M) pc = .ok (.istore 7, 2)) (hlen : (v0 :: v1 :: v2 :: v3 :: v4 :: v5 :: v6 :: v7 :: t).length = M.2.2.1) (hv : ∀ x, v6 ≠ Vl x)
    (kk : WA G d k n M q (v0 :: v1 :: v2 :: v3 :: v4 :: v5 :: v6 :: Vi x :: t) st σ Q) : WA G d k n M pc (v0 :: v1 :: v2 :: v3 :: v4 :: v5 :: v6 :: v7 :: t) (Vi x :: st) σ Q := ar_istore (i := 7) q hq hd hlen (by show 7 < _; simp) (nol_s (v := v6) rfl hv) kk
theorem ar_ast_7 {v0 v1 v2 v3 v4 v5 v6 v7 : AV} {t : List AV} {r : Option Nat} (q : Nat) (hq : pc + 2 = q) (hd : decode (bc M) pc = .ok (.astore 7, 2)) (hlen : (v0 :: v1 :: v2 :: v3 :: v4 :: v5 :: v6 :: v7 :: t).length = M.2.2.1) (hv : ∀ x, v6 ≠ Vl x)
    (kk : WA G d k n M q (v0 :: v1 :: v2 :: v3 :: v4 :: v5 :: v6 :: Vr r :: t) st σ Q) : WA G d k n M pc (v0 :: v1 :: v2 :: v3 :: v4 :: v5 :: v6 :: v7 :: t) (Vr r :: st) σ Q := ar_astore (i := 7) q hq hd hlen (by show 7 < _; simp) (nol_s (v := v6) rfl hv) kk
theorem ar_inc_7 {v0 v1 v2 v3 v4 v5 v6 : AV} {t : List AV} {x z y : Int} (q : Nat) (hq : pc + 3 = q) (hd : decode (bc M) pc = .ok (.iinc 7 z, 3)) (hlen : (v0 :: v1 :: v2 :: v3 :: v4 :: v5 :: v6 :: Vi x :: t).length = M.2.2.1) (hv : ∀ x, v6 ≠ Vl x) (hy : x + z = y)
    (kk : WA G d k n M q (v0 :: v1 :: v2 :: v3 :: v4 :: v5 :: v6 :: Vi y :: t) st σ Q) : WA G d k n M pc (v0 :: v1 :: v2 :: v3 :: v4 :: v5 :: v6 :: Vi x :: t) st σ Q := by
  subst hy
  exact ar_iinc (i := 7) q hq hd hlen rfl (nol_s (v := v6) rfl hv) kk
theorem ar_lst_7 {v0 v1 v2 v3 v4 v5 v6 v7 v8 : AV} {t : List AV} {x : Int} (q : Nat) (hq : pc + 2 = q) (hd : decode (bc M) pc = .ok (.lstore 7, 2)) (hlen : (v0 :: v1 :: v2 :: v3 :: v4 :: v5 :: v6 :: v7 :: v8 :: t).length = M.2.2.1) (hv : ∀ x, v6 ≠ Vl x)
    (kk : WA G d k n M q (v0 :: v1 :: v2 :: v3 :: v4 :: v5 :: v6 :: Vl x :: Vu :: t) st σ Q) : WA G d k n M pc (v0 :: v1 :: v2 :: v3 :: v4 :: v5 :: v6 :: v7 :: v8 :: t) (Vl x :: st) σ Q := ar_lstore (i := 7) q hq hd hlen (by show 7 + 1 < _; simp) (nol_s (v := v6) rfl hv) kk
theorem ar_ist_8 {v0 v1 v2 v3 v4 v5 v6 v7 v8 : AV} {t : List AV} {x : Int} (q : Nat) (hq : pc + 2 = q) (hd : decode (bc M) pc = .ok (.istore 8, 2)) (hlen : (v0 :: v1 :: v2 :: v3 :: v4 :: v5 :: v6 :: v7 :: v8 :: t).length = M.2.2.1) (hv : ∀ x, v7 ≠ Vl x)
    (kk : WA G d k n M q (v0 :: v1 :: v2 :: v3 :: v4 :: v5 :: v6 :: v7 :: Vi x :: t) st σ Q) : WA G d k n M pc (v0 :: v1 :: v2 :: v3 :: v4 :: v5 :: v6 :: v7 :: v8 :: t) (Vi x :: st) σ Q := ar_istore (i := 8) q hq hd hlen (by show 8 < _; simp) (nol_s (v := v7) rfl hv) kk
theorem ar_ast_8 {v0 v1 v2 v3 v4 v5 v6 v7 v8 : AV} {t : List AV} {r : Option Nat} (q : Nat) (hq : pc + 2 = q) (hd : decode (bc M) pc = .ok (.astore 8, 2)) (hlen : (v0 :: v1 :: v2 :: v3 :: v4 :: v5 :: v6 :: v7 :: v8 :: t).length = M.2.2.1) (hv : ∀ x, v7 ≠ Vl x)
    (kk : WA G d k n M q (v0 :: v1 :: v2 :: v3 :: v4 :: v5 :: v6 :: v7 :: Vr r :: t) st σ Q) : WA G d k n M pc (v0 :: v1 :: v2 :: v3 :: v4 :: v5 :: v6 :: v7 :: v8 :: t) (Vr r :: st) σ Q := ar_astore (i := 8) q hq hd hlen (by show 8 < _; simp) (nol_s (v := v7) rfl hv) kk
theorem ar_inc_8 {v0 v1 v2 v3 v4 v5 v6 v7 : AV} {t : List AV} {x z y : Int} (q : Nat) (hq : pc + 3 = q) (hd : decode (bc M) pc = .ok (.iinc 8 z, 3)) (hlen : (v0 :: v1 :: v2 :: v3 :: v4 :: v5 :: v6 :: v7 :: Vi x :: t).length = M.2.2.1) (hv : ∀ x, v7 ≠ Vl x) (hy : x + z = y)
    (kk : WA G d k n M q (v0 :: v1 :: v2 :: v3 :: v4 :: v5 :: v6 :: v7 :: Vi y :: t) st σ Q) : WA G d k n M pc (v0 :: v1 :: v2 :: v3 :: v4 :: v5 :: v6 :: v7 :: Vi x :: t) st σ Q := by
  subst hy
  exact ar_iinc (i := 8) q hq hd hlen rfl (nol_s (v := v7) rfl hv) kk
theorem ar_lst_8 {v0 v1 v2 v3 v4 v5 v6 v7 v8 v9 : AV} {t : List AV} {x : Int} (q : Nat) (hq : pc + 2 = q) (hd : decode (bc M) pc = .ok (.lstore 8, 2)) (hlen : (v0 :: v1 :: v2 :: v3 :: v4 :: v5 :: v6 :: v7 :: v8 :: v9 :: t).length = M.2.2.1) (hv : ∀ x, v7 ≠ Vl x)
    (kk : WA G d k n M q (v0 :: v1 :: v2 :: v3 :: v4 :: v5 :: v6 :: v7 :: Vl x :: Vu :: t) st σ Q) : WA G d k n M pc (v0 :: v1 :: v2 :: v3 :: v4 :: v5 :: v6 :: v7 :: v8 :: v9 :: t) (Vl x :: st) σ Q := ar_lstore (i := 8) q hq hd hlen (by show 8 + 1 < _; simp) (nol_s (v := v7) rfl hv) kk
theorem ar_ist_9 {v0 v1 v2 v3 v4 v5 v6 v7 v8 v9 : AV} {t : List AV} {x : Int} (q : Nat) (hq : pc + 2 = q) (hd : decode (bc M) pc = .ok (.istore 9, 2)) (hlen : (v0 :: v1 :: v2 :: v3 :: v4 :: v5 :: v6 :: v7 :: v8 :: v9 :: t).length = M.2.2.1) (hv : ∀ x, v8 ≠ Vl x)
    (kk : WA G d k n M q (v0 :: v1 :: v2 :: v3 :: v4 :: v5 :: v6 :: v7 :: v8 :: Vi x :: t) st σ Q) : WA G d k n M pc (v0 :: v1 :: v2 :: v3 :: v4 :: v5 :: v6 :: v7 :: v8 :: v9 :: t) (Vi x :: st) σ Q := ar_istore (i := 9) q hq hd hlen (by show 9 < _; simp) (nol_s (v := v8) rfl hv) kk
theorem ar_ast_9 {v0 v1 v2 v3 v4 v5 v6 v7 v8 v9 : AV} {t : List AV} {r : Option Nat} (q : Nat) (hq : pc + 2 = q) (hd : decode (bc M) pc = .ok (.astore 9, 2)) (hlen : (v0 :: v1 :: v2 :: v3 :: v4 :: v5 :: v6 :: v7 :: v8 :: v9 :: t).length = M.2.2.1) (hv : ∀ x, v8 ≠ Vl x)
    (kk : WA G d k n M q (v0 :: v1 :: v2 :: v3 :: v4 :: v5 :: v6 :: v7 :: v8 :: Vr r :: t) st σ Q) : WA G d k n M pc (v0 :: v1 :: v2 :: v3 :: v4 :: v5 :: v6 :: v7 :: v8 :: v9 :: t) (Vr r :: st) σ Q := ar_astore (i := 9) q hq hd hlen (by show 9 < _; simp) (nol_s (v := v8) rfl hv) kk
theorem ar_inc_9 {v0 v1 v2 v3 v4 v5 v6 v7 v8 : AV} {t : List AV} {x z y : Int} (q : Nat) (hq : pc + 3 = q) (hd : decode (bc M) pc = .ok (.iinc 9 z, 3)) (hlen : (v0 :: v1 :: v2 :: v3 :: v4 :: v5 :: v6 :: v7 :: v8 :: Vi x :: t).length = M.2.2.1) (hv : ∀ x, v8 ≠ Vl x) (hy : x + z = y)
    (kk : WA G d k n M q (v0 :: v1 :: v2 :: v3 :: v4 :: v5 :: v6 :: v7 :: v8 :: Vi y :: t) st σ Q) : WA G d k n M pc (v0 :: v1 :: v2 :: v3 :: v4 :: v5 :: v6 :: v7 :: v8 :: Vi x :: t) st σ Q := by
  subst hy
  exact ar_iinc (i := 9) q hq hd hlen rfl (nol_s (v := v8) rfl hv) kk
theorem ar_lst_9 {v0 v1 v2 v3 v4 v5 v6 v7 v8 v9 v10 : AV} {t : List AV} {x : Int} (q : Nat) (hq : pc + 2 = q) (hd : decode (bc M) pc = .ok (.lstore 9, 2)) (hlen : (v0 :: v1 :: v2 :: v3 :: v4 :: v5 :: v6 :: v7 :: v8 :: v9 :: v10 :: t).length = M.2.2.1) (hv : ∀ x, v8 ≠ Vl x)
    (kk : WA G d k n M q (v0 :: v1 :: v2 :: v3 :: v4 :: v5 :: v6 :: v7 :: v8 :: Vl x :: Vu :: t) st σ Q) : WA G d k n M pc (v0 :: v1 :: v2 :: v3 :: v4 :: v5 :: v6 :: v7 :: v8 :: v9 :: v10 :: t) (Vl x :: st) σ Q := ar_lstore (i := 9) q hq hd hlen (by show 9 + 1 < _; simp) (nol_s (v := v8) rfl hv) kk
theorem ar_ist_10 {v0 v1 v2 v3 v4 v5 v6 v7 v8 v9 v10 : AV} {t : List AV} {x : Int} (q : Nat) (hq : pc + 2 = q) (hd : decode (bc M) pc = .ok (.istore 10, 2)) (hlen : (v0 :: v1 :: v2 :: v3 :: v4 :: v5 :: v6 :: v7 :: v8 :: v9 :: v10 :: t).length = M.2.2.1) (hv : ∀ x, v9 ≠ Vl x)
    (kk : WA G d k n M q (v0 :: v1 :: v2 :: v3 :: v4 :: v5 :: v6 :: v7 :: v8 :: v9 :: Vi x :: t) st σ Q) : WA G d k n M pc (v0 :: v1 :: v2 :: v3 :: v4 :: v5 :: v6 :: v7 :: v8 :: v9 :: v10 :: t) (Vi x :: st) σ Q := ar_istore (i := 10) q hq hd hlen (by show 10 < _; simp) (nol_s (v := v9) rfl hv) kk
theorem ar_ast_10 {v0 v1 v2 v3 v4 v5 v6 v7 v8 v9 v10 : AV} {t : List AV} {r : Option Nat} (q : Nat) (hq : pc + 2 = q) (hd : decode (bc M) pc = .ok (.astore 10, 2)) (hlen : (v0 :: v1 :: v2 :: v3 :: v4 :: v5 :: v6 :: v7 :: v8 :: v9 :: v10 :: t).length = M.2.2.1) (hv : ∀ x, v9 ≠ Vl x)
    (kk : WA G d k n M q (v0 :: v1 :: v2 :: v3 :: v4 :: v5 :: v6 :: v7 :: v8 :: v9 :: Vr r :: t) st σ Q) : WA G d k n M pc (v0 :: v1 :: v2 :: v3 :: v4 :: v5 :: v6 :: v7 :: v8 :: v9 :: v10 :: t) (Vr r :: st) σ Q := ar_astore (i := 10) q hq hd hlen (by show 10 < _; simp) (nol_s (v := v9) rfl hv) kk
theorem ar_inc_10 {v0 v1 v2 v3 v4 v5 v6 v7 v8 v9 : AV} {t : List AV} {x z y : Int} (q : Nat) (hq : pc + 3 = q) (hd : decode (bc M) pc = .ok (.iinc 10 z, 3)) (hlen : (v0 :: v1 :: v2 :: v3 :: v4 :: v5 :: v6 :: v7 :: v8 :: v9 :: Vi x :: t).length = M.2.2.1) (hv : ∀ x, v9 ≠ Vl x) (hy : x + z = y)
    (kk : WA G d k n M q (v0 :: v1 :: v2 :: v3 :: v4 :: v5 :: v6 :: v7 :: v8 :: v9 :: Vi y :: t) st σ Q) : WA G d k n M pc (v0 :: v1 :: v2 :: v3 :: v4 :: v5 :: v6 :: v7 :: v8 :: v9 :: Vi x :: t) st σ Q := by
  subst hy
  exact ar_iinc (i := 10) q hq hd hlen rfl (nol_s (v := v9) rfl hv) kk
theorem ar_lst_10 {v0 v1 v2 v3 v4 v5 v6 v7 v8 v9 v10 v11 : AV} {t : List AV} {x : Int} (q : Nat) (hq : pc + 2 = q) (hd : decode (bc M) pc = .ok (.lstore 10, 2)) (hlen : (v0 :: v1 :: v2 :: v3 :: v4 :: v5 :: v6 :: v7 :: v8 :: v9 :: v10 :: v11 :: t).length = M.2.2.1) (hv : ∀ x, v9 ≠ Vl x)
    (kk : WA G d k n M q (v0 :: v1 :: v2 :: v3 :: v4 :: v5 :: v6 :: v7 :: v8 :: v9 :: Vl x :: Vu :: t) st σ Q) : WA G d k n M pc (v0 :: v1 :: v2 :: v3 :: v4 :: v5 :: v6 :: v7 :: v8 :: v9 :: v10 :: v11 :: t) (Vl x :: st) σ Q := ar_lstore (i := 10) q hq hd hlen (by show 10 + 1 < _; simp) (nol_s (v := v9) rfl hv) kk
theorem ar_ist_11 {v0 v1 v2 v3 v4 v5 v6 v7 v8 v9 v10 v11 : AV} {t : List AV} {x : Int} (q : Nat) (hq : pc + 2 = q) (hd : decode (bc M) pc = .ok (.istore 11, 2)) (hlen : (v0 :: v1 :: v2 :: v3 :: v4 :: v5 :: v6 :: v7 :: v8 :: v9 :: v10 :: v11 :: t).length = M.2.2.1) (hv : ∀ x, v10 ≠ Vl x)
    (kk : WA G d k n M q (v0 :: v1 :: v2 :: v3 :: v4 :: v5 :: v6 :: v7 :: v8 :: v9 :: v10 :: Vi x :: t) st σ Q) : WA G d k n M pc (v0 :: v1 :: v2 :: v3 :: v4 :: v5 :: v6 :: v7 :: v8 :: v9 :: v10 :: v11 :: t) (Vi x :: st) σ Q := ar_istore (i := 11) q hq hd hlen (by show 11 < _; simp) (nol_s (v := v10) rfl hv) kk
theorem ar_ast_11 {v0 v1 v2 v3 v4 v5 v6 v7 v8 v9 v10 v11 : AV} {t : List AV} {r : Option Nat} (q : Nat) (hq : pc + 2 = q) (hd : decode (bc M) pc = .ok (.astore 11, 2)) (hlen : (v0 :: v1 :: v2 :: v3 :: v4 :: v5 :: v6 :: v7 :: v8 :: v9 :: v10 :: v11 :: t).length = M.2.2.1) (hv : ∀ x, v10 ≠ Vl x)
    (kk : WA G d k n M q (v0 :: v1 :: v2 :: v3 :: v4 :: v5 :: v6 :: v7 :: v8 :: v9 :: v10 :: Vr r :: t) st σ Q) : WA G d k n M pc (v0 :: v1 :: v2 :: v3 :: v4 :: v5 :: v6 :: v7 :: v8 :: v9 :: v10 :: v11 :: t) (Vr r :: st) σ Q := ar_astore (i := 11) q hq hd hlen (by show 11 < _; simp) (nol_s (v := v10) rfl hv) kk
theorem ar_inc_11 {v0 v1 v2 v3 v4 v5 v6 v7 v8 v9 v10 : AV} {t : List AV} {x z y : Int} (q : Nat) (hq : pc + 3 = q) (hd : decode (bc M) pc = .ok (.iinc 11 z, 3)) (hlen : (v0 :: v1 :: v2 :: v3 :: v4 :: v5 :: v6 :: v7 :: v8 :: v9 :: v10 :: Vi x :: t).length = M.2.2.1) (hv : ∀ x, v10 ≠ Vl x) (hy : x + z = y)
    (kk : WA G d k n M q (v0 :: v1 :: v2 :: v3 :: v4 :: v5 :: v6 :: v7 :: v8 :: v9 :: v10 :: Vi y :: t) st σ Q) : WA G d k n M pc (v0 :: v1 :: v2 :: v3 :: v4 :: v5 :: v6 :: v7 :: v8 :: v9 :: v10 :: Vi x :: t) st σ Q := by
  subst hy
  exact ar_iinc (i := 11) q hq hd hlen rfl (nol_s (v := v10) rfl hv) kk
theorem ar_lst_11 {v0 v1 v2 v3 v4 v5 v6 v7 v8 v9 v10 v11 v12 : AV} {t : List AV} {x : Int} (q : Nat) (hq : pc + 2 = q) (hd : decode (bc M) pc = .ok (.lstore 11, 2)) (hlen : (v0 :: v1 :: v2 :: v3 :: v4 :: v5 :: v6 :: v7 :: v8 :: v9 :: v10 :: v11 :: v12 :: t).length = M.2.2.1) (hv : ∀ x, v10 ≠ Vl x)
    (kk : WA G d k n M q (v0 :: v1 :: v2 :: v3 :: v4 :: v5 :: v6 :: v7 :: v8 :: v9 :: v10 :: Vl x :: Vu :: t) st σ Q) : WA G d k n M pc (v0 :: v1 :: v2 :: v3 :: v4 :: v5 :: v6 :: v7 :: v8 :: v9 :: v10 :: v11 :: v12 :: t) (Vl x :: st) σ Q := ar_lstore (i := 11) q hq hd hlen (by show 11 + 1 < _; simp) (nol_s (v := v10) rfl hv) kk
theorem ar_ist_12 {v0 v1 v2 v3 v4 v5 v6 v7 v8 v9 v10 v11 v12 : AV} {t : List AV} {x : Int} (q : Nat) (hq : pc + 2 = q) (hd : decode (bc M) pc = .ok (.istore 12, 2)) (hlen : (v0 :: v1 :: v2 :: v3 :: v4 :: v5 :: v6 :: v7 :: v8 :: v9 :: v10 :: v11 :: v12 :: t).length = M.2.2.1) (hv : ∀ x, v11 ≠ Vl x)
    (kk : WA G d k n M q (v0 :: v1 :: v2 :: v3 :: v4 :: v5 :: v6 :: v7 :: v8 :: v9 :: v10 :: v11 :: Vi x :: t) st σ Q) : WA G d k n M pc (v0 :: v1 :: v2 :: v3 :: v4 :: v5 :: v6 :: v7 :: v8 :: v9 :: v10 :: v11 :: v12 :: t) (Vi x :: st) σ Q := ar_istore (i := 12) q hq hd hlen (by show 12 < _; simp) (nol_s (v := v11) rfl hv) kk
theorem ar_ast_12 {v0 v1 v2 v3 v4 v5 v6 v7 v8 v9 v10 v11 v12 : AV} {t : List AV} {r : Option Nat} (q : Nat) (hq : pc + 2 = q) (hd : decode (bc M) pc = .ok (.astore 12, 2)) (hlen : (v0 :: v1 :: v2 :: v3 :: v4 :: v5 :: v6 :: v7 :: v8 :: v9 :: v10 :: v11 :: v12 :: t).length = M.2.2.1) (hv : ∀ x, v11 ≠ Vl x)
    (kk : WA G d k n M q (v0 :: v1 :: v2 :: v3 :: v4 :: v5 :: v6 :: v7 :: v8 :: v9 :: v10 :: v11 :: Vr r :: t) st σ Q) : WA G d k n M pc (v0 :: v1 :: v2 :: v3 :: v4 :: v5 :: v6 :: v7 :: v8 :: v9 :: v10 :: v11 :: v12 :: t) (Vr r :: st) σ Q := ar_astore (i := 12) q hq hd hlen (by show 12 < _; simp) (nol_s (v := v11) rfl hv) kk
theorem ar_inc_12 {v0 v1 v2 v3 v4 v5 v6 v7 v8 v9 v10 v11 : AV} {t : List AV} {x z y : Int} (q : Nat) (hq : pc + 3 = q) (hd : decode (bc M) pc = .ok (.iinc 12 z, 3)) (hlen : (v0 :: v1 :: v2 :: v3 :: v4 :: v5 :: v6 :: v7 :: v8 :: v9 :: v10 :: v11 :: Vi x :: t).length = M.2.2.1) (hv : ∀ x, v11 ≠ Vl x) (hy : x + z = y)
    (kk : WA G d k n M q (v0 :: v1 :: v2 :: v3 :: v4 :: v5 :: v6 :: v7 :: v8 :: v9 :: v10 :: v11 :: Vi y :: t) st σ Q) : WA G d k n M pc (v0 :: v1 :: v2 :: v3 :: v4 :: v5 :: v6 :: v7 :: v8 :: v9 :: v10 :: v11 :: Vi x :: t) st σ Q := by
  subst hy
  exact ar_iinc (i := 12) q hq hd hlen rfl (nol_s (v := v11) rfl hv) kk
theorem ar_lst_12 {v0 v1 v2 v3 v4 v5 v6 v7 v8 v9 v10 v11 v12 v13 : AV} {t : List AV} {x : Int} (q : Nat) (hq : pc + 2 = q) (hd : decode (bc M) pc = .ok (.lstore 12, 2)) (hlen : (v0 :: v1 :: v2 :: v3 :: v4 :: v5 :: v6 :: v7 :: v8 :: v9 :: v10 :: v11 :: v12 :: v13 :: t).length = M.2.2.1) (hv : ∀ x, v11 ≠ Vl x)
    (kk : WA G d k n M q (v0 :: v1 :: v2 :: v3 :: v4 :: v5 :: v6 :: v7 :: v8 :: v9 :: v10 :: v11 :: Vl x :: Vu :: t) st σ Q) : WA G d k n M pc (v0 :: v1 :: v2 :: v3 :: v4 :: v5 :: v6 :: v7 :: v8 :: v9 :: v10 :: v11 :: v12 :: v13 :: t) (Vl x :: st) σ Q := ar_lstore (i := 12) q hq hd hlen (by show 12 + 1 < _; simp) (nol_s (v := v11) rfl hv) kk
theorem ar_getA {idx ci j a b : Nat} (q : Nat) (hq : pc + 3 = q) (hd : decode (bc M) pc = .ok (.getfield idx, 3)) (hf : FLk M.1.cls idx ci j) (ht : fI (cY ci j) = false) (hk : (sk σ a).1 = ci + 1) (hr : hR σ a j = some b)
    (kk : WA G d k n M q ls (Va b :: st) σ Q) : WA G d k n M pc ls (Va a :: st) σ Q := ar_getR q hq hd hf ht hk (by rw [hr]; exact kk)
theorem ar_aalA {a b N kd : Nat} {j : Int} (q : Nat) (hq : pc + 1 = q) (hd : decode (bc M) pc = .ok (.aaload, 1)) (hk : sk σ a = (kd, N)) (hkd : 12 ≤ kd ∧ kd ≤ 15) (hj : 0 ≤ j ∧ j < N ∧ j ≤ 2147483647) (hr : hR σ a j.toNat = some b)
    (kk : WA G d k n M q ls (Va b :: st) σ Q) : WA G d k n M pc ls (Vi j :: Va a :: st) σ Q := ar_aald q hq hd hk hkd hj (by rw [hr]; exact kk)
theorem ar_ilv {a N : Nat} {j y : Int} (q : Nat) (hq : pc + 1 = q) (hd : decode (bc M) pc = .ok (.iaload, 1)) (hk : sk σ a = (10, N)) (hj : 0 ≤ j ∧ j < N ∧ j ≤ 2147483647) (hy : hI σ a j.toNat = y)
    (kk : WA G d k n M q ls (Vi y :: st) σ Q) : WA G d k n M pc ls (Vi j :: Va a :: st) σ Q := ar_iald q hq hd hk hj (by rw [hy]; exact kk)
theorem ar_giv {idx ci j a : Nat} {y : Int} (q : Nat) (hq : pc + 3 = q) (hd : decode (bc M) pc = .ok (.getfield idx, 3)) (hf : FLk M.1.cls idx ci j) (ht : fI (cY ci j) = true) (hk : (sk σ a).1 = ci + 1) (hy : hI σ a j = y)
    (kk : WA G d k n M q ls (Vi y :: st) σ Q) : WA G d k n M pc ls (Va a :: st) σ Q := ar_getI q hq hd hf ht hk (by rw [hy]; exact kk)
theorem ar_iasN {a N : Nat} {j x : Int} (i : Nat) (q : Nat) (hq : pc + 1 = q) (hd : decode (bc M) pc = .ok (.iastore, 1)) (hk : sk σ a = (10, N)) (hi : j = (i : Int)) (hj : i < N ∧ i ≤ 2147483647)
    (kk : WA G d k n M q ls st (wI σ a i x) Q) : WA G d k n M pc ls (Vi x :: Vi j :: Va a :: st) σ Q := by
  subst hi
  exact ar_iast q hq hd hk (by omega) kk
theorem ar_aasN {a N kd v : Nat} {j : Int} (i : Nat) (q : Nat) (hq : pc + 1 = q) (hd : decode (bc M) pc = .ok (.aastore, 1)) (hk : sk σ a = (kd, N)) (hkd : 12 ≤ kd ∧ kd ≤ 14) (hi : j = (i : Int)) (hj : i < N ∧ i ≤ 2147483647) (hv : (sk σ v).1 = kO kd + 1)
    (kk : WA G d k n M q ls st (wR σ a i (some v)) Q) : WA G d k n M pc ls (Va v :: Vi j :: Va a :: st) σ Q := by
  subst hi
  exact ar_aast q hq hd hk hkd (by omega) hv kk
theorem ar_top {x y : Int} (h : x = y) (kk : WA G d k n M pc ls (Vi y :: st) σ Q) : WA G d k n M pc ls (Vi x :: st) σ Q := by rw [h]; exact kk
theorem ar_sig {σ1 : Sg} (h : σ = σ1) (kk : WA G d k n M pc ls st σ1 Q) : WA G d k n M pc ls st σ Q := by rw [h]; exact kk
theorem ar_callV0 {M' : MM} {idx n0 ci b : Nat} {As rest ls' : List AV} (q : Nat) (hq : pc + 3 = q) (hd : decode (bc M) pc = .ok (.invokevirtual idx, 3)) (hl : Cond.methodLink M.1.cls idx M'.1 ∈ gT) (hm : mtV M' n0 ci) (hk : (sk σ b).1 = ci + 1) (hAs : As.length = n0) (hr : rest.length ≤ 4) (hE : prs G 0 ls' = lv_args 0 ((Va b :: As).map (cv G))) (hlen : (lg_sl ((Va b :: As).map (cv G))).length ≤ M'.2.2.1) (hd1 : 1 ≤ d)
    (kk : WA G (d - 1) 0 0 M' 0 ls' [] σ (fun v σ' => WA G d k n M q ls (v.toList ++ rest) σ' Q)) : WA G d k n M pc ls (As.reverse ++ Va b :: rest) σ Q := ar_callV 0 0 k n q hq hd hl hm hk hAs hr hE hlen hd1 (by omega) (by omega) kk
theorem ar_callS0 {M' : MM} {idx n0 : Nat} {As rest ls' : List AV} (q : Nat) (hq : pc + 3 = q) (hd : decode (bc M) pc = .ok (.invokestatic idx, 3)) (hl : Cond.methodLink M.1.cls idx M'.1 ∈ gT) (hm : mtS M' n0) (hAs : As.length = n0) (hr : rest.length ≤ 4) (hE : prs G 0 ls' = lv_args 0 (As.map (cv G))) (hlen : (lg_sl (As.map (cv G))).length ≤ M'.2.2.1) (hd1 : 1 ≤ d)
    (kk : WA G (d - 1) 0 0 M' 0 ls' [] σ (fun v σ' => WA G d k n M q ls (v.toList ++ rest) σ' Q)) : WA G d k n M pc ls (As.reverse ++ rest) σ Q := ar_callS 0 0 k n q hq hd hl hm hAs hr hE hlen hd1 (by omega) (by omega) kk
theorem ar_callSN0 {M' : MM} {idx n0 : Nat} {As rest ls' : List AV} (q : Nat) (hq : pc + 3 = q) (hd : decode (bc M) pc = .ok (.invokestatic idx, 3)) (hl : nlk M.1.cls idx M'.1) (hm : mtS M' n0) (hAs : As.length = n0) (hr : rest.length ≤ 4) (hE : prs G 0 ls' = lv_args 0 (As.map (cv G))) (hlen : (lg_sl (As.map (cv G))).length ≤ M'.2.2.1) (hd1 : 1 ≤ d)
    (kk : WA G (d - 1) 0 0 M' 0 ls' [] σ (fun v σ' => WA G d k n M q ls (v.toList ++ rest) σ' Q)) : WA G d k n M pc ls (As.reverse ++ rest) σ Q := ar_callSN 0 0 k n q hq hd hl hm hAs hr hE hlen hd1 (by omega) (by omega) kk
theorem ar_callI0 {M' : MM} {idx n0 ci b : Nat} {As rest ls' : List AV} (q : Nat) (hq : pc + 3 = q) (hd : decode (bc M) pc = .ok (.invokespecial idx, 3)) (hl : Cond.methodLink M.1.cls idx M'.1 ∈ gT) (hm : mtI M' n0 ci) (hAs : As.length = n0) (hr : rest.length ≤ 4) (hE : prs G 0 ls' = lv_args 0 ((Va b :: As).map (cv G))) (hlen : (lg_sl ((Va b :: As).map (cv G))).length ≤ M'.2.2.1) (hd1 : 1 ≤ d)
    (kk : WA G (d - 1) 0 0 M' 0 ls' [] σ (fun v σ' => WA G d k n M q ls (v.toList ++ rest) σ' Q)) : WA G d k n M pc ls (As.reverse ++ Va b :: rest) σ Q := ar_callI 0 0 k n q hq hd hl hm hAs hr hE hlen hd1 (by omega) (by omega) kk
theorem ar_callIN0 {M' : MM} {idx n0 ci b : Nat} {As rest ls' : List AV} (q : Nat) (hq : pc + 3 = q) (hd : decode (bc M) pc = .ok (.invokespecial idx, 3)) (hl : nlk M.1.cls idx M'.1) (hm : mtI M' n0 ci) (hAs : As.length = n0) (hr : rest.length ≤ 4) (hE : prs G 0 ls' = lv_args 0 ((Va b :: As).map (cv G))) (hlen : (lg_sl ((Va b :: As).map (cv G))).length ≤ M'.2.2.1) (hd1 : 1 ≤ d)
    (kk : WA G (d - 1) 0 0 M' 0 ls' [] σ (fun v σ' => WA G d k n M q ls (v.toList ++ rest) σ' Q)) : WA G d k n M pc ls (As.reverse ++ Va b :: rest) σ Q := ar_callIN 0 0 k n q hq hd hl hm hAs hr hE hlen hd1 (by omega) (by omega) kk
end VRows
end
section
-- ===== what the heap says: memories =====
abbrev Mem : Type := Int × Int × Int × Int × Int × List (Int × Int)
abbrev mLoaf (M : Mem) : Int := M.1
abbrev mRes (M : Mem) : Int := M.2.1
abbrev mSteps (M : Mem) : Int := M.2.2.1
abbrev mUses (M : Mem) : Int := M.2.2.2.1
abbrev mSer (M : Mem) : Int := M.2.2.2.2.1
abbrev mLk (M : Mem) : List (Int × Int) := M.2.2.2.2.2
/-- the fixed parts of a memory's object: two rows of its own behind it -/
def ShM (σ : Sg) (m : Nat) : Prop := (sk σ m).1 = 2 ∧ sk σ (m + 1) = (10, 18) ∧ sk σ (m + 2) = (10, 18) ∧ hR σ m 6 = some (m + 1) ∧ hR σ m 7 = some (m + 2)
def RM (σ : Sg) (m : Nat) (M : Mem) : Prop := hI σ m 0 = mLoaf M ∧ hI σ m 1 = mRes M ∧ hI σ m 2 = mSteps M ∧ hI σ m 3 = mUses M ∧ hI σ m 4 = mSer M ∧ hI σ m 5 = ((mLk M).length : Int) ∧ ∀ i x, (mLk M)[i]? = some x → hI σ (m + 1) i = x.1 ∧ hI σ (m + 2) i = x.2
/-- only ints of the cells lo to hi - 1 change -/
def FrI (lo hi : Nat) (σ σ' : Sg) : Prop := σ'.2 = σ.2 ∧ ∀ b, (b < lo ∨ hi ≤ b) → hI σ' b = hI σ b
theorem FrI.rf {lo hi : Nat} {σ : Sg} : FrI lo hi σ σ := ⟨rfl, fun _ _ => rfl⟩
theorem FrI.tr {lo hi : Nat} {σ σ1 σ2 : Sg} (h : FrI lo hi σ σ1) (h2 : FrI lo hi σ1 σ2) : FrI lo hi σ σ2 := ⟨h2.1.trans h.1, fun b hb => (h2.2 b hb).trans (h.2 b hb)⟩
theorem FrI.w {lo hi : Nat} {σ : Sg} {a j : Nat} {x : Int} (h1 : lo ≤ a) (h2 : a < hi) : FrI lo hi σ (wI σ a j x) := ⟨rfl, fun b hb => by
  funext i
  show (if b = a ∧ i = j then x else σ.1 b i) = σ.1 b i
  rw [if_neg (by omega)]⟩
theorem FrI.c {lo hi : Nat} {σ : Sg} {a sp b dp n : Nat} (h1 : lo ≤ b) (h2 : b < hi) : FrI lo hi σ (cI σ a sp b dp n) := ⟨rfl, fun c hc => by
  funext i
  show (if c = b ∧ dp ≤ i ∧ i < dp + n then σ.1 a (sp + (i - dp)) else σ.1 c i) = σ.1 c i
  rw [if_neg (by omega)]⟩
theorem FrI.sub {lo hi lo' hi' : Nat} {σ σ' : Sg} (h : FrI lo hi σ σ') (h1 : lo' ≤ lo) (h2 : hi ≤ hi') : FrI lo' hi' σ σ' := ⟨h.1, fun b hb => h.2 b (by omega)⟩
theorem hI_w (σ : Sg) (a j : Nat) (x : Int) (b i : Nat) : hI (wI σ a j x) b i = if b = a ∧ i = j then x else hI σ b i := rfl
theorem hI_wR (σ : Sg) (a j : Nat) (r : Option Nat) : hI (wR σ a j r) = hI σ := rfl
theorem hR_w (σ : Sg) (a j : Nat) (r : Option Nat) (b i : Nat) : hR (wR σ a j r) b i = if b = a ∧ i = j then r else hR σ b i := rfl
theorem hR_wI (σ : Sg) (a j : Nat) (x : Int) : hR (wI σ a j x) = hR σ := rfl
theorem hI_c (σ : Sg) (a sp b dp n c i : Nat) : hI (cI σ a sp b dp n) c i = if c = b ∧ dp ≤ i ∧ i < dp + n then hI σ a (sp + (i - dp)) else hI σ c i := rfl
theorem ShM.fr {σ σ' : Sg} {m : Nat} (h : ShM σ m) (e : σ'.2 = σ.2) : ShM σ' m := by
  unfold ShM at h ⊢
  unfold sk hR at h ⊢
  rw [e]
  exact h
theorem RM.fr {σ σ' : Sg} {m lo hi : Nat} {M : Mem} (h : RM σ m M) (hf : FrI lo hi σ σ') (hd : m + 3 ≤ lo ∨ hi ≤ m) : RM σ' m M := by
  unfold RM at h ⊢
  rw [hf.2 m (by omega), hf.2 (m + 1) (by omega), hf.2 (m + 2) (by omega)]
  exact h
-- small tests
section SMALL
variable {G : GT} {d k n : Nat} {σ : Sg} {Q : Option AV → Sg → Prop}
theorem sp_X5_isShelf {x : Int} (hx : i32 x) (hq1 : 0 ≤ x ∧ x < 12 → Q (some (Vi 1)) σ) (hq0 : ¬ (0 ≤ x ∧ x < 12) → Q (some (Vi 0)) σ) : WA G d k n mX5_isShelf 0 [Vi x] [] σ Q := by
  refine ar_iload_n 1 rfl d_X5_isShelf_0 rfl ?_
  refine ar_if_lt 14 4 rfl rfl d_X5_isShelf_1 (by omega) (fun g1 => ?_) (fun g1 => ?_)
  · refine ar_iconst 15 rfl d_X5_isShelf_14 ?_
    refine WA.ret (some (Vi _)) ⟨d_X5_isShelf_15, rfl, Or.inr ⟨rfl, Or.inl rfl⟩⟩ ?_
    first | exact hq1 (by omega) | exact hq0 (by omega)
  · refine ar_iload_n 5 rfl d_X5_isShelf_4 rfl ?_
    refine ar_bipush 7 rfl d_X5_isShelf_5 rfl ?_
    refine ar_icmp_ge 14 10 rfl rfl d_X5_isShelf_7 (by omega) (by omega) (fun g7 => ?_) (fun g7 => ?_)
    · refine ar_iconst 15 rfl d_X5_isShelf_14 ?_
      refine WA.ret (some (Vi _)) ⟨d_X5_isShelf_15, rfl, Or.inr ⟨rfl, Or.inl rfl⟩⟩ ?_
      first | exact hq1 (by omega) | exact hq0 (by omega)
    · refine ar_iconst 11 rfl d_X5_isShelf_10 ?_
      refine ar_goto 15 rfl d_X5_isShelf_11 ?_
      refine WA.ret (some (Vi _)) ⟨d_X5_isShelf_15, rfl, Or.inr ⟨rfl, (by omega)⟩⟩ ?_
      first | exact hq1 (by omega) | exact hq0 (by omega)
theorem sp_X5_isLoaf {x : Int} (hx : i32 x) (hq1 : 0 ≤ x ∧ x < 6 → Q (some (Vi 1)) σ) (hq0 : ¬ (0 ≤ x ∧ x < 6) → Q (some (Vi 0)) σ) : WA G d k n mX5_isLoaf 0 [Vi x] [] σ Q := by
  refine ar_iload_n 1 rfl d_X5_isLoaf_0 rfl ?_
  refine ar_if_lt 14 4 rfl rfl d_X5_isLoaf_1 (by omega) (fun g1 => ?_) (fun g1 => ?_)
  · refine ar_iconst 15 rfl d_X5_isLoaf_14 ?_
    refine WA.ret (some (Vi _)) ⟨d_X5_isLoaf_15, rfl, Or.inr ⟨rfl, Or.inl rfl⟩⟩ ?_
    first | exact hq1 (by omega) | exact hq0 (by omega)
  · refine ar_iload_n 5 rfl d_X5_isLoaf_4 rfl ?_
    refine ar_bipush 7 rfl d_X5_isLoaf_5 rfl ?_
    refine ar_icmp_ge 14 10 rfl rfl d_X5_isLoaf_7 (by omega) (by omega) (fun g7 => ?_) (fun g7 => ?_)
    · refine ar_iconst 15 rfl d_X5_isLoaf_14 ?_
      refine WA.ret (some (Vi _)) ⟨d_X5_isLoaf_15, rfl, Or.inr ⟨rfl, Or.inl rfl⟩⟩ ?_
      first | exact hq1 (by omega) | exact hq0 (by omega)
    · refine ar_iconst 11 rfl d_X5_isLoaf_10 ?_
      refine ar_goto 15 rfl d_X5_isLoaf_11 ?_
      refine WA.ret (some (Vi _)) ⟨d_X5_isLoaf_15, rfl, Or.inr ⟨rfl, (by omega)⟩⟩ ?_
      first | exact hq1 (by omega) | exact hq0 (by omega)
theorem sp_X5_isNumber {x : Int} (hx : i32 x) (hq1 : 0 ≤ x ∧ x < 100 → Q (some (Vi 1)) σ) (hq0 : ¬ (0 ≤ x ∧ x < 100) → Q (some (Vi 0)) σ) : WA G d k n mX5_isNumber 0 [Vi x] [] σ Q := by
  refine ar_iload_n 1 rfl d_X5_isNumber_0 rfl ?_
  refine ar_if_lt 14 4 rfl rfl d_X5_isNumber_1 (by omega) (fun g1 => ?_) (fun g1 => ?_)
  · refine ar_iconst 15 rfl d_X5_isNumber_14 ?_
    refine WA.ret (some (Vi _)) ⟨d_X5_isNumber_15, rfl, Or.inr ⟨rfl, Or.inl rfl⟩⟩ ?_
    first | exact hq1 (by omega) | exact hq0 (by omega)
  · refine ar_iload_n 5 rfl d_X5_isNumber_4 rfl ?_
    refine ar_bipush 7 rfl d_X5_isNumber_5 rfl ?_
    refine ar_icmp_ge 14 10 rfl rfl d_X5_isNumber_7 (by omega) (by omega) (fun g7 => ?_) (fun g7 => ?_)
    · refine ar_iconst 15 rfl d_X5_isNumber_14 ?_
      refine WA.ret (some (Vi _)) ⟨d_X5_isNumber_15, rfl, Or.inr ⟨rfl, Or.inl rfl⟩⟩ ?_
      first | exact hq1 (by omega) | exact hq0 (by omega)
    · refine ar_iconst 11 rfl d_X5_isNumber_10 ?_
      refine ar_goto 15 rfl d_X5_isNumber_11 ?_
      refine WA.ret (some (Vi _)) ⟨d_X5_isNumber_15, rfl, Or.inr ⟨rfl, (by omega)⟩⟩ ?_
      first | exact hq1 (by omega) | exact hq0 (by omega)
theorem sp_X5_isSlot {x : Int} (hx : i32 x) (hq1 : 0 ≤ x ∧ x < 2 → Q (some (Vi 1)) σ) (hq0 : ¬ (0 ≤ x ∧ x < 2) → Q (some (Vi 0)) σ) : WA G d k n mX5_isSlot 0 [Vi x] [] σ Q := by
  refine ar_iload_n 1 rfl d_X5_isSlot_0 rfl ?_
  refine ar_if_lt 13 4 rfl rfl d_X5_isSlot_1 (by omega) (fun g1 => ?_) (fun g1 => ?_)
  · refine ar_iconst 14 rfl d_X5_isSlot_13 ?_
    refine WA.ret (some (Vi _)) ⟨d_X5_isSlot_14, rfl, Or.inr ⟨rfl, Or.inl rfl⟩⟩ ?_
    first | exact hq1 (by omega) | exact hq0 (by omega)
  · refine ar_iload_n 5 rfl d_X5_isSlot_4 rfl ?_
    refine ar_iconst 6 rfl d_X5_isSlot_5 ?_
    refine ar_icmp_ge 13 9 rfl rfl d_X5_isSlot_6 (by omega) (by omega) (fun g6 => ?_) (fun g6 => ?_)
    · refine ar_iconst 14 rfl d_X5_isSlot_13 ?_
      refine WA.ret (some (Vi _)) ⟨d_X5_isSlot_14, rfl, Or.inr ⟨rfl, Or.inl rfl⟩⟩ ?_
      first | exact hq1 (by omega) | exact hq0 (by omega)
    · refine ar_iconst 10 rfl d_X5_isSlot_9 ?_
      refine ar_goto 14 rfl d_X5_isSlot_10 ?_
      refine WA.ret (some (Vi _)) ⟨d_X5_isSlot_14, rfl, Or.inr ⟨rfl, (by omega)⟩⟩ ?_
      first | exact hq1 (by omega) | exact hq0 (by omega)
end SMALL
section MEMM
variable {G : GT} {d k n : Nat} {σ : Sg} {Q : Option AV → Sg → Prop}
theorem sp_X1_begin {m : Nat} {l : Int} (hs : ShM σ m) (hQ : ∀ σ', FrI m (m + 3) σ σ' → RM σ' m (l, 100, 0, 0, 0, []) → Q none σ') : WA G d k n mX1_begin 0 [Va m, Vi l] [] σ Q := by
  have hk := hs.1
  refine ar_aload_n 1 rfl d_X1_begin_0 rfl ?_
  refine ar_iload_n 2 rfl d_X1_begin_1 rfl ?_
  refine ar_putI 5 rfl d_X1_begin_2 fl_X1_18 rfl rfl hk ?_
  refine ar_aload_n 6 rfl d_X1_begin_5 rfl ?_
  refine ar_bipush 8 rfl d_X1_begin_6 rfl ?_
  refine ar_putI 11 rfl d_X1_begin_8 fl_X1_22 rfl rfl hk ?_
  refine ar_aload_n 12 rfl d_X1_begin_11 rfl ?_
  refine ar_iconst 13 rfl d_X1_begin_12 ?_
  refine ar_putI 16 rfl d_X1_begin_13 fl_X1_25 rfl rfl hk ?_
  refine ar_aload_n 17 rfl d_X1_begin_16 rfl ?_
  refine ar_iconst 18 rfl d_X1_begin_17 ?_
  refine ar_putI 21 rfl d_X1_begin_18 fl_X1_28 rfl rfl hk ?_
  refine ar_aload_n 22 rfl d_X1_begin_21 rfl ?_
  refine ar_iconst 23 rfl d_X1_begin_22 ?_
  refine ar_putI 26 rfl d_X1_begin_23 fl_X1_31 rfl rfl hk ?_
  refine ar_aload_n 27 rfl d_X1_begin_26 rfl ?_
  refine ar_iconst 28 rfl d_X1_begin_27 ?_
  refine ar_putI 31 rfl d_X1_begin_28 fl_X1_34 rfl rfl hk ?_
  refine WA.ret none ⟨d_X1_begin_31, rfl, rfl⟩ ?_
  refine hQ _ ?_ ?_
  · refine (((((FrI.w (by omega) (by omega)).tr (FrI.w (by omega) (by omega))).tr (FrI.w (by omega) (by omega))).tr (FrI.w (by omega) (by omega))).tr (FrI.w (by omega) (by omega))).tr (FrI.w (by omega) (by omega))
  · refine ⟨?_, ?_, ?_, ?_, ?_, ?_, fun i x h => by simp [mLk] at h⟩ <;> simp [hI_w, mLoaf, mRes, mSteps, mUses, mSer, mLk]
theorem sp_X1_addLook {m : Nat} {key v : Int} {M : Mem} (hs : ShM σ m) (hM : RM σ m M) (hl : (mLk M).length < 18) (hQ : ∀ σ', FrI m (m + 3) σ σ' → RM σ' m (mLoaf M, mRes M, mSteps M, mUses M, mSer M, mLk M ++ [(key, v)]) → Q none σ') : WA G d k n mX1_addLook 0 [Va m, Vi key, Vi v] [] σ Q := by
  obtain ⟨hk, hk1, hk2, hr1, hr2⟩ := hs
  obtain ⟨m0, m1, m2, m3, m4, m5, m6⟩ := hM
  have e1 : ∀ x, hI (wI σ (m + 1) (mLk M).length x) m 5 = ((mLk M).length : Int) := fun x => by rw [hI_w, if_neg (by omega)]; exact m5
  have e2 : ∀ x y, hI (wI (wI σ (m + 1) (mLk M).length x) (m + 2) (mLk M).length y) m 5 = ((mLk M).length : Int) := fun x y => by rw [hI_w, if_neg (by omega)]; exact e1 x
  refine ar_aload_n 1 rfl d_X1_addLook_0 rfl ?_
  refine ar_giv (y := ((mLk M).length : Int)) 4 rfl d_X1_addLook_1 fl_X1_34 rfl (by assumption) (by assumption) ?_
  refine ar_bipush 6 rfl d_X1_addLook_4 rfl ?_
  refine ar_icmp_ge 39 9 rfl rfl d_X1_addLook_6 (by omega) (by omega) (fun h => by omega) (fun g6 => ?_)
  refine ar_aload_n 10 rfl d_X1_addLook_9 rfl ?_
  refine ar_getA 13 rfl d_X1_addLook_10 fl_X1_9 rfl (by assumption) (by assumption) ?_
  refine ar_aload_n 14 rfl d_X1_addLook_13 rfl ?_
  refine ar_giv (y := ((mLk M).length : Int)) 17 rfl d_X1_addLook_14 fl_X1_34 rfl (by assumption) (by assumption) ?_
  refine ar_iload_n 18 rfl d_X1_addLook_17 rfl ?_
  refine ar_iasN (mLk M).length 19 rfl d_X1_addLook_18 (by assumption) (by omega) (by omega) ?_
  refine ar_aload_n 20 rfl d_X1_addLook_19 rfl ?_
  refine ar_getA 23 rfl d_X1_addLook_20 fl_X1_15 rfl (by assumption) (by assumption) ?_
  refine ar_aload_n 24 rfl d_X1_addLook_23 rfl ?_
  refine ar_giv (y := ((mLk M).length : Int)) 27 rfl d_X1_addLook_24 fl_X1_34 rfl (by assumption) (e1 _) ?_
  refine ar_iload_n 28 rfl d_X1_addLook_27 rfl ?_
  refine ar_iasN (mLk M).length 29 rfl d_X1_addLook_28 (by assumption) (by omega) (by omega) ?_
  refine ar_aload_n 30 rfl d_X1_addLook_29 rfl ?_
  refine ar_dup 31 rfl d_X1_addLook_30 (fun _ => rfl) ?_
  refine ar_giv (y := ((mLk M).length : Int)) 34 rfl d_X1_addLook_31 fl_X1_34 rfl (by assumption) (e2 _ _) ?_
  refine ar_iconst 35 rfl d_X1_addLook_34 ?_
  refine ar_iadd 36 rfl d_X1_addLook_35 ?_
  refine ar_putI 39 rfl d_X1_addLook_36 fl_X1_34 rfl rfl (by assumption) ?_
  refine WA.ret none ⟨d_X1_addLook_39, rfl, rfl⟩ ?_
  refine hQ _ ?_ ?_
  · exact ((FrI.w (by omega) (by omega)).tr (FrI.w (by omega) (by omega))).tr (FrI.w (by omega) (by omega))
  · refine ⟨?_, ?_, ?_, ?_, ?_, ?_, fun i x h => ?_⟩
    · simpa [hI_w] using m0
    · simpa [hI_w] using m1
    · simpa [hI_w] using m2
    · simpa [hI_w] using m3
    · simpa [hI_w] using m4
    · simp [hI_w, mLk]
    · by_cases e : i = (mLk M).length
      · subst e
        simp [mLk] at h
        subst h
        simp [hI_w]
      · have hi : i < (mLk M).length := by
          have h8 : i < (mLk M ++ [(key, v)]).length := (List.getElem?_eq_some_iff.mp h).1
          rw [List.length_append] at h8
          simp only [List.length_cons, List.length_nil] at h8
          omega
        have h : (mLk M ++ [(key, v)])[i]? = some x := h
        rw [List.getElem?_append_left hi] at h
        have := m6 i x h
        simpa [hI_w, e] using this
/-- the first place of a key in a row of looks -/
def fk (l : List (Int × Int)) (w : Int) : Option Nat := l.findIdx? (fun x => x.1 == w)
theorem sp_X1_placeOfLook {m : Nat} {w : Int} {M : Mem} (hs : ShM σ m) (hM : RM σ m M) (hl : (mLk M).length ≤ 18) (hw : i32 w) (hk : ∀ x ∈ mLk M, i32 x.1) (hQ : ∀ (i : Nat) (x : Int × Int), (mLk M)[i]? = some x → x.1 = w → (∀ (j : Nat) (y : Int × Int), j < i → (mLk M)[j]? = some y → y.1 ≠ w) → Q (some (Vi (i : Int))) σ) (hN : (∀ x ∈ mLk M, x.1 ≠ w) → Q (some (Vi (-1))) σ) : WA G d k n mX1_placeOfLook 0 [Va m, Vi w, Vu] [] σ Q := by
  obtain ⟨hk0, hk1, hk2, hr1, hr2⟩ := hs
  obtain ⟨m0, m1, m2, m3, m4, m5, m6⟩ := hM
  have loop : ∀ r i : Nat, (mLk M).length - i = r → i ≤ (mLk M).length → (∀ (j : Nat) (y : Int × Int), j < i → (mLk M)[j]? = some y → y.1 ≠ w) → WA G d k n mX1_placeOfLook 2 [Va m, Vi w, Vi (i : Int)] [] σ Q := by
    intro r
    induction r using Nat.strongRecOn with
    | ind r ih =>
    intro i hr hi hj
    refine ar_iload_n 3 rfl d_X1_placeOfLook_2 rfl ?_
    refine ar_aload_n 4 rfl d_X1_placeOfLook_3 rfl ?_
    refine ar_giv (y := ((mLk M).length : Int)) 7 rfl d_X1_placeOfLook_4 fl_X1_34 rfl (by assumption) (by assumption) ?_
    refine ar_icmp_ge 28 10 rfl rfl d_X1_placeOfLook_7 (by omega) (by omega) (fun g7 => ?_) (fun g7 => ?_)
    · refine ar_iconst 29 rfl d_X1_placeOfLook_28 ?_
      refine WA.ret (some (Vi _)) ⟨d_X1_placeOfLook_29, rfl, Or.inl rfl⟩ ?_
      refine hN fun x hx => ?_
      obtain ⟨j, hj2⟩ := List.getElem?_of_mem hx
      exact hj j x (by have := (List.getElem?_eq_some_iff.mp hj2).1; omega) hj2
    · have hlt : i < (mLk M).length := by omega
      have hx0 : (mLk M)[i]? = some (mLk M)[i] := List.getElem?_eq_getElem hlt
      have hx1 := m6 i _ hx0
      have hx2 := hk _ (List.getElem_mem hlt)
      refine ar_aload_n 11 rfl d_X1_placeOfLook_10 rfl ?_
      refine ar_getA 14 rfl d_X1_placeOfLook_11 fl_X1_9 rfl (by assumption) (by assumption) ?_
      refine ar_iload_n 15 rfl d_X1_placeOfLook_14 rfl ?_
      refine ar_ilv (y := ((mLk M)[i].1)) 16 rfl d_X1_placeOfLook_15 (by assumption) (by omega) (by simpa using hx1.1) ?_
      refine ar_iload_n 17 rfl d_X1_placeOfLook_16 rfl ?_
      refine ar_icmp_ne 22 20 rfl rfl d_X1_placeOfLook_17 (by omega) (by omega) (fun g17 => ?_) (fun g17 => ?_)
      · refine ar_inc_2 (y := ((i + 1 : Nat) : Int)) 25 rfl d_X1_placeOfLook_22 rfl (by intro _ h; cases h) (by omega) ?_
        refine ar_goto 2 rfl d_X1_placeOfLook_25 ?_
        exact ih ((mLk M).length - (i + 1)) (by omega) (i + 1) rfl (by omega) (fun j y hj2 hj3 => by
          by_cases e : j = i
          · subst e
            rw [hx0] at hj3
            cases hj3
            exact g17
          · exact hj j y (by omega) hj3)
      · refine ar_iload_n 21 rfl d_X1_placeOfLook_20 rfl ?_
        refine WA.ret (some (Vi _)) ⟨d_X1_placeOfLook_21, rfl, Or.inl rfl⟩ ?_
        exact hQ i _ hx0 g17 hj
  refine ar_iconst 1 rfl d_X1_placeOfLook_0 ?_
  refine ar_ist_2 2 rfl d_X1_placeOfLook_1 rfl (by intro _ h; cases h) ?_
  exact loop _ 0 rfl (by omega) (fun j y h => absurd h (by omega))
end MEMM
end
section
section MEMC
variable {G : GT} {d k n : Nat} {σ : Sg} {Q : Option AV → Sg → Prop}
set_option maxHeartbeats 4000000 in
theorem sp_X1_copyFrom {m w : Nat} {M : Mem} (hs : ShM σ m) (ho : ShM σ w) (hM : RM σ w M) (hl : (mLk M).length ≤ 18) (hd : m + 3 ≤ w ∨ w + 3 ≤ m) (hdp : 1 ≤ d) (hQ : ∀ σ', FrI m (m + 3) σ σ' → RM σ' m M → Q none σ') : WA G d k n mX1_copyFrom 0 [Va m, Va w] [] σ Q := by
  obtain ⟨hk, hk1, hk2, hr1, hr2⟩ := hs
  obtain ⟨ok, ok1, ok2, or1, or2⟩ := ho
  obtain ⟨m0, m1, m2, m3, m4, m5, m6⟩ := hM
  have n1 : ¬ w = m := by omega
  have n2 : ¬ w + 1 = m := by omega
  have n3 : ¬ w + 2 = m := by omega
  have n4 : ¬ w + 2 = m + 1 := by omega
  have n5 : ¬ w + 1 = m + 1 := by omega
  have n6 : ¬ w = m + 1 := by omega
  have n7 : ¬ m = m + 1 := by omega
  refine ar_aload_n 1 rfl d_X1_copyFrom_0 rfl ?_
  refine ar_aload_n 2 rfl d_X1_copyFrom_1 rfl ?_
  refine ar_getI 5 rfl d_X1_copyFrom_2 fl_X1_18 rfl (by assumption) ?_
  refine ar_putI 8 rfl d_X1_copyFrom_5 fl_X1_18 rfl rfl (by assumption) ?_
  refine ar_aload_n 9 rfl d_X1_copyFrom_8 rfl ?_
  refine ar_aload_n 10 rfl d_X1_copyFrom_9 rfl ?_
  refine ar_getI 13 rfl d_X1_copyFrom_10 fl_X1_22 rfl (by assumption) ?_
  refine ar_putI 16 rfl d_X1_copyFrom_13 fl_X1_22 rfl rfl (by assumption) ?_
  refine ar_aload_n 17 rfl d_X1_copyFrom_16 rfl ?_
  refine ar_aload_n 18 rfl d_X1_copyFrom_17 rfl ?_
  refine ar_getI 21 rfl d_X1_copyFrom_18 fl_X1_25 rfl (by assumption) ?_
  refine ar_putI 24 rfl d_X1_copyFrom_21 fl_X1_25 rfl rfl (by assumption) ?_
  refine ar_aload_n 25 rfl d_X1_copyFrom_24 rfl ?_
  refine ar_aload_n 26 rfl d_X1_copyFrom_25 rfl ?_
  refine ar_getI 29 rfl d_X1_copyFrom_26 fl_X1_28 rfl (by assumption) ?_
  refine ar_putI 32 rfl d_X1_copyFrom_29 fl_X1_28 rfl rfl (by assumption) ?_
  refine ar_aload_n 33 rfl d_X1_copyFrom_32 rfl ?_
  refine ar_aload_n 34 rfl d_X1_copyFrom_33 rfl ?_
  refine ar_getI 37 rfl d_X1_copyFrom_34 fl_X1_31 rfl (by assumption) ?_
  refine ar_putI 40 rfl d_X1_copyFrom_37 fl_X1_31 rfl rfl (by assumption) ?_
  refine ar_aload_n 41 rfl d_X1_copyFrom_40 rfl ?_
  refine ar_aload_n 42 rfl d_X1_copyFrom_41 rfl ?_
  refine ar_getI 45 rfl d_X1_copyFrom_42 fl_X1_34 rfl (by assumption) ?_
  refine ar_putI 48 rfl d_X1_copyFrom_45 fl_X1_34 rfl rfl (by assumption) ?_
  refine ar_aload_n 49 rfl d_X1_copyFrom_48 rfl ?_
  refine ar_getA 52 rfl d_X1_copyFrom_49 fl_X1_9 rfl (by assumption) (by assumption) ?_
  refine ar_iconst 53 rfl d_X1_copyFrom_52 ?_
  refine ar_aload_n 54 rfl d_X1_copyFrom_53 rfl ?_
  refine ar_getA 57 rfl d_X1_copyFrom_54 fl_X1_9 rfl (by assumption) (by assumption) ?_
  refine ar_iconst 58 rfl d_X1_copyFrom_57 ?_
  refine ar_aload_n 59 rfl d_X1_copyFrom_58 rfl ?_
  refine ar_giv (y := ((mLk M).length : Int)) 62 rfl d_X1_copyFrom_59 fl_X1_34 rfl (by assumption) (by simp [hI_w, n1, m5]) ?_
  refine ar_copyI 65 rfl d_X1_copyFrom_62 cp_X1_37 (by assumption) (by assumption) (by omega) (Nat.le_of_ble_eq_true rfl) (by omega) ?_
  refine ar_aload_n 66 rfl d_X1_copyFrom_65 rfl ?_
  refine ar_getA 69 rfl d_X1_copyFrom_66 fl_X1_15 rfl (by assumption) (by assumption) ?_
  refine ar_iconst 70 rfl d_X1_copyFrom_69 ?_
  refine ar_aload_n 71 rfl d_X1_copyFrom_70 rfl ?_
  refine ar_getA 74 rfl d_X1_copyFrom_71 fl_X1_15 rfl (by assumption) (by assumption) ?_
  refine ar_iconst 75 rfl d_X1_copyFrom_74 ?_
  refine ar_aload_n 76 rfl d_X1_copyFrom_75 rfl ?_
  refine ar_giv (y := ((mLk M).length : Int)) 79 rfl d_X1_copyFrom_76 fl_X1_34 rfl (by assumption) (by simp [hI_w, hI_c, n1, m5]) ?_
  refine ar_copyI 82 rfl d_X1_copyFrom_79 cp_X1_37 (by assumption) (by assumption) (by omega) (Nat.le_of_ble_eq_true rfl) (by omega) ?_
  refine WA.ret none ⟨d_X1_copyFrom_82, rfl, rfl⟩ ?_
  refine hQ _ ?_ ?_
  · exact (((((((FrI.w (by omega) (by omega)).tr (FrI.w (by omega) (by omega))).tr (FrI.w (by omega) (by omega))).tr (FrI.w (by omega) (by omega))).tr (FrI.w (by omega) (by omega))).tr (FrI.w (by omega) (by omega))).tr (FrI.c (by omega) (by omega))).tr (FrI.c (by omega) (by omega))
  · refine ⟨?_, ?_, ?_, ?_, ?_, ?_, fun i x h => ?_⟩
    · simp [hI_w, hI_c, n1]; exact m0
    · simp [hI_w, hI_c, n1]; exact m1
    · simp [hI_w, hI_c, n1]; exact m2
    · simp [hI_w, hI_c, n1]; exact m3
    · simp [hI_w, hI_c, n1]; exact m4
    · simp [hI_w, hI_c, n1]; exact m5
    · have hi : i < (mLk M).length := (List.getElem?_eq_some_iff.mp h).1
      have h7 := m6 i x h
      have hi2 : i < M.2.2.2.2.2.length := hi
      refine ⟨?_, ?_⟩
      · simp [hI_w, hI_c, n1, n2, hi2]; exact h7.1
      · simp [hI_w, hI_c, n1, n3, n4, hi2]; exact h7.2
end MEMC
-- ===== a state's fixed parts, its memories =====
def ShS (σ : Sg) (s : Nat) : Prop := (sk σ s).1 = 5 ∧ sk σ (s + 1) = (10, 12) ∧ sk σ (s + 2) = (10, 2) ∧ sk σ (s + 3) = (14, 6) ∧ sk σ (s + 4) = (12, 17) ∧ sk σ (s + 5) = (10, 6) ∧ sk σ (s + 6) = (10, 6) ∧ hR σ s 0 = some (s + 1) ∧ hR σ s 2 = some (s + 2) ∧ hR σ s 3 = some (s + 3) ∧ hR σ s 4 = some (s + 4) ∧ hR σ s 7 = some (s + 5) ∧ hR σ s 8 = some (s + 6) ∧ ∀ p, p < 17 → ShM σ (s + 7 + 3 * p)
def RSm (σ : Sg) (s : Nat) (L : List Mem) : Prop := L.length ≤ 17 ∧ hI σ s 5 = (L.length : Int) ∧ (∀ i, i < 17 → ∃ p, p < 17 ∧ hR σ (s + 4) i = some (s + 7 + 3 * p)) ∧ (∀ i j, i < 17 → j < 17 → hR σ (s + 4) i = hR σ (s + 4) j → i = j) ∧ ∀ i M m, L[i]? = some M → hR σ (s + 4) i = some m → RM σ m M
def FrM (s : Nat) (σ σ' : Sg) : Prop := sk σ' = sk σ ∧ sn σ' = sn σ ∧ (∀ b, b ≠ s + 4 → hR σ' b = hR σ b) ∧ (∀ b, (b < s ∨ s + 58 ≤ b ∨ (s < b ∧ b < s + 7)) → hI σ' b = hI σ b) ∧ ∀ j, j ≠ 5 → hI σ' s j = hI σ s j
theorem FrM.rf {s : Nat} {σ : Sg} : FrM s σ σ := ⟨rfl, rfl, fun _ _ => rfl, fun _ _ => rfl, fun _ _ => rfl⟩
theorem FrM.tr {s : Nat} {σ σ1 σ2 : Sg} (h : FrM s σ σ1) (h2 : FrM s σ1 σ2) : FrM s σ σ2 := ⟨h2.1.trans h.1, h2.2.1.trans h.2.1, fun b hb => (h2.2.2.1 b hb).trans (h.2.2.1 b hb), fun b hb => (h2.2.2.2.1 b hb).trans (h.2.2.2.1 b hb), fun j hj => (h2.2.2.2.2 j hj).trans (h.2.2.2.2 j hj)⟩
theorem FrM.w {s : Nat} {σ : Sg} {a j : Nat} {x : Int} (h : (a = s ∧ j = 5) ∨ (s + 7 ≤ a ∧ a < s + 58)) : FrM s σ (wI σ a j x) := ⟨rfl, rfl, fun _ _ => rfl, fun b hb => by
  funext i
  rw [hI_w, if_neg (by omega)], fun i hi => by rw [hI_w, if_neg (by omega)]⟩
theorem FrM.r {s : Nat} {σ : Sg} {j : Nat} {x : Option Nat} : FrM s σ (wR σ (s + 4) j x) := ⟨rfl, rfl, fun b hb => by
  funext i
  rw [hR_w, if_neg (by omega)], fun _ _ => rfl, fun _ _ => rfl⟩
theorem FrM.i {s lo hi : Nat} {σ σ' : Sg} (h : FrI lo hi σ σ') (h1 : s + 7 ≤ lo) (h2 : hi ≤ s + 58) : FrM s σ σ' := by
  obtain ⟨e, f⟩ := h
  refine ⟨?_, ?_, fun b _ => ?_, fun b hb => f b (by omega), fun j _ => by rw [f s (by omega)]⟩
  · show σ'.2.2.1 = _
    rw [e]
  · show σ'.2.2.2 = _
    rw [e]
  · show σ'.2.1 b = _
    rw [e]
theorem ShM.frm {σ σ' : Sg} {s m : Nat} (h : ShM σ m) (hf : FrM s σ σ') (hm : m ≠ s + 4) : ShM σ' m := by
  unfold ShM at h ⊢
  rw [hf.1, hf.2.2.1 m hm]
  exact h
theorem ShS.frm {σ σ' : Sg} {s : Nat} (h : ShS σ s) (hf : FrM s σ σ') : ShS σ' s := by
  obtain ⟨h1, h2, h3, h4, h5, h6, h7, h8, h9, h10, h11, h12, h13, h14⟩ := h
  have e := hf.2.2.1 s (by omega)
  refine ⟨?_, ?_, ?_, ?_, ?_, ?_, ?_, ?_, ?_, ?_, ?_, ?_, ?_, fun p hp => (h14 p hp).frm hf (by omega)⟩ <;> first | (rw [hf.1]; assumption) | (rw [e]; assumption)
theorem RSm.at {σ : Sg} {s i : Nat} {L : List Mem} (h : RSm σ s L) (hs : ShS σ s) (hi : i < 17) : ∃ m, hR σ (s + 4) i = some m ∧ ShM σ m ∧ s + 7 ≤ m ∧ m + 3 ≤ s + 58 := by
  obtain ⟨p, hp, e⟩ := h.2.2.1 i hi
  exact ⟨_, e, hs.2.2.2.2.2.2.2.2.2.2.2.2.2 p hp, by omega, by omega⟩
theorem RSm.sep {σ : Sg} {s i j m m' : Nat} {L : List Mem} (h : RSm σ s L) (hi : i < 17) (hj : j < 17) (e : hR σ (s + 4) i = some m) (e' : hR σ (s + 4) j = some m') (hn : i ≠ j) : m + 3 ≤ m' ∨ m' + 3 ≤ m := by
  obtain ⟨p, hp, f⟩ := h.2.2.1 i hi
  obtain ⟨p', hp', f'⟩ := h.2.2.1 j hj
  have hne : m ≠ m' := by
    intro q
    exact hn (h.2.2.2.1 i j hi hj (by rw [e, e', q]))
  rw [e] at f
  rw [e'] at f'
  cases f
  cases f'
  omega
theorem RSm.perm {σ σ' : Sg} {s : Nat} {L L' : List Mem} (τ : Nat → Nat) (h : RSm σ s L) (hτ : ∀ i, i < 17 → τ i < 17) (hinj : ∀ i j, i < 17 → j < 17 → τ i = τ j → i = j) (hρ : ∀ i, i < 17 → hR σ' (s + 4) i = hR σ (s + 4) (τ i)) (hlen : L'.length ≤ 17) (h5 : hI σ' s 5 = (L'.length : Int)) (hM : ∀ i M m, L'[i]? = some M → hR σ (s + 4) (τ i) = some m → RM σ' m M) : RSm σ' s L' := by
  refine ⟨hlen, h5, fun i hi => ?_, fun i j hi hj e => ?_, fun i M m h1 h2 => ?_⟩
  · rw [hρ i hi]
    exact h.2.2.1 _ (hτ i hi)
  · rw [hρ i hi, hρ j hj] at e
    exact hinj i j hi hj (h.2.2.2.1 _ _ (hτ i hi) (hτ j hj) e)
  · have hi : i < 17 := by
      have := (List.getElem?_eq_some_iff.mp h1).1
      omega
    rw [hρ i hi] at h2
    exact hM i M m h1 h2
def τU (p i : Nat) : Nat := if i = 0 then p else if i ≤ p then i - 1 else i
def τD (p c i : Nat) : Nat := if i < p then i else if i < c then i + 1 else if i = c then p else i
def mUse (M : Mem) : Mem := (mLoaf M, mRes M, mSteps M, mUses M + 1, mSer M, mLk M)
def useL (L : List Mem) (p : Nat) : List Mem := match L[p]? with
  | some M => mUse M :: L.eraseIdx p
  | none => L
/-- places i+1 to p of a row of references have what the place below had -/
def shU (σ : Sg) (a p i : Nat) : Sg := (σ.1, fun b j => if b = a ∧ i < j ∧ j ≤ p then σ.2.1 a (j - 1) else σ.2.1 b j, σ.2.2)
theorem shU_0 (σ : Sg) (a p : Nat) : shU σ a p p = σ := by
  unfold shU
  refine Prod.ext rfl (Prod.ext ?_ rfl)
  funext b j
  exact if_neg (by omega)
theorem shU_s {σ : Sg} {a p i : Nat} {r : Option Nat} (hi : i + 1 ≤ p) (hr : hR σ a i = r) : wR (shU σ a p (i + 1)) a (i + 1) r = shU σ a p i := by
  subst hr
  unfold shU wR
  refine Prod.ext rfl (Prod.ext ?_ rfl)
  funext b j
  show (if b = a ∧ j = i + 1 then _ else if b = a ∧ i + 1 < j ∧ j ≤ p then σ.2.1 a (j - 1) else σ.2.1 b j) = (if b = a ∧ i < j ∧ j ≤ p then σ.2.1 a (j - 1) else σ.2.1 b j)
  by_cases e : b = a ∧ j = i + 1
  · obtain ⟨rfl, rfl⟩ := e
    rw [if_pos ⟨rfl, rfl⟩, if_pos (by omega)]
    try rfl
  · rw [if_neg e]
    by_cases e2 : b = a ∧ i < j ∧ j ≤ p
    · rw [if_pos e2, if_pos (by omega)]
    · rw [if_neg e2, if_neg (by omega)]
/-- places p to i-1 have what the place above had -/
def shD (σ : Sg) (a p i : Nat) : Sg := (σ.1, fun b j => if b = a ∧ p ≤ j ∧ j < i then σ.2.1 a (j + 1) else σ.2.1 b j, σ.2.2)
theorem shD_0 (σ : Sg) (a p : Nat) : shD σ a p p = σ := by
  unfold shD
  refine Prod.ext rfl (Prod.ext ?_ rfl)
  funext b j
  exact if_neg (by omega)
theorem shD_s {σ : Sg} {a p i : Nat} {r : Option Nat} (hi : p ≤ i) (hr : hR σ a (i + 1) = r) : wR (shD σ a p i) a i r = shD σ a p (i + 1) := by
  subst hr
  unfold shD wR
  refine Prod.ext rfl (Prod.ext ?_ rfl)
  funext b j
  show (if b = a ∧ j = i then _ else if b = a ∧ p ≤ j ∧ j < i then σ.2.1 a (j + 1) else σ.2.1 b j) = (if b = a ∧ p ≤ j ∧ j < i + 1 then σ.2.1 a (j + 1) else σ.2.1 b j)
  by_cases e : b = a ∧ j = i
  · obtain ⟨rfl, rfl⟩ := e
    rw [if_pos ⟨rfl, rfl⟩, if_pos (by omega)]
    try rfl
  · rw [if_neg e]
    by_cases e2 : b = a ∧ p ≤ j ∧ j < i + 1
    · rw [if_pos e2, if_pos (by omega)]
    · rw [if_neg e2, if_neg (by omega)]
theorem hR_U (σ : Sg) (a p i b j : Nat) : hR (shU σ a p i) b j = if b = a ∧ i < j ∧ j ≤ p then hR σ a (j - 1) else hR σ b j := rfl
theorem hR_D (σ : Sg) (a p i b j : Nat) : hR (shD σ a p i) b j = if b = a ∧ p ≤ j ∧ j < i then hR σ a (j + 1) else hR σ b j := rfl
theorem FrM.U {s : Nat} {σ : Sg} {p i : Nat} : FrM s σ (shU σ (s + 4) p i) := ⟨rfl, rfl, fun b hb => by
  funext j
  rw [hR_U, if_neg (by omega)], fun _ _ => rfl, fun _ _ => rfl⟩
theorem FrM.D {s : Nat} {σ : Sg} {p i : Nat} : FrM s σ (shD σ (s + 4) p i) := ⟨rfl, rfl, fun b hb => by
  funext j
  rw [hR_D, if_neg (by omega)], fun _ _ => rfl, fun _ _ => rfl⟩
section STM
variable {G : GT} {d k n : Nat} {σ : Sg} {Q : Option AV → Sg → Prop}
set_option maxHeartbeats 4000000 in
theorem sp_X4_use {s p : Nat} {L : List Mem} (hs : ShS σ s) (hL : RSm σ s L) (hp : p < L.length) (hQ : ∀ σ', FrM s σ σ' → RSm σ' s (useL L p) → (∀ i, i < 17 → hR σ' (s + 4) i = hR σ (s + 4) (τU p i)) → (∀ m, hI σ' m 4 = hI σ m 4) → Q none σ') : WA G d k n mX4_use 0 [Va s, Vi (p : Int), Vu, Vu] [] σ Q := by
  have hl17 := hL.1
  obtain ⟨mP, hmP, hshP, hlo, hhi⟩ := hL.at hs (i := p) (by omega)
  have hkP := hshP.1
  have hMp : L[p]? = some L[p] := List.getElem?_eq_getElem hp
  have hRMp := hL.2.2.2.2 p _ mP hMp hmP
  have hk := hs.1
  have hk4 : sk σ (s + 4) = (12, 17) := hs.2.2.2.2.1
  have hr4 : hR σ s 4 = some (s + 4) := hs.2.2.2.2.2.2.2.2.2.2.1
  have h5 := hL.2.1
  have loop : ∀ i : Nat, i ≤ p → WA G d k n mX4_use 22 [Va s, Vi (p : Int), Va mP, Vi (i : Int)] [] (shU σ (s + 4) p i) Q := by
    intro i
    induction i with
    | zero =>
      intro _
      refine ar_iload_n 23 rfl d_X4_use_22 rfl ?_
      refine ar_if_le 46 26 rfl rfl d_X4_use_23 (by omega) (fun g23 => ?_) (fun h => by omega)
      refine ar_aload_n 47 rfl d_X4_use_46 rfl ?_
      refine ar_getA 50 rfl d_X4_use_47 fl_X4_26 rfl (by assumption) (by rw [hR_U, if_neg (by omega)]; exact hr4) ?_
      refine ar_iconst 51 rfl d_X4_use_50 ?_
      refine ar_aload_n 52 rfl d_X4_use_51 rfl ?_
      refine ar_aasN (kd := 12) 0 53 rfl d_X4_use_52 (by assumption) (by omega) (by omega) (by omega) (by assumption) ?_
      refine ar_aload_n 54 rfl d_X4_use_53 rfl ?_
      refine ar_dup 55 rfl d_X4_use_54 (fun _ => rfl) ?_
      refine ar_giv (y := (mUses L[p])) 58 rfl d_X4_use_55 fl_X4_76 rfl (by assumption) hRMp.2.2.2.1 ?_
      refine ar_iconst 59 rfl d_X4_use_58 ?_
      refine ar_iadd 60 rfl d_X4_use_59 ?_
      refine ar_putI 63 rfl d_X4_use_60 fl_X4_76 rfl rfl (by assumption) ?_
      refine WA.ret none ⟨d_X4_use_63, rfl, rfl⟩ ?_
      have hρ : ∀ i, i < 17 → hR (wR (shU σ (s + 4) p 0) (s + 4) 0 (some mP)) (s + 4) i = hR σ (s + 4) (τU p i) := by
        intro i hi
        unfold τU
        rw [hR_w]
        by_cases e : i = 0
        · rw [if_pos ⟨rfl, e⟩, if_pos e, hmP]
        · rw [if_neg (by omega), if_neg e, hR_U]
          by_cases e2 : i ≤ p
          · rw [if_pos (by omega), if_pos e2]
          · rw [if_neg (by omega), if_neg e2]
      refine hQ _ ?_ ?_ hρ (fun m => by rw [hI_w, if_neg (by omega)]; rfl)
      · exact (FrM.U.tr FrM.r).tr (FrM.w (by omega))
      · refine RSm.perm (fun i => if i = 0 then p else if i ≤ p then i - 1 else i) hL (fun i hi => ?_) (fun i j hi hj e => ?_) (fun i hi => ?_) ?_ ?_ (fun i M m h1 h2 => ?_)
        · show (if i = 0 then p else if i ≤ p then i - 1 else i) < 17
          split
          · omega
          · split <;> omega
        · have e : (if i = 0 then p else if i ≤ p then i - 1 else i) = (if j = 0 then p else if j ≤ p then j - 1 else j) := e
          (repeat' split at e) <;> omega
        · exact hρ i hi
        · unfold useL
          rw [hMp]
          simp only [List.length_cons, List.length_eraseIdx_of_lt hp]
          omega
        · unfold useL
          rw [hMp, hI_w, if_neg (by omega)]
          have : (mUse L[p] :: L.eraseIdx p).length = L.length := by
            simp only [List.length_cons, List.length_eraseIdx_of_lt hp]
            omega
          rw [this]
          exact h5
        · unfold useL at h1
          rw [hMp] at h1
          have h2 : hR σ (s + 4) (if i = 0 then p else if i ≤ p then i - 1 else i) = some m := h2
          have hfr : FrI mP (mP + 3) (wR (shU σ (s + 4) p 0) (s + 4) 0 (some mP)) (wI (wR (shU σ (s + 4) p 0) (s + 4) 0 (some mP)) mP 3 (mUses L[p] + 1)) := FrI.w (by omega) (by omega)
          have other : ∀ j, j < 17 → j ≠ p → ∀ M', L[j]? = some M' → hR σ (s + 4) j = some m → RM (wI (wR (shU σ (s + 4) p 0) (s + 4) 0 (some mP)) mP 3 (mUses L[p] + 1)) m M' := by
            intro j hj hjp M' hM' hm
            have hsep := hL.sep hj (by omega) hm hmP hjp
            exact RM.fr (σ := wR (shU σ (s + 4) p 0) (s + 4) 0 (some mP)) (hL.2.2.2.2 j M' m hM' hm) hfr (by omega)
          cases i with
          | zero =>
            rw [if_pos rfl, hmP] at h2
            cases h2
            simp only [List.getElem?_cons_zero] at h1
            cases h1
            obtain ⟨m0, m1, m2, m3, m4, m5, m6⟩ := hRMp
            refine ⟨?_, ?_, ?_, ?_, ?_, ?_, fun j x hx => ?_⟩
            · rw [hI_w, if_neg (by omega)]
              exact m0
            · rw [hI_w, if_neg (by omega)]
              exact m1
            · rw [hI_w, if_neg (by omega)]
              exact m2
            · simp [hI_w, mUse]
            · rw [hI_w, if_neg (by omega)]
              exact m4
            · rw [hI_w, if_neg (by omega)]
              exact m5
            · have := m6 j x hx
              refine ⟨?_, ?_⟩
              · rw [hI_w, if_neg (by omega)]
                exact this.1
              · rw [hI_w, if_neg (by omega)]
                exact this.2
          | succ i =>
            rw [if_neg (by omega)] at h2
            rw [List.getElem?_cons_succ, List.getElem?_eraseIdx] at h1
            by_cases e2 : i + 1 ≤ p
            · rw [if_pos e2, Nat.add_sub_cancel] at h2
              rw [if_pos (by omega)] at h1
              exact other i (by omega) (by omega) M h1 h2
            · rw [if_neg e2] at h2
              rw [if_neg (by omega)] at h1
              have := (List.getElem?_eq_some_iff.mp h1).1
              exact other (i + 1) (by omega) (by omega) M h1 h2
    | succ i ih =>
      intro hi
      obtain ⟨m1, hm1, hsh1, -, -⟩ := hL.at hs (i := i) (by omega)
      have hk1 := hsh1.1
      refine ar_iload_n 23 rfl d_X4_use_22 rfl ?_
      refine ar_if_le 46 26 rfl rfl d_X4_use_23 (by omega) (fun h => by omega) (fun g23 => ?_)
      refine ar_aload_n 27 rfl d_X4_use_26 rfl ?_
      refine ar_getA 30 rfl d_X4_use_27 fl_X4_26 rfl (by assumption) (by rw [hR_U, if_neg (by omega)]; exact hr4) ?_
      refine ar_iload_n 31 rfl d_X4_use_30 rfl ?_
      refine ar_aload_n 32 rfl d_X4_use_31 rfl ?_
      refine ar_getA 35 rfl d_X4_use_32 fl_X4_26 rfl (by assumption) (by rw [hR_U, if_neg (by omega)]; exact hr4) ?_
      refine ar_iload_n 36 rfl d_X4_use_35 rfl ?_
      refine ar_iconst 37 rfl d_X4_use_36 ?_
      refine ar_isub 38 rfl d_X4_use_37 ?_
      refine ar_top (y := (i : Int)) (by omega) ?_
      refine ar_aalA 39 rfl d_X4_use_38 (by assumption) (by omega) (by omega) (by rw [hR_U, if_neg (by omega)]; exact hm1) ?_
      refine ar_aasN (kd := 12) (i + 1) 40 rfl d_X4_use_39 (by assumption) (by omega) (by omega) (by omega) hk1 ?_
      refine ar_inc_3 (y := (i : Int)) 43 rfl d_X4_use_40 rfl (by intro _ h; cases h) (by omega) ?_
      refine ar_goto 22 rfl d_X4_use_43 ?_
      refine ar_sig (shU_s (by omega) hm1) ?_
      exact ih (by omega)
  refine ar_iload_n 1 rfl d_X4_use_0 rfl ?_
  refine ar_if_lt 12 4 rfl rfl d_X4_use_1 (by omega) (fun h => by omega) (fun g1 => ?_)
  refine ar_iload_n 5 rfl d_X4_use_4 rfl ?_
  refine ar_aload_n 6 rfl d_X4_use_5 rfl ?_
  refine ar_giv (y := (L.length : Int)) 9 rfl d_X4_use_6 fl_X4_47 rfl (by assumption) (by assumption) ?_
  refine ar_icmp_lt 13 12 rfl rfl d_X4_use_9 (by omega) (by omega) (fun g9 => ?_) (fun h => by omega)
  refine ar_aload_n 14 rfl d_X4_use_13 rfl ?_
  refine ar_getA 17 rfl d_X4_use_14 fl_X4_26 rfl (by assumption) (by assumption) ?_
  refine ar_iload_n 18 rfl d_X4_use_17 rfl ?_
  refine ar_aalA 19 rfl d_X4_use_18 (by assumption) (by omega) (by omega) (by assumption) ?_
  refine ar_ast_2 20 rfl d_X4_use_19 rfl (by intro _ h; cases h) ?_
  refine ar_iload_n 21 rfl d_X4_use_20 rfl ?_
  refine ar_ist_3 22 rfl d_X4_use_21 rfl (by intro _ h; cases h) ?_
  have h9 := loop p (Nat.le_refl _)
  rw [shU_0] at h9
  exact h9
set_option maxHeartbeats 4000000 in
theorem sp_X4_drop {s p : Nat} {L : List Mem} (hs : ShS σ s) (hL : RSm σ s L) (hp : p < L.length) (hQ : ∀ σ', FrM s σ σ' → RSm σ' s (L.eraseIdx p) → (∀ i, i < 17 → hR σ' (s + 4) i = hR σ (s + 4) (τD p (L.length - 1) i)) → (∀ mP, hR σ (s + 4) p = some mP → hI σ' mP 4 = 0 ∧ ∀ m, m ≠ mP → hI σ' m 4 = hI σ m 4) → Q none σ') : WA G d k n mX4_drop 0 [Va s, Vi (p : Int), Vu, Vu] [] σ Q := by
  have hl17 := hL.1
  obtain ⟨mP, hmP, hshP, hlo, hhi⟩ := hL.at hs (i := p) (by omega)
  have hkP := hshP.1
  have hk := hs.1
  have hk4 : sk σ (s + 4) = (12, 17) := hs.2.2.2.2.1
  have hr4 : hR σ s 4 = some (s + 4) := hs.2.2.2.2.2.2.2.2.2.2.1
  have h5 := hL.2.1
  obtain ⟨c, hc⟩ : ∃ c, L.length = c + 1 := ⟨L.length - 1, by omega⟩
  have hlen : (L.eraseIdx p).length = c := by rw [List.length_eraseIdx_of_lt hp]; omega
  have loop : ∀ r i : Nat, c - i = r → p ≤ i → i ≤ c → WA G d k n mX4_drop 32 [Va s, Vi (p : Int), Va mP, Vi (i : Int)] [] (shD (wI σ s 5 (c : Int)) (s + 4) p i) Q := by
    intro r
    induction r using Nat.strongRecOn with
    | ind r ih =>
    intro i hr hpi hic
    have hc5 : ∀ j, hI (shD (wI σ s 5 (c : Int)) (s + 4) p j) s 5 = (c : Int) := fun j => by
      show hI (wI σ s 5 (c : Int)) s 5 = _
      rw [hI_w, if_pos ⟨rfl, rfl⟩]
    have hr44 : ∀ j, hR (shD (wI σ s 5 (c : Int)) (s + 4) p j) s 4 = some (s + 4) := fun j => by rw [hR_D, if_neg (by omega)]; exact hr4
    refine ar_iload_n 33 rfl d_X4_drop_32 rfl ?_
    refine ar_aload_n 34 rfl d_X4_drop_33 rfl ?_
    refine ar_giv (y := (c : Int)) 37 rfl d_X4_drop_34 fl_X4_47 rfl (by assumption) (hc5 _) ?_
    refine ar_icmp_ge 60 40 rfl rfl d_X4_drop_37 (by omega) (by omega) (fun g37 => ?_) (fun g37 => ?_)
    · refine ar_aload_n 61 rfl d_X4_drop_60 rfl ?_
      have hic : i = c := by omega
      subst hic
      refine ar_getA 64 rfl d_X4_drop_61 fl_X4_26 rfl (by assumption) (hr44 _) ?_
      refine ar_aload_n 65 rfl d_X4_drop_64 rfl ?_
      refine ar_giv (y := (i : Int)) 68 rfl d_X4_drop_65 fl_X4_47 rfl (by assumption) (hc5 _) ?_
      refine ar_aload_n 69 rfl d_X4_drop_68 rfl ?_
      refine ar_aasN (kd := 12) i 70 rfl d_X4_drop_69 (by assumption) (by omega) (by omega) (by omega) (by assumption) ?_
      refine ar_aload_n 71 rfl d_X4_drop_70 rfl ?_
      refine ar_iconst 72 rfl d_X4_drop_71 ?_
      refine ar_putI 75 rfl d_X4_drop_72 fl_X4_73 rfl rfl (by assumption) ?_
      refine WA.ret none ⟨d_X4_drop_75, rfl, rfl⟩ ?_
      have hρ : ∀ j, j < 17 → hR (wR (shD (wI σ s 5 (i : Int)) (s + 4) p i) (s + 4) i (some mP)) (s + 4) j = hR σ (s + 4) (τD p i j) := by
        intro j hj
        unfold τD
        rw [hR_w]
        by_cases e : j = i
        · subst e
          rw [if_pos ⟨rfl, rfl⟩, if_neg (by omega), if_neg (by omega), if_pos rfl, hmP]
        · rw [if_neg (by omega), hR_D]
          by_cases e2 : j < p
          · rw [if_neg (by omega), if_pos e2]
            rfl
          · by_cases e3 : j < i
            · rw [if_pos (by omega), if_neg e2, if_pos e3]
              rfl
            · rw [if_neg (by omega), if_neg e2, if_neg e3, if_neg e]
              rfl
      refine hQ _ ?_ ?_ (by rw [show L.length - 1 = i by omega]; exact hρ) (fun mP' hmP' => ?_)
      · exact (((FrM.w (by omega)).tr FrM.D).tr FrM.r).tr (FrM.w (by omega))
      rotate_left
      · cases hmP.symm.trans hmP'
        refine ⟨by rw [hI_w, if_pos ⟨rfl, rfl⟩], fun m hm => ?_⟩
        rw [hI_w, if_neg (by omega)]
        show hI (wI σ s 5 (i : Int)) m 4 = _
        rw [hI_w, if_neg (by omega)]
      · refine RSm.perm (fun j => if j < p then j else if j < i then j + 1 else if j = i then p else j) hL (fun j hj => ?_) (fun j1 j2 hj1 hj2 e => ?_) (fun j hj => ?_) (by omega) ?_ (fun j M m h1 h2 => ?_)
        · show (if j < p then j else if j < i then j + 1 else if j = i then p else j) < 17
          split
          · omega
          · split
            · omega
            · split <;> omega
        · have e : (if j1 < p then j1 else if j1 < i then j1 + 1 else if j1 = i then p else j1) = (if j2 < p then j2 else if j2 < i then j2 + 1 else if j2 = i then p else j2) := e
          (repeat' split at e) <;> omega
        · exact hρ j hj
        · rw [hlen, hI_w, if_neg (by omega)]
          exact hc5 i
        · have h2 : hR σ (s + 4) (if j < p then j else if j < i then j + 1 else if j = i then p else j) = some m := h2
          have hj : j < i := by
            have := (List.getElem?_eq_some_iff.mp h1).1
            omega
          have other : ∀ j', j' < 17 → j' ≠ p → ∀ M', L[j']? = some M' → hR σ (s + 4) j' = some m → RM (wI (wR (shD (wI σ s 5 (i : Int)) (s + 4) p i) (s + 4) i (some mP)) mP 4 0) m M' := by
            intro j' hj' hjp M' hM' hm
            have hsep := hL.sep hj' (by omega) hm hmP hjp
            obtain ⟨m9, hm9, -, hlo9, hhi9⟩ := hL.at hs (i := j') hj'
            have e9 : m9 = m := Option.some.inj (hm9.symm.trans hm)
            subst e9
            have g1 : RM (wI σ s 5 (i : Int)) m9 M' := RM.fr (hL.2.2.2.2 j' M' m9 hM' hm) (FrI.w (lo := s) (hi := s + 1) (by omega) (by omega)) (by omega)
            exact RM.fr (σ := wR (shD (wI σ s 5 (i : Int)) (s + 4) p i) (s + 4) i (some mP)) g1 (FrI.w (lo := mP) (hi := mP + 3) (by omega) (by omega)) (by omega)
          rw [List.getElem?_eraseIdx] at h1
          by_cases e2 : j < p
          · rw [if_pos e2] at h1 h2
            exact other j (by omega) (by omega) M h1 h2
          · rw [if_neg e2] at h1 h2
            rw [if_pos hj] at h2
            exact other (j + 1) (by omega) (by omega) M h1 h2
    · refine ar_aload_n 41 rfl d_X4_drop_40 rfl ?_
      obtain ⟨m1, hm1, hsh1, -, -⟩ := hL.at hs (i := i + 1) (by omega)
      have hk1 := hsh1.1
      refine ar_getA 44 rfl d_X4_drop_41 fl_X4_26 rfl (by assumption) (hr44 _) ?_
      refine ar_iload_n 45 rfl d_X4_drop_44 rfl ?_
      refine ar_aload_n 46 rfl d_X4_drop_45 rfl ?_
      refine ar_getA 49 rfl d_X4_drop_46 fl_X4_26 rfl (by assumption) (hr44 _) ?_
      refine ar_iload_n 50 rfl d_X4_drop_49 rfl ?_
      refine ar_iconst 51 rfl d_X4_drop_50 ?_
      refine ar_iadd 52 rfl d_X4_drop_51 ?_
      refine ar_top (y := ((i + 1 : Nat) : Int)) (by omega) ?_
      refine ar_aalA 53 rfl d_X4_drop_52 (by assumption) (by omega) (by omega) (by rw [hR_D, if_neg (by omega)]; exact hm1) ?_
      refine ar_aasN (kd := 12) i 54 rfl d_X4_drop_53 (by assumption) (by omega) (by omega) (by omega) hk1 ?_
      refine ar_inc_3 (y := ((i + 1 : Nat) : Int)) 57 rfl d_X4_drop_54 rfl (by intro _ h; cases h) (by omega) ?_
      refine ar_goto 32 rfl d_X4_drop_57 ?_
      refine ar_sig (shD_s hpi hm1) ?_
      exact ih (c - (i + 1)) (by omega) (i + 1) rfl (by omega) (by omega)
  refine ar_iload_n 1 rfl d_X4_drop_0 rfl ?_
  refine ar_if_lt 12 4 rfl rfl d_X4_drop_1 (by omega) (fun h => by omega) (fun g1 => ?_)
  refine ar_iload_n 5 rfl d_X4_drop_4 rfl ?_
  refine ar_aload_n 6 rfl d_X4_drop_5 rfl ?_
  refine ar_giv (y := (L.length : Int)) 9 rfl d_X4_drop_6 fl_X4_47 rfl (by assumption) (by assumption) ?_
  refine ar_icmp_lt 13 12 rfl rfl d_X4_drop_9 (by omega) (by omega) (fun g9 => ?_) (fun h => by omega)
  refine ar_aload_n 14 rfl d_X4_drop_13 rfl ?_
  refine ar_getA 17 rfl d_X4_drop_14 fl_X4_26 rfl (by assumption) (by assumption) ?_
  refine ar_iload_n 18 rfl d_X4_drop_17 rfl ?_
  refine ar_aalA 19 rfl d_X4_drop_18 (by assumption) (by omega) (by omega) (by assumption) ?_
  refine ar_ast_2 20 rfl d_X4_drop_19 rfl (by intro _ h; cases h) ?_
  refine ar_aload_n 21 rfl d_X4_drop_20 rfl ?_
  refine ar_dup 22 rfl d_X4_drop_21 (fun _ => rfl) ?_
  refine ar_giv (y := (L.length : Int)) 25 rfl d_X4_drop_22 fl_X4_47 rfl (by assumption) (by assumption) ?_
  refine ar_iconst 26 rfl d_X4_drop_25 ?_
  refine ar_isub 27 rfl d_X4_drop_26 ?_
  refine ar_top (y := (c : Int)) (by omega) ?_
  refine ar_putI 30 rfl d_X4_drop_27 fl_X4_47 rfl rfl (by assumption) ?_
  refine ar_iload_n 31 rfl d_X4_drop_30 rfl ?_
  refine ar_ist_3 32 rfl d_X4_drop_31 rfl (by intro _ h; cases h) ?_
  have h9 := loop _ p rfl (Nat.le_refl _) (by omega)
  rw [shD_0] at h9
  exact h9
end STM
end
section
theorem take_er {α : Type} {L : List α} {i : Nat} : (L.take (i + 1)).eraseIdx i = L.take i := by
  apply List.ext_getElem?
  intro j
  rw [List.getElem?_eraseIdx]
  by_cases h : j < i
  · rw [if_pos h, List.getElem?_take_of_lt (by omega), List.getElem?_take_of_lt h]
  · rw [if_neg h, List.getElem?_take_eq_none (by omega), List.getElem?_take_eq_none (by omega)]
theorem app_er {α : Type} {L X : List α} {i : Nat} (h : i < L.length) : (L.take (i + 1) ++ X).eraseIdx i = L.take i ++ X := by
  rw [List.eraseIdx_append_of_lt_length (by rw [List.length_take]; omega), take_er]
theorem RSm.frm0 {σ σ' : Sg} {s : Nat} {L : List Mem} (h : RSm σ s L) (h1 : ∀ b, (s ≤ b ∧ b < s + 58) → hI σ' b = hI σ b) (h2 : hR σ' (s + 4) = hR σ (s + 4)) : RSm σ' s L := by
  obtain ⟨a1, a2, a3, a4, a5⟩ := h
  refine ⟨a1, by rw [h1 s (by omega)]; exact a2, fun i hi => by rw [h2]; exact a3 i hi, fun i j hi hj e => by rw [h2] at e; exact a4 i j hi hj e, fun i M m hm hr => ?_⟩
  rw [h2] at hr
  have hi : i < 17 := by
    have := (List.getElem?_eq_some_iff.mp hm).1
    omega
  obtain ⟨p, hp, e⟩ := a3 i hi
  rw [hr] at e
  cases e
  have := a5 i M _ hm hr
  unfold RM at this ⊢
  rw [h1 _ (by omega), h1 _ (by omega), h1 _ (by omega)]
  exact this
def mSame (M M' : Mem) : Prop := mLoaf M' = mLoaf M ∧ mRes M' = mRes M ∧ mSteps M' = mSteps M ∧ mSer M' = mSer M ∧ mLk M' = mLk M
theorem mSame.rf (M : Mem) : mSame M M := ⟨rfl, rfl, rfl, rfl, rfl⟩
theorem mSame.tr {M M1 M2 : Mem} (h : mSame M M1) (h2 : mSame M1 M2) : mSame M M2 := ⟨h2.1.trans h.1, h2.2.1.trans h.2.1, h2.2.2.1.trans h.2.2.1, h2.2.2.2.1.trans h.2.2.2.1, h2.2.2.2.2.trans h.2.2.2.2⟩
/-- which object holds which memory: what is alive behind and old was alive before, in the same object; an object's number is kept, 0, or new -/
def OBJ (s : Nat) (z : Int) (σ : Sg) (L : List Mem) (σ' : Sg) (L' : List Mem) : Prop :=
  (∀ (i : Nat) (M' : Mem) (m : Nat), L'[i]? = some M' → hR σ' (s + 4) i = some m → mSer M' ≤ z → ∃ (j : Nat) (M : Mem), L[j]? = some M ∧ hR σ (s + 4) j = some m ∧ mSame M M') ∧
  (∀ p, p < 17 → hI σ' (s + 7 + 3 * p) 4 = hI σ (s + 7 + 3 * p) 4 ∨ hI σ' (s + 7 + 3 * p) 4 = 0 ∨ z < hI σ' (s + 7 + 3 * p) 4) ∧
  (∀ (j : Nat) (M : Mem) (m : Nat), L[j]? = some M → hR σ (s + 4) j = some m → hI σ' m 4 = mSer M → ∃ (i : Nat) (M' : Mem), L'[i]? = some M' ∧ hR σ' (s + 4) i = some m ∧ mSame M M')
theorem OBJ.rf {s : Nat} {z : Int} {σ : Sg} {L : List Mem} : OBJ s z σ L σ L := ⟨fun i M m h1 h2 _ => ⟨i, M, h1, h2, mSame.rf M⟩, fun _ _ => Or.inl rfl, fun j M m h1 h2 _ => ⟨j, M, h1, h2, mSame.rf M⟩⟩
theorem OBJ.tr {s : Nat} {z z' : Int} {σ σ1 σ2 : Sg} {L L1 L2 : List Mem} (h : OBJ s z σ L σ1 L1) (h2 : OBJ s z' σ1 L1 σ2 L2) (hz : z ≤ z') (hL : RSm σ s L) (hp : ∀ M ∈ L, 0 < mSer M ∧ mSer M ≤ z) : OBJ s z σ L σ2 L2 := by
  refine ⟨fun i M' m h3 h4 h5 => ?_, fun p hp => ?_, fun j M m h3 h4 h5 => ?_⟩
  · obtain ⟨j1, M1, e1, e2, e3⟩ := h2.1 i M' m h3 h4 (by omega)
    obtain ⟨j, M, f1, f2, f3⟩ := h.1 j1 M1 m e1 e2 (by have := e3.2.2.2.1; omega)
    exact ⟨j, M, f1, f2, f3.tr e3⟩
  · rcases h2.2.1 p hp with e | e | e
    · rcases h.2.1 p hp with f | f | f
      · exact Or.inl (e.trans f)
      · exact Or.inr (Or.inl (e.trans f))
      · exact Or.inr (Or.inr (by omega))
    · exact Or.inr (Or.inl e)
    · exact Or.inr (Or.inr (by omega))
  · have hx := hp M (List.mem_of_getElem? h3)
    have hj : j < 17 := by
      have := (List.getElem?_eq_some_iff.mp h3).1
      have := hL.1
      omega
    obtain ⟨p, hp17, e⟩ := hL.2.2.1 j hj
    rw [h4] at e
    cases e
    have e1 : hI σ1 (s + 7 + 3 * p) 4 = mSer M := by
      rcases h2.2.1 p hp17 with e | e | e <;> omega
    obtain ⟨i1, M1, f1, f2, f3⟩ := h.2.2 j M _ h3 h4 e1
    obtain ⟨i2, M2, g1, g2, g3⟩ := h2.2.2 i1 M1 _ f1 f2 (by rw [h5, f3.2.2.2.1])
    exact ⟨i2, M2, g1, g2, f3.tr g3⟩
theorem obj_use {s p : Nat} {z : Int} {σ σ' : Sg} {L : List Mem} (hL : RSm σ s L) (hp : p < L.length) (hρ : ∀ i, i < 17 → hR σ' (s + 4) i = hR σ (s + 4) (τU p i)) (hm : ∀ m, hI σ' m 4 = hI σ m 4) : OBJ s z σ L σ' (useL L p) := by
  have hl17 := hL.1
  have hMp : L[p]? = some L[p] := List.getElem?_eq_getElem hp
  have hu : useL L p = mUse L[p] :: L.eraseIdx p := by
    unfold useL
    rw [hMp]
  rw [hu]
  refine ⟨fun i M' m h1 h2 _ => ?_, fun q _ => Or.inl (hm _), fun j M m h1 h2 _ => ?_⟩
  · cases i with
    | zero =>
      rw [hρ 0 (by omega)] at h2
      simp only [List.getElem?_cons_zero] at h1
      cases h1
      exact ⟨p, L[p], hMp, h2, ⟨rfl, rfl, rfl, rfl, rfl⟩⟩
    | succ i =>
      rw [List.getElem?_cons_succ, List.getElem?_eraseIdx] at h1
      by_cases e : i < p
      · rw [if_pos e] at h1
        rw [hρ (i + 1) (by omega), show τU p (i + 1) = i by unfold τU; rw [if_neg (by omega), if_pos (by omega)]; omega] at h2
        exact ⟨i, M', h1, h2, mSame.rf M'⟩
      · rw [if_neg e] at h1
        have := (List.getElem?_eq_some_iff.mp h1).1
        rw [hρ (i + 1) (by omega), show τU p (i + 1) = i + 1 by unfold τU; rw [if_neg (by omega), if_neg (by omega)]] at h2
        exact ⟨i + 1, M', h1, h2, mSame.rf M'⟩
  · have hj := (List.getElem?_eq_some_iff.mp h1).1
    by_cases e : j = p
    · subst e
      rw [hMp] at h1
      cases h1
      exact ⟨0, mUse L[j], rfl, by rw [hρ 0 (by omega)]; exact h2, ⟨rfl, rfl, rfl, rfl, rfl⟩⟩
    · by_cases e2 : j < p
      · exact ⟨j + 1, M, by rw [List.getElem?_cons_succ, List.getElem?_eraseIdx, if_pos e2]; exact h1, by rw [hρ (j + 1) (by omega), show τU p (j + 1) = j by unfold τU; rw [if_neg (by omega), if_pos (by omega)]; omega]; exact h2, mSame.rf M⟩
      · obtain ⟨j', rfl⟩ : ∃ j', j = j' + 1 := ⟨j - 1, by omega⟩
        exact ⟨j' + 1, M, by rw [List.getElem?_cons_succ, List.getElem?_eraseIdx, if_neg (by omega)]; exact h1, by rw [hρ (j' + 1) (by omega), show τU p (j' + 1) = j' + 1 by unfold τU; rw [if_neg (by omega), if_neg (by omega)]]; exact h2, mSame.rf M⟩
theorem obj_drop {s p : Nat} {z : Int} {σ σ' : Sg} {L : List Mem} (hL : RSm σ s L) (hp : p < L.length) (hpos : ∀ M ∈ L, 0 < mSer M) (hρ : ∀ i, i < 17 → hR σ' (s + 4) i = hR σ (s + 4) (τD p (L.length - 1) i)) (hm : ∀ mP, hR σ (s + 4) p = some mP → hI σ' mP 4 = 0 ∧ ∀ m, m ≠ mP → hI σ' m 4 = hI σ m 4) : OBJ s z σ L σ' (L.eraseIdx p) := by
  have hl17 := hL.1
  obtain ⟨pp, hpp, hmP⟩ := hL.2.2.1 p (by omega)
  obtain ⟨hz, ho⟩ := hm _ hmP
  refine ⟨fun i M' m h1 h2 _ => ?_, fun q hq => ?_, fun j M m h1 h2 h3 => ?_⟩
  · have hi := (List.getElem?_eq_some_iff.mp h1).1
    rw [List.length_eraseIdx_of_lt hp] at hi
    rw [List.getElem?_eraseIdx] at h1
    rw [hρ i (by omega)] at h2
    unfold τD at h2
    by_cases e : i < p
    · rw [if_pos e] at h1 h2
      exact ⟨i, M', h1, h2, mSame.rf M'⟩
    · rw [if_neg e] at h1 h2
      rw [if_pos hi] at h2
      exact ⟨i + 1, M', h1, h2, mSame.rf M'⟩
  · by_cases e : s + 7 + 3 * q = s + 7 + 3 * pp
    · rw [e]
      exact Or.inr (Or.inl hz)
    · exact Or.inl (ho _ e)
  · have hj := (List.getElem?_eq_some_iff.mp h1).1
    have hps := hpos M (List.mem_of_getElem? h1)
    by_cases e : j = p
    · subst e
      rw [hmP] at h2
      cases h2
      omega
    · by_cases e2 : j < p
      · refine ⟨j, M, by rw [List.getElem?_eraseIdx, if_pos e2]; exact h1, ?_, mSame.rf M⟩
        rw [hρ j (by omega)]
        unfold τD
        rw [if_pos e2]
        exact h2
      · obtain ⟨j', rfl⟩ : ∃ j', j = j' + 1 := ⟨j - 1, by omega⟩
        refine ⟨j', M, by rw [List.getElem?_eraseIdx, if_neg (by omega)]; exact h1, ?_, mSame.rf M⟩
        rw [hρ j' (by omega)]
        unfold τD
        rw [if_neg (by omega), if_pos (by omega)]
        exact h2
section STN
variable {G : GT} {d k n : Nat} {σ : Sg} {Q : Option AV → Sg → Prop}
theorem sp_X4_dropBeyondRoom {s room : Nat} {L : List Mem} (hs : ShS σ s) (hL : RSm σ s L) (hr0 : hI σ (s + 2) 0 = (room : Int)) (hr1 : 1 ≤ room ∧ room ≤ 16) (hdp : 1 ≤ d) {z : Int} (hz : ∀ M ∈ L, 0 < mSer M ∧ mSer M ≤ z) (hQ : ∀ σ', FrM s σ σ' → RSm σ' s (L.take room) → OBJ s z σ L σ' (L.take room) → Q none σ') : WA G d k n mX4_dropBeyondRoom 0 [Va s, Vu] [] σ Q := by
  have hl17 := hL.1
  have loop : ∀ i : Nat, ∀ σi, i ≤ L.length → (i = L.length ∨ room ≤ i) → FrM s σ σi → RSm σi s (L.take i) → OBJ s z σ L σi (L.take i) → WA G d k n mX4_dropBeyondRoom 7 [Va s, Vi ((i : Int) - 1)] [] σi Q := by
    intro i
    induction i with
    | zero =>
      intro σi hi hor hf hLi hob
      have hsi := hs.frm hf
      have hk := hsi.1
      have hk2 : sk σi (s + 2) = (10, 2) := hsi.2.2.1
      have hr2 : hR σi s 2 = some (s + 2) := hsi.2.2.2.2.2.2.2.2.1
      have hrm : hI σi (s + 2) 0 = (room : Int) := by rw [hf.2.2.2.1 _ (by omega)]; exact hr0
      refine ar_iload_n 8 rfl d_X4_dropBeyondRoom_7 rfl ?_
      refine ar_aload_n 9 rfl d_X4_dropBeyondRoom_8 rfl ?_
      refine ar_getA 12 rfl d_X4_dropBeyondRoom_9 fl_X4_15 rfl (by assumption) (by assumption) ?_
      refine ar_iconst 13 rfl d_X4_dropBeyondRoom_12 ?_
      refine ar_ilv (y := (room : Int)) 14 rfl d_X4_dropBeyondRoom_13 (by assumption) (by omega) (by assumption) ?_
      refine ar_icmp_lt 28 17 rfl rfl d_X4_dropBeyondRoom_14 (by omega) (by omega) (fun g14 => ?_) (fun h => by omega)
      refine WA.ret none ⟨d_X4_dropBeyondRoom_28, rfl, rfl⟩ ?_
      have e : L.take room = L.take 0 := by
        rcases hor with h | h
        · have : L = [] := List.length_eq_zero_iff.mp h.symm
          rw [this]
          simp
        · omega
      exact hQ _ hf (by rw [e]; exact hLi) (by rw [e]; exact hob)
    | succ i ih =>
      intro σi hi hor hf hLi hob
      have hsi := hs.frm hf
      have hk := hsi.1
      have hk2 : sk σi (s + 2) = (10, 2) := hsi.2.2.1
      have hr2 : hR σi s 2 = some (s + 2) := hsi.2.2.2.2.2.2.2.2.1
      have hrm : hI σi (s + 2) 0 = (room : Int) := by rw [hf.2.2.2.1 _ (by omega)]; exact hr0
      refine ar_iload_n 8 rfl d_X4_dropBeyondRoom_7 rfl ?_
      refine ar_aload_n 9 rfl d_X4_dropBeyondRoom_8 rfl ?_
      refine ar_getA 12 rfl d_X4_dropBeyondRoom_9 fl_X4_15 rfl (by assumption) (by assumption) ?_
      refine ar_iconst 13 rfl d_X4_dropBeyondRoom_12 ?_
      refine ar_ilv (y := (room : Int)) 14 rfl d_X4_dropBeyondRoom_13 (by assumption) (by omega) (by assumption) ?_
      refine ar_icmp_lt 28 17 rfl rfl d_X4_dropBeyondRoom_14 (by omega) (by omega) (fun g14 => ?_) (fun g14 => ?_)
      · refine WA.ret none ⟨d_X4_dropBeyondRoom_28, rfl, rfl⟩ ?_
        have e : L.take room = L.take (i + 1) := by
          rcases hor with h | h
          · rw [List.take_of_length_le (by omega), List.take_of_length_le (by omega)]
          · rw [show room = i + 1 by omega]
        exact hQ _ hf (by rw [e]; exact hLi) (by rw [e]; exact hob)
      · refine ar_aload_n 18 rfl d_X4_dropBeyondRoom_17 rfl ?_
        refine ar_iload_n 19 rfl d_X4_dropBeyondRoom_18 rfl ?_
        refine ar_top (y := (i : Int)) (by omega) ?_
        refine ar_callV0 (M' := mX4_drop) (As := [_]) (ls' := [Va _, Vi _, Vu, Vu]) 22 rfl d_X4_dropBeyondRoom_19 ml_X4_86 mt_X4_drop (by assumption) rfl (Nat.le_of_ble_eq_true rfl) rfl (Nat.le_of_ble_eq_true rfl) (by omega) ?_
        refine sp_X4_drop hsi hLi (by rw [List.length_take]; omega) (fun σ1 hf1 hL1 hρ1 hm1 => ?_)
        have ho1 := obj_drop (z := z) hLi (by rw [List.length_take]; omega) (fun M hM => (hz M (List.mem_of_mem_take hM)).1) hρ1 hm1
        rw [take_er] at hL1 ho1
        refine ar_inc_1 (y := ((i : Int) - 1)) 25 rfl d_X4_dropBeyondRoom_22 rfl (by intro _ h; cases h) (by omega) ?_
        refine ar_goto 7 rfl d_X4_dropBeyondRoom_25 ?_
        exact ih σ1 (by omega) (by omega) (hf.tr hf1) hL1 (hob.tr ho1 (Int.le_refl _) hL hz)
  have hk := hs.1
  have h5 := hL.2.1
  refine ar_aload_n 1 rfl d_X4_dropBeyondRoom_0 rfl ?_
  refine ar_giv (y := (L.length : Int)) 4 rfl d_X4_dropBeyondRoom_1 fl_X4_47 rfl (by assumption) (by assumption) ?_
  refine ar_iconst 5 rfl d_X4_dropBeyondRoom_4 ?_
  refine ar_isub 6 rfl d_X4_dropBeyondRoom_5 ?_
  refine ar_ist_1 7 rfl d_X4_dropBeyondRoom_6 rfl (by intro _ h; cases h) ?_
  exact loop L.length σ (Nat.le_refl _) (Or.inl rfl) FrM.rf (by rw [List.take_length]; exact hL) (by rw [List.take_length]; exact OBJ.rf)
def notOf (l : Int) (M : Mem) : Bool := !(mLoaf M == l)
theorem sp_X4_dropAllOf {s : Nat} {l : Int} {L : List Mem} (hs : ShS σ s) (hL : RSm σ s L) (hl : i32 l) (hW : ∀ M ∈ L, i32 (mLoaf M)) (hdp : 1 ≤ d) (hQ : ∀ σ', FrM s σ σ' → RSm σ' s (L.filter (notOf l)) → Q none σ') : WA G d k n mX4_dropAllOf 0 [Va s, Vi l, Vu] [] σ Q := by
  have hl17 := hL.1
  have loop : ∀ i : Nat, ∀ σi, i ≤ L.length → FrM s σ σi → RSm σi s (L.take i ++ (L.drop i).filter (notOf l)) → WA G d k n mX4_dropAllOf 7 [Va s, Vi l, Vi ((i : Int) - 1)] [] σi Q := by
    intro i
    induction i with
    | zero =>
      intro σi hi hf hLi
      refine ar_iload_n 8 rfl d_X4_dropAllOf_7 rfl ?_
      refine ar_if_lt 35 11 rfl rfl d_X4_dropAllOf_8 (by omega) (fun g8 => ?_) (fun h => by omega)
      refine WA.ret none ⟨d_X4_dropAllOf_35, rfl, rfl⟩ ?_
      exact hQ _ hf (by simpa using hLi)
    | succ i ih =>
      intro σi hi hf hLi
      have hsi := hs.frm hf
      have hk := hsi.1
      have hk4 : sk σi (s + 4) = (12, 17) := hsi.2.2.2.2.1
      have hr4 : hR σi s 4 = some (s + 4) := hsi.2.2.2.2.2.2.2.2.2.2.1
      have hlt : i < L.length := by omega
      have hMi : (L.take (i + 1) ++ (L.drop (i + 1)).filter (notOf l))[i]? = some L[i] := by
        rw [List.getElem?_append_left (by rw [List.length_take]; omega), List.getElem?_take_of_lt (by omega)]
        exact List.getElem?_eq_getElem hlt
      obtain ⟨m1, hm1, hsh1, -, -⟩ := hLi.at hsi (i := i) (by omega)
      have hk1 := hsh1.1
      have hRM1 := hLi.2.2.2.2 i _ m1 hMi hm1
      have hw1 := hW _ (List.getElem_mem hlt)
      have hdr : L.drop i = L[i] :: L.drop (i + 1) := List.drop_eq_getElem_cons hlt
      refine ar_iload_n 8 rfl d_X4_dropAllOf_7 rfl ?_
      refine ar_if_lt 35 11 rfl rfl d_X4_dropAllOf_8 (by omega) (fun h => by omega) (fun g8 => ?_)
      refine ar_aload_n 12 rfl d_X4_dropAllOf_11 rfl ?_
      refine ar_getA 15 rfl d_X4_dropAllOf_12 fl_X4_26 rfl (by assumption) (by assumption) ?_
      refine ar_iload_n 16 rfl d_X4_dropAllOf_15 rfl ?_
      refine ar_top (y := (i : Int)) (by omega) ?_
      refine ar_aalA 17 rfl d_X4_dropAllOf_16 (by assumption) (by omega) (by omega) (by assumption) ?_
      refine ar_giv (y := (mLoaf L[i])) 20 rfl d_X4_dropAllOf_17 fl_X4_70 rfl (by assumption) hRM1.1 ?_
      refine ar_iload_n 21 rfl d_X4_dropAllOf_20 rfl ?_
      refine ar_icmp_ne 29 24 rfl rfl d_X4_dropAllOf_21 (by omega) (by omega) (fun g21 => ?_) (fun g21 => ?_)
      · refine ar_inc_2 (y := ((i : Int) - 1)) 32 rfl d_X4_dropAllOf_29 rfl (by intro _ h; cases h) (by omega) ?_
        refine ar_goto 7 rfl d_X4_dropAllOf_32 ?_
        refine ih σi (by omega) hf ?_
        have e : L.take i ++ (L.drop i).filter (notOf l) = L.take (i + 1) ++ (L.drop (i + 1)).filter (notOf l) := by
          rw [hdr, List.filter_cons_of_pos (by simp [notOf]; exact g21), List.take_succ_eq_append_getElem hlt, List.append_assoc]
          rfl
        rw [e]
        exact hLi
      · refine ar_aload_n 25 rfl d_X4_dropAllOf_24 rfl ?_
        refine ar_iload_n 26 rfl d_X4_dropAllOf_25 rfl ?_
        refine ar_top (y := (i : Int)) (by omega) ?_
        refine ar_callV0 (M' := mX4_drop) (As := [_]) (ls' := [Va _, Vi _, Vu, Vu]) 29 rfl d_X4_dropAllOf_26 ml_X4_86 mt_X4_drop (by assumption) rfl (Nat.le_of_ble_eq_true rfl) rfl (Nat.le_of_ble_eq_true rfl) (by omega) ?_
        refine sp_X4_drop hsi hLi (by rw [List.length_append, List.length_take]; omega) (fun σ1 hf1 hL1 _ _ => ?_)
        rw [app_er hlt] at hL1
        refine ar_inc_2 (y := ((i : Int) - 1)) 32 rfl d_X4_dropAllOf_29 rfl (by intro _ h; cases h) (by omega) ?_
        refine ar_goto 7 rfl d_X4_dropAllOf_32 ?_
        refine ih σ1 (by omega) (hf.tr hf1) ?_
        have e : L.take i ++ (L.drop i).filter (notOf l) = L.take i ++ (L.drop (i + 1)).filter (notOf l) := by
          rw [hdr, List.filter_cons_of_neg (by simp [notOf]; exact g21)]
        rw [e]
        exact hL1
  have hk := hs.1
  have h5 := hL.2.1
  refine ar_aload_n 1 rfl d_X4_dropAllOf_0 rfl ?_
  refine ar_giv (y := (L.length : Int)) 4 rfl d_X4_dropAllOf_1 fl_X4_47 rfl (by assumption) (by assumption) ?_
  refine ar_iconst 5 rfl d_X4_dropAllOf_4 ?_
  refine ar_isub 6 rfl d_X4_dropAllOf_5 ?_
  refine ar_ist_2 7 rfl d_X4_dropAllOf_6 rfl (by intro _ h; cases h) ?_
  exact loop L.length σ (Nat.le_refl _) FrM.rf (by simpa using hL)
theorem sp_X4_placeOfSerial {s : Nat} {w : Int} {L : List Mem} (hs : ShS σ s) (hL : RSm σ s L) (hw : i32 w) (hW : ∀ M ∈ L, i32 (mSer M)) (hQ : ∀ (i : Nat) (M : Mem), L[i]? = some M → mSer M = w → (∀ (j : Nat) (M' : Mem), j < i → L[j]? = some M' → mSer M' ≠ w) → Q (some (Vi (i : Int))) σ) (hN : (∀ M ∈ L, mSer M ≠ w) → Q (some (Vi (-1))) σ) : WA G d k n mX4_placeOfSerial 0 [Va s, Vi w, Vu] [] σ Q := by
  have hl17 := hL.1
  have hk := hs.1
  have h5 := hL.2.1
  have hk4 : sk σ (s + 4) = (12, 17) := hs.2.2.2.2.1
  have hr4 : hR σ s 4 = some (s + 4) := hs.2.2.2.2.2.2.2.2.2.2.1
  have loop : ∀ r i : Nat, L.length - i = r → i ≤ L.length → (∀ (j : Nat) (M' : Mem), j < i → L[j]? = some M' → mSer M' ≠ w) → WA G d k n mX4_placeOfSerial 2 [Va s, Vi w, Vi (i : Int)] [] σ Q := by
    intro r
    induction r using Nat.strongRecOn with
    | ind r ih =>
    intro i hr hi hj
    refine ar_iload_n 3 rfl d_X4_placeOfSerial_2 rfl ?_
    refine ar_aload_n 4 rfl d_X4_placeOfSerial_3 rfl ?_
    refine ar_giv (y := (L.length : Int)) 7 rfl d_X4_placeOfSerial_4 fl_X4_47 rfl (by assumption) (by assumption) ?_
    refine ar_icmp_ge 31 10 rfl rfl d_X4_placeOfSerial_7 (by omega) (by omega) (fun g7 => ?_) (fun g7 => ?_)
    · refine ar_iconst 32 rfl d_X4_placeOfSerial_31 ?_
      refine WA.ret (some (Vi _)) ⟨d_X4_placeOfSerial_32, rfl, Or.inl rfl⟩ ?_
      refine hN fun M hM => ?_
      obtain ⟨j, hj2⟩ := List.getElem?_of_mem hM
      exact hj j M (by have := (List.getElem?_eq_some_iff.mp hj2).1; omega) hj2
    · have hlt : i < L.length := by omega
      have hx0 : L[i]? = some L[i] := List.getElem?_eq_getElem hlt
      obtain ⟨m1, hm1, hsh1, -, -⟩ := hL.at hs (i := i) (by omega)
      have hk1 := hsh1.1
      have hRM1 := hL.2.2.2.2 i _ m1 hx0 hm1
      have hw1 := hW _ (List.getElem_mem hlt)
      refine ar_aload_n 11 rfl d_X4_placeOfSerial_10 rfl ?_
      refine ar_getA 14 rfl d_X4_placeOfSerial_11 fl_X4_26 rfl (by assumption) (by assumption) ?_
      refine ar_iload_n 15 rfl d_X4_placeOfSerial_14 rfl ?_
      refine ar_aalA 16 rfl d_X4_placeOfSerial_15 (by assumption) (by omega) (by omega) (by assumption) ?_
      refine ar_giv (y := (mSer L[i])) 19 rfl d_X4_placeOfSerial_16 fl_X4_73 rfl (by assumption) hRM1.2.2.2.2.1 ?_
      refine ar_iload_n 20 rfl d_X4_placeOfSerial_19 rfl ?_
      refine ar_icmp_ne 25 23 rfl rfl d_X4_placeOfSerial_20 (by omega) (by omega) (fun g20 => ?_) (fun g20 => ?_)
      · refine ar_inc_2 (y := ((i + 1 : Nat) : Int)) 28 rfl d_X4_placeOfSerial_25 rfl (by intro _ h; cases h) (by omega) ?_
        refine ar_goto 2 rfl d_X4_placeOfSerial_28 ?_
        exact ih (L.length - (i + 1)) (by omega) (i + 1) rfl (by omega) (fun j M' hj2 hj3 => by
          by_cases e : j = i
          · subst e
            rw [hx0] at hj3
            cases hj3
            exact g20
          · exact hj j M' (by omega) hj3)
      · refine ar_iload_n 24 rfl d_X4_placeOfSerial_23 rfl ?_
        refine WA.ret (some (Vi _)) ⟨d_X4_placeOfSerial_24, rfl, Or.inl rfl⟩ ?_
        exact hQ i _ hx0 g20 hj
  refine ar_iconst 1 rfl d_X4_placeOfSerial_0 ?_
  refine ar_ist_2 2 rfl d_X4_placeOfSerial_1 rfl (by intro _ h; cases h) ?_
  exact loop _ 0 rfl (by omega) (fun j y h => absurd h (by omega))
theorem take_f {α : Type} {L : List α} {p : α → Bool} {i : Nat} (h : i < L.length) : (L.take (i + 1)).filter p = (L.take i).filter p ++ (if p L[i] = true then [L[i]] else []) := by
  rw [List.take_succ_eq_append_getElem h, List.filter_append]
  by_cases e : p L[i] = true
  · rw [if_pos e, List.filter_cons_of_pos e]
    rfl
  · rw [if_neg e, List.filter_cons_of_neg e]
    rfl
def isOf (l : Int) (M : Mem) : Bool := mLoaf M == l
theorem sp_X4_memoriesOf {s : Nat} {l : Int} {L : List Mem} (hs : ShS σ s) (hL : RSm σ s L) (hl : i32 l) (hW : ∀ M ∈ L, i32 (mLoaf M)) (hQ : Q (some (Vi ((L.filter (isOf l)).length : Int))) σ) : WA G d k n mX4_memoriesOf 0 [Va s, Vi l, Vu, Vu] [] σ Q := by
  have hl17 := hL.1
  have hk := hs.1
  have h5 := hL.2.1
  have hk4 : sk σ (s + 4) = (12, 17) := hs.2.2.2.2.1
  have hr4 : hR σ s 4 = some (s + 4) := hs.2.2.2.2.2.2.2.2.2.2.1
  have loop : ∀ r i : Nat, L.length - i = r → i ≤ L.length → WA G d k n mX4_memoriesOf 4 [Va s, Vi l, Vi (((L.take i).filter (isOf l)).length : Int), Vi (i : Int)] [] σ Q := by
    intro r
    induction r using Nat.strongRecOn with
    | ind r ih =>
    intro i hr hi
    refine ar_iload_n 5 rfl d_X4_memoriesOf_4 rfl ?_
    refine ar_aload_n 6 rfl d_X4_memoriesOf_5 rfl ?_
    refine ar_giv (y := (L.length : Int)) 9 rfl d_X4_memoriesOf_6 fl_X4_47 rfl (by assumption) (by assumption) ?_
    refine ar_icmp_ge 34 12 rfl rfl d_X4_memoriesOf_9 (by omega) (by omega) (fun g9 => ?_) (fun g9 => ?_)
    · refine ar_iload_n 35 rfl d_X4_memoriesOf_34 rfl ?_
      refine WA.ret (some (Vi _)) ⟨d_X4_memoriesOf_35, rfl, Or.inl rfl⟩ ?_
      rw [show i = L.length by omega, List.take_length]
      exact hQ
    · have hlt : i < L.length := by omega
      have hx0 : L[i]? = some L[i] := List.getElem?_eq_getElem hlt
      obtain ⟨m1, hm1, hsh1, -, -⟩ := hL.at hs (i := i) (by omega)
      have hk1 := hsh1.1
      have hRM1 := hL.2.2.2.2 i _ m1 hx0 hm1
      have hw1 := hW _ (List.getElem_mem hlt)
      have htf := take_f (p := isOf l) hlt
      refine ar_aload_n 13 rfl d_X4_memoriesOf_12 rfl ?_
      refine ar_getA 16 rfl d_X4_memoriesOf_13 fl_X4_26 rfl (by assumption) (by assumption) ?_
      refine ar_iload_n 17 rfl d_X4_memoriesOf_16 rfl ?_
      refine ar_aalA 18 rfl d_X4_memoriesOf_17 (by assumption) (by omega) (by omega) (by assumption) ?_
      refine ar_giv (y := (mLoaf L[i])) 21 rfl d_X4_memoriesOf_18 fl_X4_70 rfl (by assumption) hRM1.1 ?_
      refine ar_iload_n 22 rfl d_X4_memoriesOf_21 rfl ?_
      refine ar_icmp_ne 28 25 rfl rfl d_X4_memoriesOf_22 (by omega) (by omega) (fun g22 => ?_) (fun g22 => ?_)
      · refine ar_inc_3 (y := ((i + 1 : Nat) : Int)) 31 rfl d_X4_memoriesOf_28 rfl (by intro _ h; cases h) (by omega) ?_
        refine ar_goto 4 rfl d_X4_memoriesOf_31 ?_
        rw [if_neg (by simp [isOf]; exact g22), List.append_nil] at htf
        rw [← htf]
        exact ih (L.length - (i + 1)) (by omega) (i + 1) rfl (by omega)
      · rw [if_pos (by simp [isOf]; exact g22)] at htf
        have hln : ((L.take (i + 1)).filter (isOf l)).length = ((L.take i).filter (isOf l)).length + 1 := by rw [htf]; simp
        refine ar_inc_2 (y := (((L.take (i + 1)).filter (isOf l)).length : Int)) 28 rfl d_X4_memoriesOf_25 rfl (by intro _ h; cases h) (by omega) ?_
        refine ar_inc_3 (y := ((i + 1 : Nat) : Int)) 31 rfl d_X4_memoriesOf_28 rfl (by intro _ h; cases h) (by omega) ?_
        refine ar_goto 4 rfl d_X4_memoriesOf_31 ?_
        exact ih (L.length - (i + 1)) (by omega) (i + 1) rfl (by omega)
  refine ar_iconst 1 rfl d_X4_memoriesOf_0 ?_
  refine ar_ist_2 2 rfl d_X4_memoriesOf_1 rfl (by intro _ h; cases h) ?_
  refine ar_iconst 3 rfl d_X4_memoriesOf_2 ?_
  refine ar_ist_3 4 rfl d_X4_memoriesOf_3 rfl (by intro _ h; cases h) ?_
  exact loop _ 0 rfl (by omega)
set_option maxHeartbeats 4000000 in
theorem sp_X4_serialsOf {s ar : Nat} {l : Int} {L : List Mem} (hs : ShS σ s) (hL : RSm σ s L) (hl : i32 l) (hW : ∀ M ∈ L, i32 (mLoaf M)) (ha : sk σ ar = (10, 17)) (hd : ar < s ∨ s + 58 ≤ ar) (hQ : ∀ σ', FrI ar (ar + 1) σ σ' → (∀ (j : Nat) (x : Int), ((L.filter (isOf l)).map mSer)[j]? = some x → hI σ' ar j = x) → Q (some (Vi ((L.filter (isOf l)).length : Int))) σ') : WA G d k n mX4_serialsOf 0 [Va s, Vi l, Va ar, Vu, Vu] [] σ Q := by
  have hl17 := hL.1
  have loop : ∀ r i : Nat, ∀ σi, L.length - i = r → i ≤ L.length → FrI ar (ar + 1) σ σi → (∀ (j : Nat) (x : Int), (((L.take i).filter (isOf l)).map mSer)[j]? = some x → hI σi ar j = x) → WA G d k n mX4_serialsOf 5 [Va s, Vi l, Va ar, Vi (((L.take i).filter (isOf l)).length : Int), Vi (i : Int)] [] σi Q := by
    intro r
    induction r using Nat.strongRecOn with
    | ind r ih =>
    intro i σi hr hi hf hj
    have e2 : σi.2 = σ.2 := hf.1
    have hsk : sk σi = sk σ := by
      show σi.2.2.1 = _
      rw [e2]
    have hrr : hR σi = hR σ := by
      show σi.2.1 = _
      rw [e2]
    have hLi : RSm σi s L := hL.frm0 (fun b hb => hf.2 b (by omega)) (by rw [hrr])
    have hk : (sk σi s).1 = 5 := by rw [hsk]; exact hs.1
    have h5 := hLi.2.1
    have hk4 : sk σi (s + 4) = (12, 17) := by rw [hsk]; exact hs.2.2.2.2.1
    have hr4 : hR σi s 4 = some (s + 4) := by rw [hrr]; exact hs.2.2.2.2.2.2.2.2.2.2.1
    have hai : sk σi ar = (10, 17) := by rw [hsk]; exact ha
    refine ar_iload 7 rfl d_X4_serialsOf_5 rfl ?_
    refine ar_aload_n 8 rfl d_X4_serialsOf_7 rfl ?_
    refine ar_giv (y := (L.length : Int)) 11 rfl d_X4_serialsOf_8 fl_X4_47 rfl (by assumption) (by assumption) ?_
    refine ar_icmp_ge 56 14 rfl rfl d_X4_serialsOf_11 (by omega) (by omega) (fun g11 => ?_) (fun g11 => ?_)
    · refine ar_iload_n 57 rfl d_X4_serialsOf_56 rfl ?_
      refine WA.ret (some (Vi _)) ⟨d_X4_serialsOf_57, rfl, Or.inl rfl⟩ ?_
      rw [show i = L.length by omega, List.take_length] at hj ⊢
      exact hQ _ hf hj
    · have hlt : i < L.length := by omega
      have hx0 : L[i]? = some L[i] := List.getElem?_eq_getElem hlt
      obtain ⟨m1, hm1, hsh1, -, -⟩ := hL.at hs (i := i) (by omega)
      have hk1 : (sk σi m1).1 = 2 := by rw [hsk]; exact hsh1.1
      have hm1 : hR σi (s + 4) i = some m1 := by rw [hrr]; exact hm1
      have hRM1 := hLi.2.2.2.2 i _ m1 hx0 hm1
      have hw1 := hW _ (List.getElem_mem hlt)
      have htf := take_f (p := isOf l) hlt
      have hle : ((L.take i).filter (isOf l)).length ≤ i := Nat.le_trans (List.length_filter_le _ _) (by rw [List.length_take]; omega)
      refine ar_aload_n 15 rfl d_X4_serialsOf_14 rfl ?_
      refine ar_getA 18 rfl d_X4_serialsOf_15 fl_X4_26 rfl (by assumption) (by assumption) ?_
      refine ar_iload 20 rfl d_X4_serialsOf_18 rfl ?_
      refine ar_aalA 21 rfl d_X4_serialsOf_20 (by assumption) (by omega) (by omega) (by assumption) ?_
      refine ar_giv (y := (mLoaf L[i])) 24 rfl d_X4_serialsOf_21 fl_X4_70 rfl (by assumption) hRM1.1 ?_
      refine ar_iload_n 25 rfl d_X4_serialsOf_24 rfl ?_
      refine ar_icmp_ne 50 28 rfl rfl d_X4_serialsOf_25 (by omega) (by omega) (fun g25 => ?_) (fun g25 => ?_)
      · refine ar_inc_4 (y := ((i + 1 : Nat) : Int)) 53 rfl d_X4_serialsOf_50 rfl (by intro _ h; cases h) (by omega) ?_
        refine ar_goto 5 rfl d_X4_serialsOf_53 ?_
        rw [if_neg (by simp [isOf]; exact g25), List.append_nil] at htf
        rw [← htf] at hj ⊢
        exact ih (L.length - (i + 1)) (by omega) (i + 1) σi rfl (by omega) hf hj
      · refine ar_iload_n 29 rfl d_X4_serialsOf_28 rfl ?_
        refine ar_aload_n 30 rfl d_X4_serialsOf_29 rfl ?_
        refine ar_alen 31 rfl d_X4_serialsOf_30 (by assumption) (by omega) ?_
        refine ar_icmp_ge 50 34 rfl rfl d_X4_serialsOf_31 (by omega) (by omega) (fun h => by omega) (fun g31 => ?_)
        refine ar_aload_n 35 rfl d_X4_serialsOf_34 rfl ?_
        refine ar_iload_n 36 rfl d_X4_serialsOf_35 rfl ?_
        refine ar_aload_n 37 rfl d_X4_serialsOf_36 rfl ?_
        refine ar_getA 40 rfl d_X4_serialsOf_37 fl_X4_26 rfl (by assumption) (by assumption) ?_
        refine ar_iload 42 rfl d_X4_serialsOf_40 rfl ?_
        refine ar_aalA 43 rfl d_X4_serialsOf_42 (by assumption) (by omega) (by omega) (by assumption) ?_
        refine ar_giv (y := (mSer L[i])) 46 rfl d_X4_serialsOf_43 fl_X4_73 rfl (by assumption) hRM1.2.2.2.2.1 ?_
        refine ar_iasN ((L.take i).filter (isOf l)).length 47 rfl d_X4_serialsOf_46 (by assumption) (by omega) (by omega) ?_
        rw [if_pos (by simp [isOf]; exact g25)] at htf
        have hln : ((L.take (i + 1)).filter (isOf l)).length = ((L.take i).filter (isOf l)).length + 1 := by rw [htf]; simp
        refine ar_inc_3 (y := (((L.take (i + 1)).filter (isOf l)).length : Int)) 50 rfl d_X4_serialsOf_47 rfl (by intro _ h; cases h) (by omega) ?_
        refine ar_inc_4 (y := ((i + 1 : Nat) : Int)) 53 rfl d_X4_serialsOf_50 rfl (by intro _ h; cases h) (by omega) ?_
        refine ar_goto 5 rfl d_X4_serialsOf_53 ?_
        refine ih (L.length - (i + 1)) (by omega) (i + 1) _ rfl (by omega) (hf.tr (FrI.w (by omega) (by omega))) (fun j x hx => ?_)
        rw [htf, List.map_append] at hx
        rw [hI_w]
        by_cases e : j = ((L.take i).filter (isOf l)).length
        · rw [if_pos ⟨rfl, e⟩]
          subst e
          rw [List.getElem?_append_right (by rw [List.length_map]; omega), List.length_map, Nat.sub_self] at hx
          simpa using hx
        · rw [if_neg (by omega)]
          have hlt2 : j < ((L.take i).filter (isOf l)).length := by
            have := (List.getElem?_eq_some_iff.mp hx).1
            simp only [List.length_append, List.length_map, List.length_cons, List.length_nil] at this
            omega
          rw [List.getElem?_append_left (by rw [List.length_map]; exact hlt2)] at hx
          exact hj j x hx
  refine ar_iconst 1 rfl d_X4_serialsOf_0 ?_
  refine ar_ist_3 2 rfl d_X4_serialsOf_1 rfl (by intro _ h; cases h) ?_
  refine ar_iconst 3 rfl d_X4_serialsOf_2 ?_
  refine ar_ist_4 5 rfl d_X4_serialsOf_3 rfl (by intro _ h; cases h) ?_
  exact loop _ 0 σ rfl (by omega) FrI.rf (fun j x h => by simp at h)
def keepL (L : List Mem) (D : Mem) (ser : Int) (room : Nat) : List Mem := ((mLoaf D, mRes D, mSteps D, mUses D + 1, ser, mLk D) :: L).take room
set_option maxHeartbeats 4000000 in
theorem sp_X4_keepMemory {s room dm : Nat} {ser : Int} {L : List Mem} {D : Mem} (hs : ShS σ s) (hL : RSm σ s L) (hl16 : L.length ≤ 16) (hr0 : hI σ (s + 2) 0 = (room : Int)) (hr1 : 1 ≤ room ∧ room ≤ 16) (hser : hI σ s 6 = ser) (hz : ∀ M ∈ L, 0 < mSer M ∧ mSer M ≤ ser) (hs0 : 0 ≤ ser) (hD : RM σ dm D) (hDs : ShM σ dm) (hDl : (mLk D).length ≤ 18) (hdd : dm + 3 ≤ s ∨ s + 58 ≤ dm) (hdp : 2 ≤ d) (hQ : ∀ σ', FrM s (wI σ s 6 (ser + 1)) σ' → RSm σ' s (keepL L D (ser + 1) room) → OBJ s ser σ L σ' (keepL L D (ser + 1) room) → Q none σ') : WA G d k n mX4_keepMemory 0 [Va s, Va dm] [] σ Q := by
  obtain ⟨m1, hm1, hsh1, hlo, hhi⟩ := hL.at hs (i := L.length) (by omega)
  have hk := hs.1
  have hk4 : sk σ (s + 4) = (12, 17) := hs.2.2.2.2.1
  have hr4 : hR σ s 4 = some (s + 4) := hs.2.2.2.2.2.2.2.2.2.2.1
  have h5 := hL.2.1
  have hc6 : hI (wI σ s 6 (ser + 1)) s 5 = (L.length : Int) := by rw [hI_w, if_neg (by omega)]; exact h5
  refine ar_aload_n 1 rfl d_X4_keepMemory_0 rfl ?_
  refine ar_giv (y := (L.length : Int)) 4 rfl d_X4_keepMemory_1 fl_X4_47 rfl (by assumption) (by assumption) ?_
  refine ar_aload_n 5 rfl d_X4_keepMemory_4 rfl ?_
  refine ar_getA 8 rfl d_X4_keepMemory_5 fl_X4_26 rfl (by assumption) (by assumption) ?_
  refine ar_alen 9 rfl d_X4_keepMemory_8 (by assumption) (by omega) ?_
  refine ar_icmp_lt 13 12 rfl rfl d_X4_keepMemory_9 (by omega) (by omega) (fun g9 => ?_) (fun h => by omega)
  refine ar_aload_n 14 rfl d_X4_keepMemory_13 rfl ?_
  refine ar_dup 15 rfl d_X4_keepMemory_14 (fun _ => rfl) ?_
  refine ar_giv (y := ser) 18 rfl d_X4_keepMemory_15 fl_X4_54 rfl (by assumption) (by assumption) ?_
  refine ar_iconst 19 rfl d_X4_keepMemory_18 ?_
  refine ar_iadd 20 rfl d_X4_keepMemory_19 ?_
  refine ar_putI 23 rfl d_X4_keepMemory_20 fl_X4_54 rfl rfl (by assumption) ?_
  refine ar_aload_n 24 rfl d_X4_keepMemory_23 rfl ?_
  refine ar_getA 27 rfl d_X4_keepMemory_24 fl_X4_26 rfl (by assumption) (by assumption) ?_
  refine ar_aload_n 28 rfl d_X4_keepMemory_27 rfl ?_
  refine ar_giv (y := (L.length : Int)) 31 rfl d_X4_keepMemory_28 fl_X4_47 rfl (by assumption) hc6 ?_
  refine ar_aalA 32 rfl d_X4_keepMemory_31 (by assumption) (by omega) (by omega) hm1 ?_
  refine ar_aload_n 33 rfl d_X4_keepMemory_32 rfl ?_
  refine ar_callV0 (M' := mX1_copyFrom) (As := [_]) (ls' := [Va _, Vr _]) 36 rfl d_X4_keepMemory_33 ml_X4_50 mt_X1_copyFrom hsh1.1 rfl (Nat.le_of_ble_eq_true rfl) rfl (Nat.le_of_ble_eq_true rfl) (by omega) ?_
  refine sp_X1_copyFrom hsh1 hDs (RM.fr hD (FrI.w (lo := s) (hi := s + 1) (by omega) (by omega)) (by omega)) hDl (by omega) (by omega) (fun σ2 hf2 hM2 => ?_)
  have e2 : σ2.2 = σ.2 := hf2.1
  have hsk : sk σ2 = sk σ := by
    show σ2.2.2.1 = _
    rw [e2]
  have hrr : hR σ2 = hR σ := by
    show σ2.2.1 = _
    rw [e2]
  have hk : (sk σ2 s).1 = 5 := by rw [hsk]; exact hs.1
  have hk4 : sk σ2 (s + 4) = (12, 17) := by rw [hsk]; exact hs.2.2.2.2.1
  have hr4 : hR σ2 s 4 = some (s + 4) := by rw [hrr]; exact hs.2.2.2.2.2.2.2.2.2.2.1
  have hc5 : hI σ2 s 5 = (L.length : Int) := by rw [hf2.2 s (by omega)]; exact hc6
  have hc7 : hI σ2 s 6 = ser + 1 := by rw [hf2.2 s (by omega), hI_w, if_pos ⟨rfl, rfl⟩]
  have hk1 : (sk σ2 m1).1 = 2 := by rw [hsk]; exact hsh1.1
  have hm2 : hR σ2 (s + 4) L.length = some m1 := by rw [hrr]; exact hm1
  refine ar_aload_n 37 rfl d_X4_keepMemory_36 rfl ?_
  refine ar_getA 40 rfl d_X4_keepMemory_37 fl_X4_26 rfl (by assumption) (by assumption) ?_
  refine ar_aload_n 41 rfl d_X4_keepMemory_40 rfl ?_
  refine ar_giv (y := (L.length : Int)) 44 rfl d_X4_keepMemory_41 fl_X4_47 rfl (by assumption) (by assumption) ?_
  refine ar_aalA 45 rfl d_X4_keepMemory_44 (by assumption) (by omega) (by omega) hm2 ?_
  refine ar_aload_n 46 rfl d_X4_keepMemory_45 rfl ?_
  refine ar_giv (y := (ser + 1)) 49 rfl d_X4_keepMemory_46 fl_X4_54 rfl (by assumption) (by assumption) ?_
  refine ar_putI 52 rfl d_X4_keepMemory_49 fl_X4_73 rfl rfl (by assumption) ?_
  refine ar_aload_n 53 rfl d_X4_keepMemory_52 rfl ?_
  refine ar_dup 54 rfl d_X4_keepMemory_53 (fun _ => rfl) ?_
  refine ar_giv (y := (L.length : Int)) 57 rfl d_X4_keepMemory_54 fl_X4_47 rfl (by assumption) (by rw [hI_w, if_neg (by omega)]; exact hc5) ?_
  refine ar_iconst 58 rfl d_X4_keepMemory_57 ?_
  refine ar_iadd 59 rfl d_X4_keepMemory_58 ?_
  refine ar_top (y := ((L.length + 1 : Nat) : Int)) (by omega) ?_
  refine ar_putI 62 rfl d_X4_keepMemory_59 fl_X4_47 rfl rfl (by assumption) ?_
  have hf4 : FrM s (wI σ s 6 (ser + 1)) (wI (wI σ2 m1 4 (ser + 1)) s 5 ((L.length + 1 : Nat) : Int)) := ((FrM.i hf2 (by omega) (by omega)).tr (FrM.w (by omega))).tr (FrM.w (by omega))
  have hs4 : ShS (wI (wI σ2 m1 4 (ser + 1)) s 5 ((L.length + 1 : Nat) : Int)) s := ShS.frm (σ := wI σ s 6 (ser + 1)) hs hf4
  have hold : ∀ (i : Nat) (M : Mem) (m : Nat), L[i]? = some M → hR σ (s + 4) i = some m → RM (wI (wI σ2 m1 4 (ser + 1)) s 5 ((L.length + 1 : Nat) : Int)) m M := by
    intro i M m hM hm
    have hi := (List.getElem?_eq_some_iff.mp hM).1
    have hsep := hL.sep (i := i) (j := L.length) (by omega) (by omega) hm hm1 (by omega)
    obtain ⟨m9, hm9, -, hlo9, hhi9⟩ := hL.at hs (i := i) (by omega)
    have e9 : m9 = m := Option.some.inj (hm9.symm.trans hm)
    subst e9
    have g0 := hL.2.2.2.2 i M m9 hM hm
    have g1 := RM.fr g0 (FrI.w (lo := s) (hi := s + 1) (j := 6) (x := ser + 1) (a := s) (by omega) (by omega)) (by omega)
    have g2 := RM.fr g1 hf2 (by omega)
    have g3 := RM.fr g2 (FrI.w (lo := m1) (hi := m1 + 3) (j := 4) (x := ser + 1) (a := m1) (by omega) (by omega)) (by omega)
    exact RM.fr g3 (FrI.w (lo := s) (hi := s + 1) (j := 5) (x := ((L.length + 1 : Nat) : Int)) (a := s) (by omega) (by omega)) (by omega)
  have hL4 : RSm (wI (wI σ2 m1 4 (ser + 1)) s 5 ((L.length + 1 : Nat) : Int)) s (L ++ [(mLoaf D, mRes D, mSteps D, mUses D, ser + 1, mLk D)]) := by
    refine RSm.perm (fun i => i) hL (fun i hi => hi) (fun i j _ _ e => e) (fun i _ => ?_) (by simp; omega) (by rw [hI_w, if_pos ⟨rfl, rfl⟩]; simp) (fun i M m h1 h2 => ?_)
    · show hR σ2 (s + 4) i = _
      rw [hrr]
    · have h2 : hR σ (s + 4) i = some m := h2
      by_cases e : i < L.length
      · rw [List.getElem?_append_left e] at h1
        exact hold i M m h1 h2
      · have hi := (List.getElem?_eq_some_iff.mp h1).1
        have e3 : i = L.length := by
          simp at hi
          omega
        subst e3
        rw [List.getElem?_append_right (Nat.le_refl _), Nat.sub_self] at h1
        simp only [List.getElem?_cons_zero] at h1
        cases h1
        cases hm1.symm.trans h2
        obtain ⟨q0, q1, q2, q3, q4, q5, q6⟩ := hM2
        refine ⟨?_, ?_, ?_, ?_, ?_, ?_, fun j x hx => ?_⟩
        · rw [hI_w, if_neg (by omega), hI_w, if_neg (by omega)]; exact q0
        · rw [hI_w, if_neg (by omega), hI_w, if_neg (by omega)]; exact q1
        · rw [hI_w, if_neg (by omega), hI_w, if_neg (by omega)]; exact q2
        · rw [hI_w, if_neg (by omega), hI_w, if_neg (by omega)]; exact q3
        · rw [hI_w, if_neg (by omega), hI_w, if_pos ⟨rfl, rfl⟩]
        · rw [hI_w, if_neg (by omega), hI_w, if_neg (by omega)]; exact q5
        · have := q6 j x hx
          refine ⟨?_, ?_⟩
          · rw [hI_w, if_neg (by omega), hI_w, if_neg (by omega)]; exact this.1
          · rw [hI_w, if_neg (by omega), hI_w, if_neg (by omega)]; exact this.2
  have ho4 : OBJ s ser σ L (wI (wI σ2 m1 4 (ser + 1)) s 5 ((L.length + 1 : Nat) : Int)) (L ++ [(mLoaf D, mRes D, mSteps D, mUses D, ser + 1, mLk D)]) := by
    refine ⟨fun i M' m h1 h2 h3 => ?_, fun p hp => ?_, fun j M m h1 h2 h3 => ?_⟩
    · by_cases e : i < L.length
      · rw [List.getElem?_append_left e] at h1
        exact ⟨i, M', h1, by rw [← h2]; show _ = hR σ2 (s + 4) i; rw [hrr], mSame.rf M'⟩
      · have hi := (List.getElem?_eq_some_iff.mp h1).1
        have e3 : i = L.length := by
          simp at hi
          omega
        subst e3
        rw [List.getElem?_append_right (Nat.le_refl _), Nat.sub_self] at h1
        simp only [List.getElem?_cons_zero] at h1
        cases h1
        have h3 : ser + 1 ≤ ser := h3
        omega
    · by_cases e : s + 7 + 3 * p = m1
      · refine Or.inr (Or.inr ?_)
        rw [hI_w, if_neg (by omega), hI_w, if_pos ⟨e, rfl⟩]
        omega
      · refine Or.inl ?_
        rw [hI_w, if_neg (by omega), hI_w, if_neg (by omega)]
        obtain ⟨p1, hp1, e1⟩ := hL.2.2.1 L.length (by omega)
        rw [hm1] at e1
        cases e1
        rw [hf2.2 _ (by omega), hI_w, if_neg (by omega)]
    · have hj := (List.getElem?_eq_some_iff.mp h1).1
      exact ⟨j, M, by rw [List.getElem?_append_left hj]; exact h1, by rw [← h2]; show hR σ2 (s + 4) j = _; rw [hrr], mSame.rf M⟩
  have hu4 : useL (L ++ [(mLoaf D, mRes D, mSteps D, mUses D, ser + 1, mLk D)]) L.length = (mLoaf D, mRes D, mSteps D, mUses D + 1, ser + 1, mLk D) :: L := by
    unfold useL
    rw [List.getElem?_append_right (Nat.le_refl _), Nat.sub_self]
    simp only [List.getElem?_cons_zero]
    have : (L ++ [((mLoaf D, mRes D, mSteps D, mUses D, ser + 1, mLk D) : Mem)]).eraseIdx L.length = L := by
      rw [List.eraseIdx_append_of_length_le (Nat.le_refl _), Nat.sub_self]
      simp
    rw [this]
    rfl
  have hk4' := hs4.1
  refine ar_aload_n 63 rfl d_X4_keepMemory_62 rfl ?_
  refine ar_aload_n 64 rfl d_X4_keepMemory_63 rfl ?_
  refine ar_giv (y := ((L.length + 1 : Nat) : Int)) 67 rfl d_X4_keepMemory_64 fl_X4_47 rfl hk4' (hL4.2.1.trans (by simp)) ?_
  refine ar_iconst 68 rfl d_X4_keepMemory_67 ?_
  refine ar_isub 69 rfl d_X4_keepMemory_68 ?_
  refine ar_top (y := (L.length : Int)) (by omega) ?_
  refine ar_callV0 (M' := mX4_use) (As := [_]) (ls' := [Va _, Vi _, Vu, Vu]) 72 rfl d_X4_keepMemory_69 ml_X4_79 mt_X4_use hk4' rfl (Nat.le_of_ble_eq_true rfl) rfl (Nat.le_of_ble_eq_true rfl) (by omega) ?_
  refine sp_X4_use hs4 hL4 (by simp) (fun σ5 hf5 hL5 hρ5 hm5 => ?_)
  have ho5 := obj_use (z := ser) hL4 (by simp) hρ5 hm5
  rw [hu4] at hL5 ho5
  have hs5 := hs4.frm hf5
  have hk5 := hs5.1
  have hr5 : hI σ5 (s + 2) 0 = (room : Int) := by rw [hf5.2.2.2.1 _ (by omega), hf4.2.2.2.1 _ (by omega), hI_w, if_neg (by omega)]; exact hr0
  have hz5 : ∀ M ∈ ((mLoaf D, mRes D, mSteps D, mUses D + 1, ser + 1, mLk D) : Mem) :: L, 0 < mSer M ∧ mSer M ≤ ser + 1 := by
    intro M hM
    rcases List.mem_cons.mp hM with e | e
    · subst e
      show 0 < ser + 1 ∧ ser + 1 ≤ ser + 1
      omega
    · have := hz M e
      omega
  refine ar_aload_n 73 rfl d_X4_keepMemory_72 rfl ?_
  refine ar_callV0 (M' := mX4_dropBeyondRoom) (As := []) (ls' := [Va _, Vu]) 76 rfl d_X4_keepMemory_73 ml_X4_83 mt_X4_dropBeyondRoom hk5 rfl (Nat.le_of_ble_eq_true rfl) rfl (Nat.le_of_ble_eq_true rfl) (by omega) ?_
  refine sp_X4_dropBeyondRoom (z := ser + 1) hs5 hL5 hr5 hr1 (by omega) hz5 (fun σ6 hf6 hL6 ho6 => ?_)
  refine WA.ret none ⟨d_X4_keepMemory_76, rfl, rfl⟩ ?_
  exact hQ _ ((hf4.tr hf5).tr hf6) hL6 ((ho4.tr ho5 (Int.le_refl _) hL hz).tr ho6 (by omega) hL hz)
end STN
end
section
theorem fa_and (a b : Nat) : nI a &&& nI b = nI (a &&& b) := by
  apply Int32.toBitVec_inj.1
  show BitVec.ofNat 32 a &&& BitVec.ofNat 32 b = BitVec.ofNat 32 (a &&& b)
  apply BitVec.eq_of_getLsbD_eq
  intro i hi
  simp [hi]
theorem fa_or (a b : Nat) : nI a ||| nI b = nI (a ||| b) := by
  apply Int32.toBitVec_inj.1
  show BitVec.ofNat 32 a ||| BitVec.ofNat 32 b = BitVec.ofNat 32 (a ||| b)
  apply BitVec.eq_of_getLsbD_eq
  intro i hi
  simp [hi]
theorem nx_cnt : ∀ j : Fin 32, (UInt32.ofNat j.val &&& Int32.toUInt32 31).toNat % 32 = j.val := by decide +kernel
theorem nx_xor (a b : Nat) : nI a ^^^ nI b = nI (a ^^^ b) := by
  apply Int32.toBitVec_inj.1
  show BitVec.ofNat 32 a ^^^ BitVec.ofNat 32 b = BitVec.ofNat 32 (a ^^^ b)
  apply BitVec.eq_of_getLsbD_eq
  intro i hi
  simp [hi]
theorem nx_ush {k j : Nat} (hk : k < 65536) (hj : j < 32) : ((nI k).toUInt32 >>> ((nI j).toUInt32 &&& Int32.toUInt32 31)).toInt32 = nI (k >>> j) := by
  have hs : k >>> j ≤ k := by
    rw [Nat.shiftRight_eq_div_pow]
    exact Nat.div_le_self _ _
  have e2 : UInt32.ofNat k >>> (UInt32.ofNat j &&& Int32.toUInt32 31) = UInt32.ofNat (k >>> j) := by
    apply UInt32.toNat_inj.1
    have h1 : (UInt32.ofNat k).toNat = k := Nat.mod_eq_of_lt (by omega)
    have h2 : (UInt32.ofNat (k >>> j)).toNat = k >>> j := Nat.mod_eq_of_lt (by omega)
    rw [UInt32.toNat_shiftRight, nx_cnt ⟨j, hj⟩, h1, h2]
  show (UInt32.ofNat k >>> (UInt32.ofNat j &&& Int32.toUInt32 31)).toInt32 = _
  rw [e2]
  rfl
-- bits
theorem on_I (a : Nat) : Int32.ofInt (a : Int) = nI a := Int32.ofInt_eq_ofNat
theorem iOr_n {a b : Nat} (ha : a < 2 ^ 31) (hb : b < 2 ^ 31) : iOr (a : Int) (b : Int) = ((a ||| b : Nat) : Int) := by
  unfold iOr
  rw [on_I, on_I, fa_or, nI_toInt (Nat.or_lt_two_pow ha hb)]
theorem iAn_n {a b : Nat} (ha : a < 2 ^ 31) : iAn (a : Int) (b : Int) = ((a &&& b : Nat) : Int) := by
  unfold iAn
  rw [on_I, on_I, fa_and, nI_toInt (Nat.lt_of_le_of_lt Nat.and_le_left ha)]
theorem iSl_1 : ∀ k : Nat, k < 31 → iSl 1 (k : Int) = ((2 ^ k : Nat) : Int) := by decide +kernel
theorem iSl_0 : ∀ k : Nat, k < 31 → iSl 0 (k : Int) = 0 := by decide +kernel
theorem iUs_n {a j : Nat} (ha : a < 65536) (hj : j < 32) : iUs (a : Int) (j : Int) = ((a >>> j : Nat) : Int) := by
  have hs : a >>> j ≤ a := by
    rw [Nat.shiftRight_eq_div_pow]
    exact Nat.div_le_self _ _
  unfold iUs
  rw [on_I, on_I, nx_ush ha hj, nI_toInt (by omega)]
theorem bit_n {a j : Nat} (ha : a < 65536) (hj : j < 32) : iAn (iUs (a : Int) (j : Int)) 1 = if a.testBit j = true then 1 else 0 := by
  have hs : a >>> j ≤ a := by
    rw [Nat.shiftRight_eq_div_pow]
    exact Nat.div_le_self _ _
  rw [iUs_n ha hj, show (1 : Int) = ((1 : Nat) : Int) from rfl, iAn_n (by omega), Nat.and_one_is_mod]
  rw [Nat.testBit, Nat.one_and_eq_mod_two]
  rcases Nat.mod_two_eq_zero_or_one (a >>> j) with e | e <;> rw [e] <;> rfl
theorem clr_n {p s : Nat} (hp : p < 4096) (hs : s < 12) : iAn (p : Int) (iXr (iSl 1 (s : Int)) (-1)) = ((p &&& (2 ^ s ^^^ 4294967295) : Nat) : Int) := by
  have e1 : (-1 : Int32) = nI 4294967295 := by decide +kernel
  have e2 : Int32.ofInt (-1) = nI 4294967295 := by decide +kernel
  unfold iAn iXr
  rw [iSl_1 s (by omega), on_I, on_I, e2, nx_xor, Int32.ofInt_toInt, fa_and, nI_toInt (Nat.lt_of_le_of_lt Nat.and_le_left (by omega))]
theorem clr_b {p s i : Nat} (hi : i < 32) : (p &&& (2 ^ s ^^^ 4294967295)).testBit i = (p.testBit i && !(decide (s = i))) := by
  rw [Nat.testBit_and, Nat.testBit_xor, Nat.testBit_two_pow, show (4294967295 : Nat) = 2 ^ 32 - 1 from rfl, Nat.testBit_two_pow_sub_one]
  simp [hi]
section BITM
variable {G : GT} {d k n : Nat} {σ : Sg} {Q : Option AV → Sg → Prop}
theorem sp_X5_bitOf {a j : Nat} (ha : a < 65536) (hj : j < 32) (hQ : Q (some (Vi (if a.testBit j = true then 1 else 0))) σ) : WA G d k n mX5_bitOf 0 [Vi (a : Int), Vi (j : Int)] [] σ Q := by
  refine ar_iload_n 1 rfl d_X5_bitOf_0 rfl ?_
  refine ar_iload_n 2 rfl d_X5_bitOf_1 rfl ?_
  refine ar_iushr 3 rfl d_X5_bitOf_2 ?_
  refine ar_iconst 4 rfl d_X5_bitOf_3 ?_
  refine ar_iand 5 rfl d_X5_bitOf_4 ?_
  refine WA.ret (some (Vi _)) ⟨d_X5_bitOf_5, rfl, Or.inl rfl⟩ ?_
  rw [bit_n ha hj]
  exact hQ
def flI (σ : Sg) (a n : Nat) (v : Int) : Sg := (fun b i => if b = a ∧ i < n then v else σ.1 b i, σ.2)
theorem flI_0 (σ : Sg) (a : Nat) (v : Int) : flI σ a 0 v = σ := by
  unfold flI
  refine Prod.ext ?_ rfl
  funext b i
  exact if_neg (by omega)
theorem flI_s (σ : Sg) (a i : Nat) (v : Int) : wI (flI σ a i v) a i v = flI σ a (i + 1) v := by
  unfold flI wI
  refine Prod.ext ?_ rfl
  funext b j
  show (if b = a ∧ j = i then v else if b = a ∧ j < i then v else σ.1 b j) = (if b = a ∧ j < i + 1 then v else σ.1 b j)
  by_cases e : b = a ∧ j = i
  · rw [if_pos e, if_pos (by omega)]
  · rw [if_neg e]
    by_cases e2 : b = a ∧ j < i
    · rw [if_pos e2, if_pos (by omega)]
    · rw [if_neg e2, if_neg (by omega)]
theorem sp_J7_fill_53178 {a N : Nat} {v : Int} (ha : sk σ a = (10, N)) (hN : N ≤ 1000) (hQ : Q none (flI σ a N v)) : WA G d k n mJ7_fill_53178 0 [Va a, Vi v, Vu, Vu] [] σ Q := by
  have loop : ∀ r i : Nat, N - i = r → i ≤ N → WA G d k n mJ7_fill_53178 5 [Va a, Vi v, Vi (i : Int), Vi (N : Int)] [] (flI σ a i v) Q := by
    intro r
    induction r using Nat.strongRecOn with
    | ind r ih =>
    intro i hr hi
    have ha' : sk (flI σ a i v) a = (10, N) := ha
    refine ar_iload_n 6 rfl d_J7_fill_53178_5 rfl ?_
    refine ar_iload_n 7 rfl d_J7_fill_53178_6 rfl ?_
    refine ar_icmp_ge 20 10 rfl rfl d_J7_fill_53178_7 (by omega) (by omega) (fun g7 => ?_) (fun g7 => ?_)
    · refine WA.ret none ⟨d_J7_fill_53178_20, rfl, rfl⟩ ?_
      rw [show i = N by omega]
      exact hQ
    · refine ar_aload_n 11 rfl d_J7_fill_53178_10 rfl ?_
      refine ar_iload_n 12 rfl d_J7_fill_53178_11 rfl ?_
      refine ar_iload_n 13 rfl d_J7_fill_53178_12 rfl ?_
      refine ar_iasN i 14 rfl d_J7_fill_53178_13 (by assumption) (by omega) (by omega) ?_
      refine ar_inc_2 (y := ((i + 1 : Nat) : Int)) 17 rfl d_J7_fill_53178_14 rfl (by intro _ h; cases h) (by omega) ?_
      refine ar_goto 5 rfl d_J7_fill_53178_17 ?_
      refine ar_sig (flI_s σ a i v) ?_
      exact ih (N - (i + 1)) (by omega) (i + 1) rfl (by omega)
  refine ar_iconst 1 rfl d_J7_fill_53178_0 ?_
  refine ar_ist_2 2 rfl d_J7_fill_53178_1 rfl (by intro _ h; cases h) ?_
  refine ar_aload_n 3 rfl d_J7_fill_53178_2 rfl ?_
  refine ar_alen 4 rfl d_J7_fill_53178_3 (by assumption) (by omega) ?_
  refine ar_ist_3 5 rfl d_J7_fill_53178_4 rfl (by intro _ h; cases h) ?_
  have h9 := loop _ 0 rfl (by omega)
  rw [flI_0] at h9
  exact h9
theorem sp_J7_copyOf_59c91 {a N m k0 n0 : Nat} (ha : sk σ a = (10, N)) (hN : N ≤ 1000) (hm : m < N) (hk : k0 + 1 ≤ k) (hn : n0 + m ≤ n) (hdp : 1 ≤ d) (hlt : a < sn σ) (hQ : Q (some (Va (sn σ))) (cI (al σ 10 m) a 0 (sn σ) 0 m)) : WA G d k n mJ7_copyOf_59c91 0 [Va a, Vi (m : Int), Vu] [] σ Q := by
  have ha2 : sk (al σ 10 m) a = (10, N) := by
    show (if a = sn σ then _ else sk σ a) = _
    rw [if_neg (by omega)]
    exact ha
  have hb2 : sk (al σ 10 m) (sn σ) = (10, m) := by
    show (if sn σ = sn σ then _ else sk σ _) = _
    rw [if_pos rfl]
  refine ar_iload_n 1 rfl d_J7_copyOf_59c91_0 rfl ?_
  refine ar_aload_n 2 rfl d_J7_copyOf_59c91_1 rfl ?_
  refine ar_alen 3 rfl d_J7_copyOf_59c91_2 (by assumption) (by omega) ?_
  refine ar_icmp_ne 14 6 rfl rfl d_J7_copyOf_59c91_3 (by omega) (by omega) (fun g3 => ?_) (fun h => by omega)
  refine ar_iload_n 15 rfl d_J7_copyOf_59c91_14 rfl ?_
  refine ar_newI m k0 n0 17 rfl d_J7_copyOf_59c91_15 rfl (by omega) ac_I hk hn ?_
  refine ar_ast_2 18 rfl d_J7_copyOf_59c91_17 rfl (by intro _ h; cases h) ?_
  refine ar_aload_n 19 rfl d_J7_copyOf_59c91_18 rfl ?_
  refine ar_iconst 20 rfl d_J7_copyOf_59c91_19 ?_
  refine ar_aload_n 21 rfl d_J7_copyOf_59c91_20 rfl ?_
  refine ar_iconst 22 rfl d_J7_copyOf_59c91_21 ?_
  refine ar_aload_n 23 rfl d_J7_copyOf_59c91_22 rfl ?_
  refine ar_alen 24 rfl d_J7_copyOf_59c91_23 (by assumption) (by omega) ?_
  refine ar_iload_n 25 rfl d_J7_copyOf_59c91_24 rfl ?_
  refine ar_min 28 rfl d_J7_copyOf_59c91_25 mx_J7_304 (by omega) (by omega) (Nat.le_of_ble_eq_true rfl) (by omega) ?_
  refine ar_top (y := (m : Int)) (by rw [if_pos (by omega)]) ?_
  refine ar_copyI 31 rfl d_J7_copyOf_59c91_28 cp_J7_150 (by assumption) (by assumption) (by omega) (Nat.le_of_ble_eq_true rfl) (by omega) ?_
  refine ar_aload_n 32 rfl d_J7_copyOf_59c91_31 rfl ?_
  refine WA.ret (some (Vr _)) ⟨d_J7_copyOf_59c91_32, rfl, Or.inr ⟨_, rfl⟩⟩ ?_
  exact hQ
end BITM
-- ===== recipes =====
abbrev Code : Type := List (Int × Int)
def cParts (c : Code) : Int := ((c.filter (fun x => !(x.1 == 6))).length : Int)
def cSh : Code → Nat
  | [] => 0
  | x :: t => (if x.1 = 0 ∧ x.2 < 20 then 2 ^ x.2.toNat else 0) ||| cSh t
def cLo : Code → Nat
  | [] => 0
  | x :: t => (if x.1 = 0 ∧ 20 ≤ x.2 then 2 ^ (x.2 - 20).toNat else 0) ||| cLo t
/-- a recipe's object: its two rows behind it -/
def RRec (σ : Sg) (r : Nat) (c : Code) : Prop := (sk σ r).1 = 4 ∧ hR σ r 0 = some (r + 1) ∧ hR σ r 1 = some (r + 2) ∧ sk σ (r + 1) = (10, c.length) ∧ sk σ (r + 2) = (10, c.length) ∧ hI σ r 2 = (c.length : Int) ∧ hI σ r 3 = cParts c ∧ hI σ r 4 = ((cSh c : Nat) : Int) ∧ hI σ r 5 = ((cLo c : Nat) : Int) ∧ ∀ i x, c[i]? = some x → hI σ (r + 1) i = x.1 ∧ hI σ (r + 2) i = x.2
def RSr (σ : Sg) (s : Nat) (rc : Nat → Code) : Prop := ∀ l, l < 6 → (rc l = [] ∧ hR σ (s + 3) l = none) ∨ (rc l ≠ [] ∧ ∃ r, 652 ≤ r ∧ r + 3 ≤ sn σ ∧ hR σ (s + 3) l = some r ∧ RRec σ r (rc l))
/-- a state's numbers, by the reference's places -/
def RSf (σ : Sg) (s : Nat) (f : Nat → Int) : Prop := (∀ i, i < 12 → hI σ (s + 1) i = f (2 + i)) ∧ (∃ pm : Nat, pm < 4096 ∧ hI σ s 1 = (pm : Int) ∧ ∀ i, i < 12 → f (14 + i) = if pm.testBit i = true then 1 else 0) ∧ hI σ (s + 2) 0 = f 0 ∧ hI σ (s + 2) 1 = f 1 ∧ (∀ l, l < 6 → hI σ (s + 5) l = f (800 + l)) ∧ (∀ l, l < 6 → hI σ (s + 6) l = f (806 + l)) ∧ hI σ s 9 = f 812 ∧ hI σ s 10 = f 813 ∧ hI σ s 6 = f 815
abbrev SS : Type := (Nat → Int) × List Mem × (Nat → Code)
def RSt (σ : Sg) (s : Nat) (S : SS) : Prop := ShS σ s ∧ RSf σ s S.1 ∧ RSr σ s S.2.2 ∧ RSm σ s S.2.1
/-- what lies outside the cells of a state stays -/
def FrS (s : Nat) (σ σ' : Sg) : Prop := sk σ' = sk σ ∧ sn σ' = sn σ ∧ ∀ b, (b < s ∨ s + 58 ≤ b) → hI σ' b = hI σ b ∧ hR σ' b = hR σ b
theorem FrS.rf {s : Nat} {σ : Sg} : FrS s σ σ := ⟨rfl, rfl, fun _ _ => ⟨rfl, rfl⟩⟩
theorem FrS.tr {s : Nat} {σ σ1 σ2 : Sg} (h : FrS s σ σ1) (h2 : FrS s σ1 σ2) : FrS s σ σ2 := ⟨h2.1.trans h.1, h2.2.1.trans h.2.1, fun b hb => ⟨(h2.2.2 b hb).1.trans (h.2.2 b hb).1, (h2.2.2 b hb).2.trans (h.2.2 b hb).2⟩⟩
theorem FrS.m {s : Nat} {σ σ' : Sg} (h : FrM s σ σ') : FrS s σ σ' := ⟨h.1, h.2.1, fun b hb => ⟨h.2.2.2.1 b (by omega), h.2.2.1 b (by omega)⟩⟩
theorem FrS.i {s lo hi : Nat} {σ σ' : Sg} (h : FrI lo hi σ σ') (h1 : s ≤ lo) (h2 : hi ≤ s + 58) : FrS s σ σ' := by
  obtain ⟨e, f⟩ := h
  refine ⟨?_, ?_, fun b hb => ⟨f b (by omega), ?_⟩⟩
  · show σ'.2.2.1 = _
    rw [e]
  · show σ'.2.2.2 = _
    rw [e]
  · show σ'.2.1 b = _
    rw [e]
theorem FrS.wR {s : Nat} {σ : Sg} {a j : Nat} {r : Option Nat} (h : s ≤ a ∧ a < s + 58) : FrS s σ (wR σ a j r) := ⟨rfl, rfl, fun b hb => ⟨rfl, by
  funext i
  rw [hR_w, if_neg (by omega)]⟩⟩
theorem hR_c (σ : Sg) (a sp b dp n c i : Nat) : hR (cR σ a sp b dp n) c i = if c = b ∧ dp ≤ i ∧ i < dp + n then hR σ a (sp + (i - dp)) else hR σ c i := rfl
theorem FrS.cR {s : Nat} {σ : Sg} {a sp b dp n : Nat} (h : s ≤ b ∧ b < s + 58) : FrS s σ (cR σ a sp b dp n) := ⟨rfl, rfl, fun c hc => ⟨rfl, by
  funext i
  rw [hR_c, if_neg (by omega)]⟩⟩
theorem RRec.fr {σ σ' : Sg} {r : Nat} {c : Code} (h : RRec σ r c) (h1 : ∀ b, (r ≤ b ∧ b < r + 3) → sk σ' b = sk σ b ∧ hI σ' b = hI σ b ∧ hR σ' b = hR σ b) : RRec σ' r c := by
  have e0 := h1 r (by omega)
  have e1 := h1 (r + 1) (by omega)
  have e2 := h1 (r + 2) (by omega)
  unfold RRec at h ⊢
  rw [e0.1, e0.2.1, e0.2.2, e1.1, e1.2.1, e2.1, e2.2.1]
  exact h
theorem RSr.fr {σ σ' : Sg} {s s' : Nat} {rc : Nat → Code} (h : RSr σ s rc) (h1 : ∀ b, 652 ≤ b → b < sn σ → sk σ' b = sk σ b ∧ hI σ' b = hI σ b ∧ hR σ' b = hR σ b) (h2 : ∀ l, l < 6 → hR σ' (s' + 3) l = hR σ (s + 3) l) (hn : sn σ ≤ sn σ') : RSr σ' s' rc := by
  intro l hl
  rw [h2 l hl]
  rcases h l hl with e | ⟨e, r, h3, h4, h5, h6⟩
  · exact Or.inl e
  · exact Or.inr ⟨e, r, h3, by omega, h5, h6.fr (fun b hb => h1 b (by omega) (by omega))⟩
theorem RSf.fr {σ σ' : Sg} {s : Nat} {f : Nat → Int} (h : RSf σ s f) (h1 : ∀ j, j ≠ 5 → hI σ' s j = hI σ s j) (h2 : ∀ b, (s < b ∧ b < s + 7) → hI σ' b = hI σ b) : RSf σ' s f := by
  unfold RSf at h ⊢
  rw [h1 1 (by omega), h1 9 (by omega), h1 10 (by omega), h1 6 (by omega), h2 (s + 1) (by omega), h2 (s + 2) (by omega), h2 (s + 5) (by omega), h2 (s + 6) (by omega)]
  exact h
theorem ShS.fr {σ σ' : Sg} {s : Nat} (h : ShS σ s) (e1 : sk σ' = sk σ) (e2 : ∀ b, (s = b ∨ s + 7 ≤ b) → b < s + 58 → hR σ' b = hR σ b) : ShS σ' s := by
  obtain ⟨h1, h2, h3, h4, h5, h6, h7, h8, h9, h10, h11, h12, h13, h14⟩ := h
  have e := e2 s (by omega) (by omega)
  refine ⟨?_, ?_, ?_, ?_, ?_, ?_, ?_, ?_, ?_, ?_, ?_, ?_, ?_, fun p hp => ?_⟩
  iterate 7 (rw [e1]; assumption)
  iterate 6 (rw [e]; assumption)
  have := h14 p hp
  unfold ShM at this ⊢
  rw [e1, e2 _ (by omega) (by omega)]
  exact this
/-- a state that the change doesn't touch -/
theorem RSt.fr {σ σ' : Sg} {s : Nat} {S : SS} (h : RSt σ s S) (h1 : ∀ b, ((s ≤ b ∧ b < s + 58) ∨ 652 ≤ b) → b < sn σ → sk σ' b = sk σ b ∧ hI σ' b = hI σ b ∧ hR σ' b = hR σ b) (hs : s + 58 ≤ sn σ) (hn : sn σ ≤ sn σ') : RSt σ' s S := by
  obtain ⟨a, b, c, e⟩ := h
  have g : ∀ b, (s ≤ b ∧ b < s + 58) → sk σ' b = sk σ b ∧ hI σ' b = hI σ b ∧ hR σ' b = hR σ b := fun b hb => h1 b (Or.inl hb) (by omega)
  refine ⟨?_, b.fr (fun j _ => by rw [(g s (by omega)).2.1]) (fun b hb => (g b (by omega)).2.1), c.fr (fun b hb hb2 => h1 b (Or.inr hb) hb2) (fun l _ => by rw [(g (s + 3) (by omega)).2.2]) hn, e.frm0 (fun b hb => (g b hb).2.1) (g (s + 4) (by omega)).2.2⟩
  obtain ⟨h1, h2, h3, h4, h5, h6, h7, h8, h9, h10, h11, h12, h13, h14⟩ := a
  have e := (g s (by omega)).2.2
  refine ⟨?_, ?_, ?_, ?_, ?_, ?_, ?_, ?_, ?_, ?_, ?_, ?_, ?_, fun p hp => ?_⟩
  iterate 7 (rw [(g _ (by omega)).1]; assumption)
  iterate 6 (rw [e]; assumption)
  have := h14 p hp
  unfold ShM at this ⊢
  rw [(g _ (by omega)).1, (g _ (by omega)).1, (g _ (by omega)).1, (g _ (by omega)).2.2]
  exact this
end
section
-- allocation at a known address
def aA (σ : Sg) (a kd n : Nat) : Sg := (fun b i => if b = a then 0 else σ.1 b i, fun b i => if b = a then none else σ.2.1 b i, fun b => if b = a then (kd, n) else σ.2.2.1 b, a + 1)
theorem aA_e {σ : Sg} {a kd n : Nat} (h : sn σ = a) : al σ kd n = aA σ a kd n := by
  subst h
  rfl
theorem sk_aA (σ : Sg) (a kd n b : Nat) : sk (aA σ a kd n) b = if b = a then (kd, n) else sk σ b := rfl
theorem hI_aA (σ : Sg) (a kd n b i : Nat) : hI (aA σ a kd n) b i = if b = a then 0 else hI σ b i := rfl
theorem hR_aA (σ : Sg) (a kd n b i : Nat) : hR (aA σ a kd n) b i = if b = a then none else hR σ b i := rfl
theorem sn_aA (σ : Sg) (a kd n : Nat) : sn (aA σ a kd n) = a + 1 := rfl
theorem sk_wI (σ : Sg) (a j : Nat) (x : Int) (b : Nat) : sk (wI σ a j x) b = sk σ b := rfl
theorem sk_wR (σ : Sg) (a j : Nat) (x : Option Nat) (b : Nat) : sk (wR σ a j x) b = sk σ b := rfl
theorem sn_wI (σ : Sg) (a j : Nat) (x : Int) : sn (wI σ a j x) = sn σ := rfl
theorem sn_wR (σ : Sg) (a j : Nat) (x : Option Nat) : sn (wR σ a j x) = sn σ := rfl
theorem hIwR (σ : Sg) (a j : Nat) (r : Option Nat) (b i : Nat) : hI (wR σ a j r) b i = hI σ b i := rfl
theorem hRwI (σ : Sg) (a j : Nat) (x : Int) (b i : Nat) : hR (wI σ a j x) b i = hR σ b i := rfl
section ALL
variable {G : GT} {d k n : Nat} {M : MM} {pc : Nat} {ls st : List AV} {σ : Sg} {Q : Option AV → Sg → Prop}
theorem ar_newA {idx : Nat} (ci a k' n' : Nat) (ha : sn σ = a) (q : Nat) (hq : pc + 3 = q) (hd : decode (bc M) pc = .ok (.new idx, 3)) (hc : ci < 7) (hcl : Cond.classLink M.1.cls idx (cT ci).1 ∈ gT) (hin : Cond.instantiable (cT ci).1 (cT ci).2.2 ∈ gT) (hini : Cond.initialized (cT ci).1 ∈ gT) (hk : k' + 1 ≤ k) (hn : n' + (cT ci).2.2 ≤ n)
    (kk : WA G d k' n' M q ls (Va a :: st) (aA σ a (ci + 1) 0) Q) : WA G d k n M pc ls st σ Q := by
  refine ar_new ci k' n' q hq hd hc hcl hin hini hk hn ?_
  rw [aA_e ha, ha]
  exact kk
theorem ar_newIA {x : Int} (N a k' n' : Nat) (ha : sn σ = a) (q : Nat) (hq : pc + 2 = q) (hd : decode (bc M) pc = .ok (.newarray .int, 2)) (hx : x = N) (hN : N ≤ 536870912 / 4) (hk : k' + 1 ≤ k) (hn : n' + N ≤ n)
    (kk : WA G d k' n' M q ls (Va a :: st) (aA σ a 10 N) Q) : WA G d k n M pc ls (Vi x :: st) σ Q := by
  refine ar_newI N k' n' q hq hd hx hN ac_I hk hn ?_
  rw [aA_e ha, ha]
  exact kk
theorem ar_newZA {x : Int} (N a k' n' : Nat) (ha : sn σ = a) (q : Nat) (hq : pc + 2 = q) (hd : decode (bc M) pc = .ok (.newarray .boolean, 2)) (hx : x = N) (hN : N ≤ 536870912 / 4) (hk : k' + 1 ≤ k) (hn : n' + N ≤ n)
    (kk : WA G d k' n' M q ls (Va a :: st) (aA σ a 11 N) Q) : WA G d k n M pc ls (Vi x :: st) σ Q := by
  refine ar_newZ N k' n' q hq hd hx hN ac_Z hk hn ?_
  rw [aA_e ha, ha]
  exact kk
theorem ar_anewA {idx : Nat} {x : Int} (kd N a k' n' : Nat) (ha : sn σ = a) (q : Nat) (hq : pc + 3 = q) (hd : decode (bc M) pc = .ok (.anewarray idx, 3)) (hkd : 12 ≤ kd ∧ kd ≤ 14) (hcl : Cond.classLink M.1.cls idx (cT (kO kd)).1 ∈ gT) (hx : x = N) (hN : N ≤ 536870912 / 4) (hk : k' + 1 ≤ k) (hn : n' + N ≤ n)
    (kk : WA G d k' n' M q ls (Va a :: st) (aA σ a kd N) Q) : WA G d k n M pc ls (Vi x :: st) σ Q := by
  refine ar_anew kd N k' n' q hq hd hkd hcl hx hN hk hn ?_
  rw [aA_e ha, ha]
  exact kk
end ALL
/-- cells below lo stay -/
def FrN (lo : Nat) (σ σ' : Sg) : Prop := ∀ b, b < lo → sk σ' b = sk σ b ∧ hI σ' b = hI σ b ∧ hR σ' b = hR σ b
theorem FrN.rf {lo : Nat} {σ : Sg} : FrN lo σ σ := fun _ _ => ⟨rfl, rfl, rfl⟩
theorem FrN.tr {lo : Nat} {σ σ1 σ2 : Sg} (h : FrN lo σ σ1) (h2 : FrN lo σ1 σ2) : FrN lo σ σ2 := fun b hb => ⟨(h2 b hb).1.trans (h b hb).1, (h2 b hb).2.1.trans (h b hb).2.1, (h2 b hb).2.2.trans (h b hb).2.2⟩
theorem FrN.sub {lo lo' : Nat} {σ σ' : Sg} (h : FrN lo σ σ') (hl : lo' ≤ lo) : FrN lo' σ σ' := fun b hb => h b (by omega)
theorem FrN.a {lo a kd n : Nat} {σ : Sg} (h : lo ≤ a) : FrN lo σ (aA σ a kd n) := fun b hb => ⟨if_neg (by omega), funext fun i => if_neg (by omega), funext fun i => if_neg (by omega)⟩
theorem FrN.wI {lo a j : Nat} {x : Int} {σ : Sg} (h : lo ≤ a) : FrN lo σ (wI σ a j x) := fun b hb => ⟨rfl, funext fun i => by rw [hI_w, if_neg (by omega)], rfl⟩
theorem FrN.wR {lo a j : Nat} {x : Option Nat} {σ : Sg} (h : lo ≤ a) : FrN lo σ (wR σ a j x) := fun b hb => ⟨rfl, rfl, funext fun i => by rw [hR_w, if_neg (by omega)]⟩
theorem ShM.frn {σ σ' : Sg} {m lo : Nat} (h : ShM σ m) (hf : FrN lo σ σ') (hm : m + 3 ≤ lo) : ShM σ' m := by
  unfold ShM at h ⊢
  rw [(hf m (by omega)).1, (hf (m + 1) (by omega)).1, (hf (m + 2) (by omega)).1, (hf m (by omega)).2.2]
  exact h
section INI
variable {G : GT} {d k n : Nat} {σ : Sg} {Q : Option AV → Sg → Prop}
theorem sp_X1_init {m : Nat} (hk : (sk σ m).1 = 2) (hn : sn σ = m + 1) (hk2 : 2 ≤ k) (hn2 : 36 ≤ n) (hdp : 1 ≤ d) (hQ : ∀ σ', ShM σ' m → sn σ' = m + 3 → FrN m σ σ' → Q none σ') : WA G d k n mX1_init 0 [Va m] [] σ Q := by
  refine ar_aload_n 1 rfl d_X1_init_0 rfl ?_
  refine ar_oinit 4 rfl d_X1_init_1 ml_X1_3 oi_i oi_c (Nat.le_of_ble_eq_true rfl) (by omega) ?_
  refine ar_aload_n 5 rfl d_X1_init_4 rfl ?_
  refine ar_bipush 7 rfl d_X1_init_5 rfl ?_
  refine ar_newIA 18 (m + 1) (k - 1) (n - 18) (by simp [sk_aA, hI_aA, hR_aA, sn_aA, sk_wI, sk_wR, sn_wI, sn_wR, hIwR, hRwI, hI_w, hR_w, hn]) 9 rfl d_X1_init_7 rfl (by omega) (by omega) (by omega) ?_
  refine ar_putRF 12 rfl d_X1_init_9 fl_X1_9 (Or.inr ⟨_, rfl⟩) rfl rfl rfl (by simp [sk_aA, hI_aA, hR_aA, sn_aA, sk_wI, sk_wR, sn_wI, sn_wR, hIwR, hRwI, hI_w, hR_w, hk]) ?_
  refine ar_aload_n 13 rfl d_X1_init_12 rfl ?_
  refine ar_bipush 15 rfl d_X1_init_13 rfl ?_
  refine ar_newIA 18 (m + 2) (k - 2) (n - 36) (by simp [sk_aA, hI_aA, hR_aA, sn_aA, sk_wI, sk_wR, sn_wI, sn_wR, hIwR, hRwI, hI_w, hR_w, hn]) 17 rfl d_X1_init_15 rfl (by omega) (by omega) (by omega) ?_
  refine ar_putRF 20 rfl d_X1_init_17 fl_X1_15 (Or.inr ⟨_, rfl⟩) rfl rfl rfl (by simp [sk_aA, hI_aA, hR_aA, sn_aA, sk_wI, sk_wR, sn_wI, sn_wR, hIwR, hRwI, hI_w, hR_w, hk]) ?_
  refine WA.ret none ⟨d_X1_init_20, rfl, rfl⟩ ?_
  refine hQ _ ?_ rfl ?_
  · unfold ShM
    simp [sk_aA, hI_aA, hR_aA, sn_aA, sk_wI, sk_wR, sn_wI, sn_wR, hIwR, hRwI, hI_w, hR_w, hk]
  · exact (((FrN.a (by omega)).tr (FrN.wR (by omega))).tr (FrN.a (by omega))).tr (FrN.wR (by omega))
def f00 : Nat → Int := fun i => if i = 0 then 8 else if i = 1 then 1 else 0
def S00 : SS := (f00, [], fun _ => [])
set_option maxHeartbeats 8000000 in
theorem sp_X4_init {s : Nat} (hk : (sk σ s).1 = 5) (hn : sn σ = s + 1) (hz : ∀ j, hI σ s j = 0) (hk2 : 57 ≤ k) (hn2 : 797 ≤ n) (hdp : 2 ≤ d) (hQ : ∀ σ', RSt σ' s S00 → sn σ' = s + 58 → FrN s σ σ' → Q none σ') : WA G d k n mX4_init 0 [Va s, Vu] [] σ Q := by
  have loop : ∀ r i : Nat, ∀ (σi : Sg) (k' n' : Nat), 17 - i = r → i ≤ 17 → sn σi = s + 7 + 3 * i → FrN s σ σi → 3 * (17 - i) ≤ k' → 44 * (17 - i) ≤ n' →
      ((sk σi s).1 = 5 ∧ sk σi (s + 1) = (10, 12) ∧ sk σi (s + 2) = (10, 2) ∧ sk σi (s + 3) = (14, 6) ∧ sk σi (s + 4) = (12, 17) ∧ sk σi (s + 5) = (10, 6) ∧ sk σi (s + 6) = (10, 6)) →
      (hR σi s 0 = some (s + 1) ∧ hR σi s 2 = some (s + 2) ∧ hR σi s 3 = some (s + 3) ∧ hR σi s 4 = some (s + 4) ∧ hR σi s 7 = some (s + 5) ∧ hR σi s 8 = some (s + 6)) →
      ((∀ j, hI σi s j = 0) ∧ (∀ j, hI σi (s + 1) j = 0) ∧ hI σi (s + 2) 0 = 8 ∧ hI σi (s + 2) 1 = 1 ∧ (∀ j, hI σi (s + 5) j = 0) ∧ (∀ j, hI σi (s + 6) j = 0) ∧ ∀ j, hR σi (s + 3) j = none) →
      (∀ p, p < i → ShM σi (s + 7 + 3 * p) ∧ hR σi (s + 4) p = some (s + 7 + 3 * p)) → WA G d k' n' mX4_init 64 [Va s, Vi (i : Int)] [] σi Q := by
    intro r
    induction r using Nat.strongRecOn with
    | ind r ih =>
    intro i σi k' n' hr hi hn hf hk' hn' hsk hhr hhi hmm
    have hk := hsk.1
    have hk4 := hsk.2.2.2.2.1
    have hr4 := hhr.2.2.2.1
    refine ar_iload_n 65 rfl d_X4_init_64 rfl ?_
    refine ar_aload_n 66 rfl d_X4_init_65 rfl ?_
    refine ar_getA 69 rfl d_X4_init_66 fl_X4_26 rfl (by assumption) (by assumption) ?_
    refine ar_alen 70 rfl d_X4_init_69 (by assumption) (by omega) ?_
    refine ar_icmp_ge 92 73 rfl rfl d_X4_init_70 (by omega) (by omega) (fun g70 => ?_) (fun g70 => ?_)
    · refine WA.ret none ⟨d_X4_init_92, rfl, rfl⟩ ?_
      have hi17 : i = 17 := by omega
      subst hi17
      obtain ⟨z1, z2, z3, z4, z5, z6, z7⟩ := hhi
      obtain ⟨q1, q2, q3, q4, q5, q6, q7⟩ := hsk
      obtain ⟨w1, w2, w3, w4, w5, w6⟩ := hhr
      refine hQ σi ⟨⟨q1, q2, q3, q4, q5, q6, q7, w1, w2, w3, w4, w5, w6, fun p hp => (hmm p hp).1⟩, ⟨fun j hj => ?_, ⟨0, by omega, z1 1, fun j hj => ?_⟩, z3, z4, fun l hl => ?_, fun l hl => ?_, z1 9, z1 10, z1 6⟩, fun l hl => Or.inl ⟨rfl, z7 l⟩, ⟨by simp [S00], z1 5, fun j hj => ⟨j, hj, (hmm j hj).2⟩, fun j1 j2 h1 h2 e => ?_, fun j M m h1 _ => by simp [S00] at h1⟩⟩ hn hf
      · rw [z2]
        show (0 : Int) = f00 (2 + j)
        unfold f00
        rw [if_neg (by omega), if_neg (by omega)]
      · show f00 (14 + j) = _
        unfold f00
        rw [if_neg (by omega), if_neg (by omega)]
        simp
      · rw [z5]
        show (0 : Int) = f00 (800 + l)
        unfold f00
        rw [if_neg (by omega), if_neg (by omega)]
      · rw [z6]
        show (0 : Int) = f00 (806 + l)
        unfold f00
        rw [if_neg (by omega), if_neg (by omega)]
      · rw [(hmm j1 h1).2, (hmm j2 h2).2] at e
        have := Option.some.inj e
        omega
    · refine ar_aload_n 74 rfl d_X4_init_73 rfl ?_
      refine ar_getA 77 rfl d_X4_init_74 fl_X4_26 rfl (by assumption) (by assumption) ?_
      refine ar_iload_n 78 rfl d_X4_init_77 rfl ?_
      refine ar_newA 1 (s + 7 + 3 * i) (k' - 1) (n' - 8) hn 81 rfl d_X4_init_78 (by decide) kl_X4_24 in_1 ii_1 (by omega) (by show n' - 8 + 8 ≤ n'; omega) ?_
      refine ar_dup 82 rfl d_X4_init_81 (fun _ => rfl) ?_
      refine ar_callIN (M' := mX1_init) (As := []) (ls' := [Va _]) 2 36 (3 * (17 - (i + 1))) (44 * (17 - (i + 1))) 85 rfl d_X4_init_82 ml_X4_36 mt_X1_init rfl (Nat.le_of_ble_eq_true rfl) rfl (Nat.le_of_ble_eq_true rfl) (by omega) (by omega) (by omega) ?_
      refine sp_X1_init (by rw [sk_aA, if_pos rfl]) (sn_aA _ _ _ _) (by omega) (by omega) (by omega) (fun σ1 hm1 hn1 hf1 => ?_)
      have hk4' : sk σ1 (s + 4) = (12, 17) := by rw [(hf1 (s + 4) (by omega)).1, sk_aA, if_neg (by omega)]; exact hk4
      have hg : ∀ b, b < s + 7 + 3 * i → sk σ1 b = sk σi b ∧ hI σ1 b = hI σi b ∧ hR σ1 b = hR σi b := ((FrN.a (Nat.le_refl _)).tr hf1)
      refine ar_aasN (kd := 12) i 86 rfl d_X4_init_85 (by assumption) (by omega) (by omega) (by omega) hm1.1 ?_
      refine ar_inc_1 (y := ((i + 1 : Nat) : Int)) 89 rfl d_X4_init_86 rfl (by intro _ h; cases h) (by omega) ?_
      refine ar_goto 64 rfl d_X4_init_89 ?_
      refine ih (17 - (i + 1)) (by omega) (i + 1) _ _ _ rfl (by omega) (by rw [sn_wR, hn1]; omega) ((hf.tr (FrN.sub hg (by omega))).tr (FrN.wR (by omega))) (Nat.le_refl _) (Nat.le_refl _) ?_ ?_ ?_ ?_
      · simp only [sk_wR]
        rw [(hg s (by omega)).1, (hg (s + 1) (by omega)).1, (hg (s + 2) (by omega)).1, (hg (s + 3) (by omega)).1, (hg (s + 4) (by omega)).1, (hg (s + 5) (by omega)).1, (hg (s + 6) (by omega)).1]
        exact hsk
      · have e : ∀ j, hR (wR σ1 (s + 4) i (some (s + 7 + 3 * i))) s j = hR σi s j := fun j => by rw [hR_w, if_neg (by omega), (hg s (by omega)).2.2]
        rw [e, e, e, e, e, e]
        exact hhr
      · simp only [hIwR]
        have e : ∀ j, hR (wR σ1 (s + 4) i (some (s + 7 + 3 * i))) (s + 3) j = hR σi (s + 3) j := fun j => by rw [hR_w, if_neg (by omega), (hg (s + 3) (by omega)).2.2]
        simp only [e]
        rw [(hg s (by omega)).2.1, (hg (s + 1) (by omega)).2.1, (hg (s + 2) (by omega)).2.1, (hg (s + 5) (by omega)).2.1, (hg (s + 6) (by omega)).2.1]
        exact hhi
      · intro p hp
        by_cases e : p = i
        · subst e
          refine ⟨?_, by rw [hR_w, if_pos ⟨rfl, rfl⟩]⟩
          have := hm1
          unfold ShM at this ⊢
          simp only [sk_wR]
          rw [hR_w, if_neg (by omega), hR_w, if_neg (by omega)]
          exact this
        · have hpi := hmm p (by omega)
          refine ⟨?_, ?_⟩
          · have h3 := hpi.1.frn hg (by omega)
            unfold ShM at h3 ⊢
            simp only [sk_wR]
            rw [hR_w, if_neg (by omega), hR_w, if_neg (by omega)]
            exact h3
          · rw [hR_w, if_neg (by omega), (hg (s + 4) (by omega)).2.2]
            exact hpi.2
  refine ar_aload_n 1 rfl d_X4_init_0 rfl ?_
  refine ar_oinit 4 rfl d_X4_init_1 ml_X4_3 oi_i oi_c (Nat.le_of_ble_eq_true rfl) (by omega) ?_
  refine ar_aload_n 5 rfl d_X4_init_4 rfl ?_
  refine ar_bipush 7 rfl d_X4_init_5 rfl ?_
  refine ar_newIA 12 (s + 1) (k - 1) (n - 12) (by simp [sk_aA, hI_aA, hR_aA, sn_aA, sk_wI, sk_wR, sn_wI, sn_wR, hIwR, hRwI, hI_w, hR_w, hn]) 9 rfl d_X4_init_7 rfl (by omega) (by omega) (by omega) ?_
  refine ar_putRF 12 rfl d_X4_init_9 fl_X4_9 (Or.inr ⟨_, rfl⟩) rfl rfl rfl (by simp [sk_aA, hI_aA, hR_aA, sn_aA, sk_wI, sk_wR, sn_wI, sn_wR, hIwR, hRwI, hI_w, hR_w, hk]) ?_
  refine ar_aload_n 13 rfl d_X4_init_12 rfl ?_
  refine ar_iconst 14 rfl d_X4_init_13 ?_
  refine ar_newIA 2 (s + 2) (k - 2) (n - 14) (by simp [sk_aA, hI_aA, hR_aA, sn_aA, sk_wI, sk_wR, sn_wI, sn_wR, hIwR, hRwI, hI_w, hR_w, hn]) 16 rfl d_X4_init_14 rfl (by omega) (by omega) (by omega) ?_
  refine ar_dup 17 rfl d_X4_init_16 (fun _ => rfl) ?_
  refine ar_iconst 18 rfl d_X4_init_17 ?_
  refine ar_bipush 20 rfl d_X4_init_18 rfl ?_
  refine ar_iasN 0 21 rfl d_X4_init_20 (by simp [sk_aA, hI_aA, hR_aA, sn_aA, sk_wI, sk_wR, sn_wI, sn_wR, hIwR, hRwI, hI_w, hR_w] : _ = (10, 2)) (by omega) (by omega) ?_
  refine ar_dup 22 rfl d_X4_init_21 (fun _ => rfl) ?_
  refine ar_iconst 23 rfl d_X4_init_22 ?_
  refine ar_iconst 24 rfl d_X4_init_23 ?_
  refine ar_iasN 1 25 rfl d_X4_init_24 (by simp [sk_aA, hI_aA, hR_aA, sn_aA, sk_wI, sk_wR, sn_wI, sn_wR, hIwR, hRwI, hI_w, hR_w] : _ = (10, 2)) (by omega) (by omega) ?_
  refine ar_putRF 28 rfl d_X4_init_25 fl_X4_15 (Or.inr ⟨_, rfl⟩) rfl rfl rfl (by simp [sk_aA, hI_aA, hR_aA, sn_aA, sk_wI, sk_wR, sn_wI, sn_wR, hIwR, hRwI, hI_w, hR_w, hk]) ?_
  refine ar_aload_n 29 rfl d_X4_init_28 rfl ?_
  refine ar_bipush 31 rfl d_X4_init_29 rfl ?_
  refine ar_anewA 14 6 (s + 3) (k - 3) (n - 20) (by simp [sk_aA, hI_aA, hR_aA, sn_aA, sk_wI, sk_wR, sn_wI, sn_wR, hIwR, hRwI, hI_w, hR_w, hn]) 34 rfl d_X4_init_31 (by omega) kl_X4_18 rfl (by omega) (by omega) (by omega) ?_
  refine ar_putRF 37 rfl d_X4_init_34 fl_X4_20 (Or.inr ⟨_, rfl⟩) rfl rfl rfl (by simp [sk_aA, hI_aA, hR_aA, sn_aA, sk_wI, sk_wR, sn_wI, sn_wR, hIwR, hRwI, hI_w, hR_w, hk]) ?_
  refine ar_aload_n 38 rfl d_X4_init_37 rfl ?_
  refine ar_bipush 40 rfl d_X4_init_38 rfl ?_
  refine ar_anewA 12 17 (s + 4) (k - 4) (n - 37) (by simp [sk_aA, hI_aA, hR_aA, sn_aA, sk_wI, sk_wR, sn_wI, sn_wR, hIwR, hRwI, hI_w, hR_w, hn]) 43 rfl d_X4_init_40 (by omega) kl_X4_24 rfl (by omega) (by omega) (by omega) ?_
  refine ar_putRF 46 rfl d_X4_init_43 fl_X4_26 (Or.inr ⟨_, rfl⟩) rfl rfl rfl (by simp [sk_aA, hI_aA, hR_aA, sn_aA, sk_wI, sk_wR, sn_wI, sn_wR, hIwR, hRwI, hI_w, hR_w, hk]) ?_
  refine ar_aload_n 47 rfl d_X4_init_46 rfl ?_
  refine ar_bipush 49 rfl d_X4_init_47 rfl ?_
  refine ar_newIA 6 (s + 5) (k - 5) (n - 43) (by simp [sk_aA, hI_aA, hR_aA, sn_aA, sk_wI, sk_wR, sn_wI, sn_wR, hIwR, hRwI, hI_w, hR_w, hn]) 51 rfl d_X4_init_49 rfl (by omega) (by omega) (by omega) ?_
  refine ar_putRF 54 rfl d_X4_init_51 fl_X4_30 (Or.inr ⟨_, rfl⟩) rfl rfl rfl (by simp [sk_aA, hI_aA, hR_aA, sn_aA, sk_wI, sk_wR, sn_wI, sn_wR, hIwR, hRwI, hI_w, hR_w, hk]) ?_
  refine ar_aload_n 55 rfl d_X4_init_54 rfl ?_
  refine ar_bipush 57 rfl d_X4_init_55 rfl ?_
  refine ar_newIA 6 (s + 6) (k - 6) (n - 49) (by simp [sk_aA, hI_aA, hR_aA, sn_aA, sk_wI, sk_wR, sn_wI, sn_wR, hIwR, hRwI, hI_w, hR_w, hn]) 59 rfl d_X4_init_57 rfl (by omega) (by omega) (by omega) ?_
  refine ar_putRF 62 rfl d_X4_init_59 fl_X4_33 (Or.inr ⟨_, rfl⟩) rfl rfl rfl (by simp [sk_aA, hI_aA, hR_aA, sn_aA, sk_wI, sk_wR, sn_wI, sn_wR, hIwR, hRwI, hI_w, hR_w, hk]) ?_
  refine ar_iconst 63 rfl d_X4_init_62 ?_
  refine ar_ist_1 64 rfl d_X4_init_63 rfl (by intro _ h; cases h) ?_
  refine loop 17 0 _ _ _ rfl (by omega) rfl ?_ (by omega) (by omega) ?_ ?_ ?_ (fun p hp => absurd hp (by omega))
  · exact (((((((((((((FrN.a (by omega)).tr (FrN.wR (by omega))).tr (FrN.a (by omega))).tr (FrN.wI (by omega))).tr (FrN.wI (by omega))).tr (FrN.wR (by omega))).tr (FrN.a (by omega))).tr (FrN.wR (by omega))).tr (FrN.a (by omega))).tr (FrN.wR (by omega))).tr (FrN.a (by omega))).tr (FrN.wR (by omega))).tr (FrN.a (by omega))).tr (FrN.wR (by omega))
  · simp [sk_aA, hI_aA, hR_aA, sn_aA, sk_wI, sk_wR, sn_wI, sn_wR, hIwR, hRwI, hI_w, hR_w, hk]
  · simp [sk_aA, hI_aA, hR_aA, sn_aA, sk_wI, sk_wR, sn_wI, sn_wR, hIwR, hRwI, hI_w, hR_w]
  · simp [sk_aA, hI_aA, hR_aA, sn_aA, sk_wI, sk_wR, sn_wI, sn_wR, hIwR, hRwI, hI_w, hR_w, hz]
end INI
end
section
theorem vr_outer (c : ClassId) (N h0 : Nat) : ∀ i : Nat, Jvm.Free.Multi.outerC c N h0 i = arrV c N (fun j => va_rf (if j < i then some (h0 + 1 + j) else none))
  | 0 => by
    show ({ cls := c, slots := Array.replicate N .null, vm := .none } : Cell) = _
    rw [arrV_new]
    refine congrArg (arrV c N) (funext fun j => ?_)
    simp [va_rf]
  | i + 1 => by
    show (Jvm.Free.Multi.outerC c N h0 i).setSlot i (.ref (h0 + 1 + i)) = _
    rw [vr_outer c N h0 i, arrV_store]
    refine congrArg (arrV c N) (funext fun j => ?_)
    by_cases e : j = i
    · subst e
      simp [updV, va_rf]
    · by_cases h : j < i
      · simp [updV, e, h, Nat.lt_succ_of_lt h]
      · simp [updV, e, h, show ¬ j < i + 1 by omega]
def aM (σ : Sg) (a N K : Nat) : Sg := (fun b i => if a ≤ b then 0 else σ.1 b i, fun b i => if b = a then (if i < N then some (a + 1 + i) else none) else if a ≤ b then none else σ.2.1 b i, fun b => if b = a then (15, N) else if a ≤ b ∧ b < a + 1 + N then (10, K) else if a ≤ b then (0, 0) else σ.2.2.1 b, a + 1 + N)
theorem sk_a2 (σ : Sg) (a N K b : Nat) : sk (aM σ a N K) b = if b = a then (15, N) else if a ≤ b ∧ b < a + 1 + N then (10, K) else if a ≤ b then (0, 0) else sk σ b := rfl
theorem hI_a2 (σ : Sg) (a N K b i : Nat) : hI (aM σ a N K) b i = if a ≤ b then 0 else hI σ b i := rfl
theorem hR_a2 (σ : Sg) (a N K b i : Nat) : hR (aM σ a N K) b i = if b = a then (if i < N then some (a + 1 + i) else none) else if a ≤ b then none else hR σ b i := rfl
theorem sn_a2 (σ : Sg) (a N K : Nat) : sn (aM σ a N K) = a + 1 + N := rfl
theorem FrN.m {lo a N K : Nat} {σ : Sg} (h : lo ≤ a) : FrN lo σ (aM σ a N K) := fun b hb => ⟨by rw [sk_a2, if_neg (by omega), if_neg (by omega), if_neg (by omega)], funext fun i => by rw [hI_a2, if_neg (by omega)], funext fun i => by rw [hR_a2, if_neg (by omega), if_neg (by omega)]⟩
section MNA
variable {G : GT} {d k n : Nat} {M : MM} {pc : Nat} {ls st : List AV} {σ : Sg} {Q : Option AV → Sg → Prop}
set_option maxHeartbeats 4000000 in
theorem ar_mna {idx : Nat} {x y : Int} (N K a k' n' : Nat) (ha : sn σ = a) (q : Nat) (hq : pc + 4 = q) (hd : decode (bc M) pc = .ok (.multianewarray idx 2, 4)) (hcl : Cond.classLink M.1.cls idx "[[I" ∈ gT) (hx : x = N) (hy : y = K) (hN : N ≤ 1000) (hK : K ≤ 1000) (hk : k' + (1 + N) ≤ k) (hn : n' + (N + N * K) ≤ n)
    (kk : WA G d k' n' M q ls (Va a :: st) (aM σ a N K) Q) : WA G d k n M pc ls (Vi y :: Vi x :: st) σ Q := by
  subst hq
  subst hx
  subst hy
  subst ha
  intro p l e R s m args below meth c QM mc ms C hfr hlo hmc hms hret H locs cells slots lsC hR0 hL h1 h2
  have hcn : (Int32.ofInt (N : Int)).toNatClampNeg = N := by rw [o_nat (by omega)]; omega
  have hck : (Int32.ofInt (K : Int)).toNatClampNeg = K := by rw [o_nat (by omega)]; omega
  intro T hT X
  obtain ⟨vm₁, cA, comp, -, fA, fC, hO, -, X', step⟩ := X.multianewarray2F C.1 (index := idx) (ty := .int) C.2.2.2.2.1 (C.2.2.2.2.2.1 _ hcl) hR0.2.2.2.2.2.1.2.2 (C.2.2.2.2.2.1 _ ac_I) (g := F0 m pc lsC (.int (Int32.ofInt (K : Int)) :: .int (Int32.ofInt (N : Int)) :: st.map (cv G))) rfl (by rw [C.2.1]; exact hd) rfl (o_nneg (by omega)) (o_nneg (by omega)) (by rw [hcn]; omega) (by rw [hck]; show K * 4 ≤ 536870912; omega) (by rw [hck]; omega) rfl rfl (by rw [hcn]; omega) (by rw [hcn, hck]; omega)
  rw [hcn, hck] at X' step
  have ec : comp = G.2.1 10 := by
    have h9 := (hR0.2.2.2.2.1.2 0 _ rfl).2
    exact Option.some.inj (fC.symm.trans h9)
  subst ec
  have ea : cA = G.2.1 15 := by
    have h9 := (hR0.2.2.2.2.1.2 5 _ rfl).2
    exact Option.some.inj (fA.symm.trans h9)
  subst ea
  generalize hF : Jvm.Free.Multi.fill (T.setVm vm₁) (G.2.1 15) (G.2.1 10) N K (defaultValue .int) N = F at X' step
  have hTh : (T.setVm vm₁).heap = H := hT
  obtain ⟨f1, f2, -, -⟩ := Jvm.Free.Multi.fill_facts (T.setVm vm₁) (G.2.1 15) (G.2.1 10) N K (defaultValue .int) N
  rw [hF, hTh] at f1 f2
  have hold : ∀ x : Nat, x < H.size → F.heap[x]? = H[x]? := fun x hx => by
    have := Jvm.Free.Multi.fill_old (T.setVm vm₁) (G.2.1 15) (G.2.1 10) N K (defaultValue .int) (a := x) (by rw [hTh]; exact hx) N
    rw [hF, hTh] at this
    exact this
  have hrow : ∀ j : Nat, j < N → F.heap[H.size + 1 + j]? = some (vp_cell (G.2.1 10) (K, .inl (fun _ => 0))) := fun j hj => by
    have := Jvm.Free.Multi.fill_inner (T.setVm vm₁) (G.2.1 15) (G.2.1 10) N K (defaultValue .int) N j hj
    rw [hF, hTh] at this
    rw [this, vp_cell_i]
    exact congrArg some (arrV_new (G.2.1 10) K (.int 0))
  rw [vr_outer] at f2
  obtain ⟨g1, g2, g3, g4, g5, g6, g7, g8, g9, g10⟩ := hR0
  have hRep : RepS G (aM σ (sn σ) N K) s F.heap locs := by
    refine ⟨by rw [f1, g1, sn_a2]; omega, fun k x hx => ?_, wl_D G _, ⟨by rw [f1]; have := g4.1; omega, fun q a1 a2 => ?_, g4.2.2⟩, g5, g6, g7, g8, g9, fun b hb => ?_⟩
    · have hk : k < sn (aM σ (sn σ) N K) := by
        have := (List.getElem?_eq_some_iff.mp hx).1
        rwa [wl_len] at this
      rw [wl_get G hk] at hx
      cases hx
      rw [sn_a2] at hk
      by_cases e0 : k < sn σ
      · have ee : ce G (aM σ (sn σ) N K) k = ce G σ k := ce_congr (by funext i; rw [hI_a2, if_neg (by omega)]) (by funext i; rw [hR_a2, if_neg (by omega), if_neg (by omega)]) (by rw [sk_a2, if_neg (by omega), if_neg (by omega), if_neg (by omega)])
        rw [ee]
        exact (g2 k _ (wl_get G e0)).kept (hold _ (by show gB G + k < H.size; omega))
      · by_cases e1 : k = sn σ
        · subst e1
          rw [ce_ref (kd := 15) (n := N) (by rw [sk_a2, if_pos rfl]) (by omega)]
          show F.heap[gB G + sn σ]? = some (vp_cell _ _)
          rw [← g1, f2, vp_cell_q]
          refine congrArg some (congrArg (arrV (G.2.1 15) N) (funext fun i => ?_))
          rw [hR_a2, if_pos rfl]
          by_cases hi : i < N
          · rw [if_pos hi, if_pos hi]
            show va_rf (some (H.size + 1 + i)) = va_rf (some (gB G + (sn σ + 1 + i)))
            rw [g1, show gB G + sn σ + 1 + i = gB G + (sn σ + 1 + i) by omega]
          · rw [if_neg hi, if_neg hi]
            rfl
        · rw [ce_int (n := K) (by rw [sk_a2, if_neg e1, if_pos (by omega)])]
          show F.heap[gB G + k]? = some (vp_cell _ _)
          have h9 := hrow (k - (sn σ + 1)) (by omega)
          rw [show H.size + 1 + (k - (sn σ + 1)) = gB G + k by omega] at h9
          rw [h9]
          have ez : (fun i => Int32.ofInt (hI (aM σ (sn σ) N K) k i)) = fun _ => (0 : Int32) := by
            funext i
            rw [hI_a2, if_pos (by omega)]
            rfl
          rw [ez]
    · rw [hold q (by have := g4.1; omega)]
      exact g4.2.1 q a1 a2
    · rw [sn_a2]
      by_cases e0 : b < sn σ + 1 + N
      · exact e0
      · rw [sk_a2, if_neg (by omega), if_neg (by omega), if_pos (by omega)] at hb
        exact absurd rfl hb
  obtain ⟨t, a1, b1⟩ := kk p l e R s m args below meth c QM mc ms C hfr hlo hmc hms hret F.heap locs (cells + 1 + N) (slots + N + N * K) lsC hRep hL (by omega) (by omega) F rfl X'
  refine ⟨t, step t ?_, b1⟩
  have e : T.heap.size = gB G + sn σ := by rw [hT, g1]
  rw [e]
  exact a1
end MNA
-- ===== the constructors of the reader and the baker =====
def ShB (σ : Sg) : Prop := (sk σ 121).1 = 1 ∧ sk σ 122 = (10, 6) ∧ sk σ 123 = (12, 6) ∧ sk σ 124 = (15, 6) ∧ (∀ l, l < 6 → sk σ (125 + l) = (10, 60)) ∧ sk σ 131 = (15, 6) ∧ (∀ l, l < 6 → sk σ (132 + l) = (10, 17)) ∧ hR σ 121 3 = some 122 ∧ hR σ 121 4 = some 123 ∧ hR σ 121 5 = some 124 ∧ hR σ 121 6 = some 131 ∧ ∀ l, l < 6 → hR σ 123 l = some (138 + 3 * l) ∧ hR σ 124 l = some (125 + l) ∧ hR σ 131 l = some (132 + l) ∧ ShM σ (138 + 3 * l)
def ShR (σ : Sg) : Prop := (sk σ 156).1 = 3 ∧ sk σ 157 = (10, 60) ∧ sk σ 158 = (10, 60) ∧ sk σ 159 = (10, 60) ∧ sk σ 160 = (10, 60) ∧ hR σ 156 0 = some 157 ∧ hR σ 156 1 = some 158 ∧ hR σ 156 7 = some 159 ∧ hR σ 156 8 = some 160
section INB
variable {G : GT} {d k n : Nat} {σ : Sg} {Q : Option AV → Sg → Prop}
theorem sp_X2_init (hk : (sk σ 156).1 = 3) (hn : sn σ = 157) (hk2 : 4 ≤ k) (hn2 : 240 ≤ n) (hdp : 1 ≤ d) (hQ : ∀ σ', ShR σ' → sn σ' = 161 → FrN 156 σ σ' → Q none σ') : WA G d k n mX2_init 0 [Va 156] [] σ Q := by
  refine ar_aload_n 1 rfl d_X2_init_0 rfl ?_
  refine ar_oinit 4 rfl d_X2_init_1 ml_X2_3 oi_i oi_c (Nat.le_of_ble_eq_true rfl) (by omega) ?_
  refine ar_aload_n 5 rfl d_X2_init_4 rfl ?_
  refine ar_bipush 7 rfl d_X2_init_5 rfl ?_
  refine ar_newIA 60 157 (k - 1) (n - 60) (by simp [sk_aA, hI_aA, hR_aA, sn_aA, sk_wI, sk_wR, sn_wI, sn_wR, hIwR, hRwI, hI_w, hR_w, sk_a2, hI_a2, hR_a2, sn_a2, hn]) 9 rfl d_X2_init_7 rfl (by omega) (by omega) (by omega) ?_
  refine ar_putRF 12 rfl d_X2_init_9 fl_X2_9 (Or.inr ⟨_, rfl⟩) rfl rfl rfl (by simp [sk_aA, hI_aA, hR_aA, sn_aA, sk_wI, sk_wR, sn_wI, sn_wR, hIwR, hRwI, hI_w, hR_w, sk_a2, hI_a2, hR_a2, sn_a2, hk]) ?_
  refine ar_aload_n 13 rfl d_X2_init_12 rfl ?_
  refine ar_bipush 15 rfl d_X2_init_13 rfl ?_
  refine ar_newIA 60 158 (k - 2) (n - 120) (by simp [sk_aA, hI_aA, hR_aA, sn_aA, sk_wI, sk_wR, sn_wI, sn_wR, hIwR, hRwI, hI_w, hR_w, sk_a2, hI_a2, hR_a2, sn_a2, hn]) 17 rfl d_X2_init_15 rfl (by omega) (by omega) (by omega) ?_
  refine ar_putRF 20 rfl d_X2_init_17 fl_X2_15 (Or.inr ⟨_, rfl⟩) rfl rfl rfl (by simp [sk_aA, hI_aA, hR_aA, sn_aA, sk_wI, sk_wR, sn_wI, sn_wR, hIwR, hRwI, hI_w, hR_w, sk_a2, hI_a2, hR_a2, sn_a2, hk]) ?_
  refine ar_aload_n 21 rfl d_X2_init_20 rfl ?_
  refine ar_bipush 23 rfl d_X2_init_21 rfl ?_
  refine ar_newIA 60 159 (k - 3) (n - 180) (by simp [sk_aA, hI_aA, hR_aA, sn_aA, sk_wI, sk_wR, sn_wI, sn_wR, hIwR, hRwI, hI_w, hR_w, sk_a2, hI_a2, hR_a2, sn_a2, hn]) 25 rfl d_X2_init_23 rfl (by omega) (by omega) (by omega) ?_
  refine ar_putRF 28 rfl d_X2_init_25 fl_X2_18 (Or.inr ⟨_, rfl⟩) rfl rfl rfl (by simp [sk_aA, hI_aA, hR_aA, sn_aA, sk_wI, sk_wR, sn_wI, sn_wR, hIwR, hRwI, hI_w, hR_w, sk_a2, hI_a2, hR_a2, sn_a2, hk]) ?_
  refine ar_aload_n 29 rfl d_X2_init_28 rfl ?_
  refine ar_bipush 31 rfl d_X2_init_29 rfl ?_
  refine ar_newIA 60 160 (k - 4) (n - 240) (by simp [sk_aA, hI_aA, hR_aA, sn_aA, sk_wI, sk_wR, sn_wI, sn_wR, hIwR, hRwI, hI_w, hR_w, sk_a2, hI_a2, hR_a2, sn_a2, hn]) 33 rfl d_X2_init_31 rfl (by omega) (by omega) (by omega) ?_
  refine ar_putRF 36 rfl d_X2_init_33 fl_X2_21 (Or.inr ⟨_, rfl⟩) rfl rfl rfl (by simp [sk_aA, hI_aA, hR_aA, sn_aA, sk_wI, sk_wR, sn_wI, sn_wR, hIwR, hRwI, hI_w, hR_w, sk_a2, hI_a2, hR_a2, sn_a2, hk]) ?_
  refine WA.ret none ⟨d_X2_init_36, rfl, rfl⟩ ?_
  refine hQ _ ?_ rfl ?_
  · unfold ShR
    simp [sk_aA, hI_aA, hR_aA, sn_aA, sk_wI, sk_wR, sn_wI, sn_wR, hIwR, hRwI, hI_w, hR_w, sk_a2, hI_a2, hR_a2, sn_a2, hk]
  · exact (((((((FrN.a (by omega)).tr (FrN.wR (by omega))).tr (FrN.a (by omega))).tr (FrN.wR (by omega))).tr (FrN.a (by omega))).tr (FrN.wR (by omega))).tr (FrN.a (by omega))).tr (FrN.wR (by omega))
def ShB0 (σ : Sg) : Prop := (sk σ 121).1 = 1 ∧ sk σ 122 = (10, 6) ∧ sk σ 123 = (12, 6) ∧ sk σ 124 = (15, 6) ∧ (∀ l, l < 6 → sk σ (125 + l) = (10, 60)) ∧ sk σ 131 = (15, 6) ∧ (∀ l, l < 6 → sk σ (132 + l) = (10, 17)) ∧ hR σ 121 3 = some 122 ∧ hR σ 121 4 = some 123 ∧ hR σ 121 5 = some 124 ∧ hR σ 121 6 = some 131 ∧ ∀ l, l < 6 → hR σ 124 l = some (125 + l) ∧ hR σ 131 l = some (132 + l)
set_option maxHeartbeats 8000000 in
theorem sp_X0_init (hk : (sk σ 121).1 = 1) (hn : sn σ = 122) (hk2 : 34 ≤ k) (hn2 : 750 ≤ n) (hdp : 2 ≤ d) (hQ : ∀ σ', ShB σ' → sn σ' = 156 → FrN 121 σ σ' → Q none σ') : WA G d k n mX0_init 0 [Va 121, Vu] [] σ Q := by
  have loop : ∀ r i : Nat, ∀ (σi : Sg) (k' n' : Nat), 6 - i = r → i ≤ 6 → sn σi = 138 + 3 * i → FrN 121 σ σi → 3 * (6 - i) ≤ k' → 44 * (6 - i) ≤ n' → ShB0 σi → (∀ l, l < i → hR σi 123 l = some (138 + 3 * l) ∧ ShM σi (138 + 3 * l)) → WA G d k' n' mX0_init 47 [Va 121, Vi (i : Int)] [] σi Q := by
    intro r
    induction r using Nat.strongRecOn with
    | ind r ih =>
    intro i σi k' n' hr hi hn hf hk' hn' hsh hmm
    have hk := hsh.1
    have hk3 : sk σi 123 = (12, 6) := hsh.2.2.1
    have hr4 : hR σi 121 4 = some 123 := hsh.2.2.2.2.2.2.2.2.1
    refine ar_iload_n 48 rfl d_X0_init_47 rfl ?_
    refine ar_bipush 50 rfl d_X0_init_48 rfl ?_
    refine ar_icmp_ge 72 53 rfl rfl d_X0_init_50 (by omega) (by omega) (fun g50 => ?_) (fun g50 => ?_)
    · refine WA.ret none ⟨d_X0_init_72, rfl, rfl⟩ ?_
      have hi6 : i = 6 := by omega
      subst hi6
      obtain ⟨q1, q2, q3, q4, q5, q6, q7, q8, q9, q10, q11, q12⟩ := hsh
      exact hQ σi ⟨q1, q2, q3, q4, q5, q6, q7, q8, q9, q10, q11, fun l hl => ⟨(hmm l hl).1, (q12 l hl).1, (q12 l hl).2, (hmm l hl).2⟩⟩ hn hf
    · refine ar_aload_n 54 rfl d_X0_init_53 rfl ?_
      refine ar_getA 57 rfl d_X0_init_54 fl_X0_17 rfl (by assumption) (by assumption) ?_
      refine ar_iload_n 58 rfl d_X0_init_57 rfl ?_
      refine ar_newA 1 (138 + 3 * i) (k' - 1) (n' - 8) hn 61 rfl d_X0_init_58 (by decide) kl_X0_15 in_1 ii_1 (by omega) (by show n' - 8 + 8 ≤ n'; omega) ?_
      refine ar_dup 62 rfl d_X0_init_61 (fun _ => rfl) ?_
      refine ar_callIN (M' := mX1_init) (As := []) (ls' := [Va _]) 2 36 (3 * (6 - (i + 1))) (44 * (6 - (i + 1))) 65 rfl d_X0_init_62 ml_X0_29 mt_X1_init rfl (Nat.le_of_ble_eq_true rfl) rfl (Nat.le_of_ble_eq_true rfl) (by omega) (by omega) (by omega) ?_
      refine sp_X1_init (by rw [sk_aA, if_pos rfl]) (sn_aA _ _ _ _) (by omega) (by omega) (by omega) (fun σ1 hm1 hn1 hf1 => ?_)
      have hg : ∀ b, b < 138 + 3 * i → sk σ1 b = sk σi b ∧ hI σ1 b = hI σi b ∧ hR σ1 b = hR σi b := ((FrN.a (Nat.le_refl _)).tr hf1)
      have hk4' : sk σ1 123 = (12, 6) := by rw [(hg 123 (by omega)).1]; exact hk3
      refine ar_aasN (kd := 12) i 66 rfl d_X0_init_65 (by assumption) (by omega) (by omega) (by omega) hm1.1 ?_
      refine ar_inc_1 (y := ((i + 1 : Nat) : Int)) 69 rfl d_X0_init_66 rfl (by intro _ h; cases h) (by omega) ?_
      refine ar_goto 47 rfl d_X0_init_69 ?_
      refine ih (6 - (i + 1)) (by omega) (i + 1) _ _ _ rfl (by omega) (by rw [sn_wR, hn1]; omega) ((hf.tr (FrN.sub hg (by omega))).tr (FrN.wR (by omega))) (Nat.le_refl _) (Nat.le_refl _) ?_ ?_
      · obtain ⟨q1, q2, q3, q4, q5, q6, q7, q8, q9, q10, q11, q12⟩ := hsh
        refine ⟨?_, ?_, ?_, ?_, fun l hl => ?_, ?_, fun l hl => ?_, ?_, ?_, ?_, ?_, fun l hl => ⟨?_, ?_⟩⟩
        iterate 4 (rw [sk_wR, (hg _ (by omega)).1]; assumption)
        · rw [sk_wR, (hg _ (by omega)).1]; exact q5 l hl
        · rw [sk_wR, (hg _ (by omega)).1]; assumption
        · rw [sk_wR, (hg _ (by omega)).1]; exact q7 l hl
        iterate 4 (rw [hR_w, if_neg (by omega), (hg _ (by omega)).2.2]; assumption)
        · rw [hR_w, if_neg (by omega), (hg _ (by omega)).2.2]; exact (q12 l hl).1
        · rw [hR_w, if_neg (by omega), (hg _ (by omega)).2.2]; exact (q12 l hl).2
      · intro p hp
        by_cases e : p = i
        · subst e
          refine ⟨by rw [hR_w, if_pos ⟨rfl, rfl⟩], ?_⟩
          have := hm1
          unfold ShM at this ⊢
          simp only [sk_wR]
          rw [hR_w, if_neg (by omega), hR_w, if_neg (by omega)]
          exact this
        · have hpi := hmm p (by omega)
          refine ⟨?_, ?_⟩
          · rw [hR_w, if_neg (by omega), (hg 123 (by omega)).2.2]
            exact hpi.1
          · have h3 := hpi.2.frn hg (by omega)
            unfold ShM at h3 ⊢
            simp only [sk_wR]
            rw [hR_w, if_neg (by omega), hR_w, if_neg (by omega)]
            exact h3
  refine ar_aload_n 1 rfl d_X0_init_0 rfl ?_
  refine ar_oinit 4 rfl d_X0_init_1 ml_X0_3 oi_i oi_c (Nat.le_of_ble_eq_true rfl) (by omega) ?_
  refine ar_aload_n 5 rfl d_X0_init_4 rfl ?_
  refine ar_bipush 7 rfl d_X0_init_5 rfl ?_
  refine ar_newIA 6 122 (k - 1) (n - 6) (by simp [sk_aA, hI_aA, hR_aA, sn_aA, sk_wI, sk_wR, sn_wI, sn_wR, hIwR, hRwI, hI_w, hR_w, sk_a2, hI_a2, hR_a2, sn_a2, hn]) 9 rfl d_X0_init_7 rfl (by omega) (by omega) (by omega) ?_
  refine ar_putRF 12 rfl d_X0_init_9 fl_X0_9 (Or.inr ⟨_, rfl⟩) rfl rfl rfl (by simp [sk_aA, hI_aA, hR_aA, sn_aA, sk_wI, sk_wR, sn_wI, sn_wR, hIwR, hRwI, hI_w, hR_w, sk_a2, hI_a2, hR_a2, sn_a2, hk]) ?_
  refine ar_aload_n 13 rfl d_X0_init_12 rfl ?_
  refine ar_bipush 15 rfl d_X0_init_13 rfl ?_
  refine ar_anewA 12 6 123 (k - 2) (n - 12) (by simp [sk_aA, hI_aA, hR_aA, sn_aA, sk_wI, sk_wR, sn_wI, sn_wR, hIwR, hRwI, hI_w, hR_w, sk_a2, hI_a2, hR_a2, sn_a2, hn]) 18 rfl d_X0_init_15 (by omega) kl_X0_15 rfl (by omega) (by omega) (by omega) ?_
  refine ar_putRF 21 rfl d_X0_init_18 fl_X0_17 (Or.inr ⟨_, rfl⟩) rfl rfl rfl (by simp [sk_aA, hI_aA, hR_aA, sn_aA, sk_wI, sk_wR, sn_wI, sn_wR, hIwR, hRwI, hI_w, hR_w, sk_a2, hI_a2, hR_a2, sn_a2, hk]) ?_
  refine ar_aload_n 22 rfl d_X0_init_21 rfl ?_
  refine ar_bipush 24 rfl d_X0_init_22 rfl ?_
  refine ar_bipush 26 rfl d_X0_init_24 rfl ?_
  refine ar_mna 6 60 124 (k - 9) (n - 378) (by simp [sk_aA, hI_aA, hR_aA, sn_aA, sk_wI, sk_wR, sn_wI, sn_wR, hIwR, hRwI, hI_w, hR_w, sk_a2, hI_a2, hR_a2, sn_a2, hn]) 30 rfl d_X0_init_26 kl_X0_21 rfl rfl (by omega) (by omega) (by omega) (by omega) ?_
  refine ar_putRF 33 rfl d_X0_init_30 fl_X0_23 (Or.inr ⟨_, rfl⟩) rfl rfl rfl (by simp [sk_aA, hI_aA, hR_aA, sn_aA, sk_wI, sk_wR, sn_wI, sn_wR, hIwR, hRwI, hI_w, hR_w, sk_a2, hI_a2, hR_a2, sn_a2, hk]) ?_
  refine ar_aload_n 34 rfl d_X0_init_33 rfl ?_
  refine ar_bipush 36 rfl d_X0_init_34 rfl ?_
  refine ar_bipush 38 rfl d_X0_init_36 rfl ?_
  refine ar_mna 6 17 131 (k - 16) (n - 486) (by simp [sk_aA, hI_aA, hR_aA, sn_aA, sk_wI, sk_wR, sn_wI, sn_wR, hIwR, hRwI, hI_w, hR_w, sk_a2, hI_a2, hR_a2, sn_a2, hn]) 42 rfl d_X0_init_38 kl_X0_21 rfl rfl (by omega) (by omega) (by omega) (by omega) ?_
  refine ar_putRF 45 rfl d_X0_init_42 fl_X0_26 (Or.inr ⟨_, rfl⟩) rfl rfl rfl (by simp [sk_aA, hI_aA, hR_aA, sn_aA, sk_wI, sk_wR, sn_wI, sn_wR, hIwR, hRwI, hI_w, hR_w, sk_a2, hI_a2, hR_a2, sn_a2, hk]) ?_
  refine ar_iconst 46 rfl d_X0_init_45 ?_
  refine ar_ist_1 47 rfl d_X0_init_46 rfl (by intro _ h; cases h) ?_
  refine loop 6 0 _ _ _ rfl (by omega) rfl ?_ (by omega) (by omega) ?_ (fun p hp => absurd hp (by omega))
  · exact (((((((FrN.a (by omega)).tr (FrN.wR (by omega))).tr (FrN.a (by omega))).tr (FrN.wR (by omega))).tr (FrN.m (by omega))).tr (FrN.wR (by omega))).tr (FrN.m (by omega))).tr (FrN.wR (by omega))
  · refine ⟨?_, ?_, ?_, ?_, fun l hl => ?_, ?_, fun l hl => ?_, ?_, ?_, ?_, ?_, fun l hl => ⟨?_, ?_⟩⟩
    · simp [sk_aA, hI_aA, hR_aA, sn_aA, sk_wI, sk_wR, sn_wI, sn_wR, hIwR, hRwI, hI_w, hR_w, sk_a2, hI_a2, hR_a2, sn_a2, hk]
    · simp [sk_aA, hI_aA, hR_aA, sn_aA, sk_wI, sk_wR, sn_wI, sn_wR, hIwR, hRwI, hI_w, hR_w, sk_a2, hI_a2, hR_a2, sn_a2]
    · simp [sk_aA, hI_aA, hR_aA, sn_aA, sk_wI, sk_wR, sn_wI, sn_wR, hIwR, hRwI, hI_w, hR_w, sk_a2, hI_a2, hR_a2, sn_a2]
    · simp [sk_aA, hI_aA, hR_aA, sn_aA, sk_wI, sk_wR, sn_wI, sn_wR, hIwR, hRwI, hI_w, hR_w, sk_a2, hI_a2, hR_a2, sn_a2]
    · simp only [sk_aA, hI_aA, hR_aA, sn_aA, sk_wI, sk_wR, sn_wI, sn_wR, hIwR, hRwI, hI_w, hR_w, sk_a2, hI_a2, hR_a2, sn_a2]
      rw [if_neg (by omega), if_neg (by omega), if_neg (by omega), if_neg (by omega), if_pos (by omega)]
    · simp [sk_aA, hI_aA, hR_aA, sn_aA, sk_wI, sk_wR, sn_wI, sn_wR, hIwR, hRwI, hI_w, hR_w, sk_a2, hI_a2, hR_a2, sn_a2]
    · simp only [sk_aA, hI_aA, hR_aA, sn_aA, sk_wI, sk_wR, sn_wI, sn_wR, hIwR, hRwI, hI_w, hR_w, sk_a2, hI_a2, hR_a2, sn_a2]
      rw [if_neg (by omega), if_pos (by omega)]
    · simp [sk_aA, hI_aA, hR_aA, sn_aA, sk_wI, sk_wR, sn_wI, sn_wR, hIwR, hRwI, hI_w, hR_w, sk_a2, hI_a2, hR_a2, sn_a2]
    · simp [sk_aA, hI_aA, hR_aA, sn_aA, sk_wI, sk_wR, sn_wI, sn_wR, hIwR, hRwI, hI_w, hR_w, sk_a2, hI_a2, hR_a2, sn_a2]
    · simp [sk_aA, hI_aA, hR_aA, sn_aA, sk_wI, sk_wR, sn_wI, sn_wR, hIwR, hRwI, hI_w, hR_w, sk_a2, hI_a2, hR_a2, sn_a2]
    · simp [sk_aA, hI_aA, hR_aA, sn_aA, sk_wI, sk_wR, sn_wI, sn_wR, hIwR, hRwI, hI_w, hR_w, sk_a2, hI_a2, hR_a2, sn_a2]
    · simp [sk_aA, hI_aA, hR_aA, sn_aA, sk_wI, sk_wR, sn_wI, sn_wR, hIwR, hRwI, hI_w, hR_w, sk_a2, hI_a2, hR_a2, sn_a2, hl]
    · simp [sk_aA, hI_aA, hR_aA, sn_aA, sk_wI, sk_wR, sn_wI, sn_wR, hIwR, hRwI, hI_w, hR_w, sk_a2, hI_a2, hR_a2, sn_a2, hl]
end INB
end
section
section RECM
variable {G : GT} {d k n : Nat} {σ : Sg} {Q : Option AV → Sg → Prop}
/-- the loaves that have something, as a set -/
def lset (p : Nat → Bool) : Nat → Nat
  | 0 => 0
  | i + 1 => lset p i ||| (if p i = true then 2 ^ i else 0)
theorem lset_lt (p : Nat → Bool) : ∀ i, i ≤ 6 → lset p i < 64
  | 0, _ => by
    show 0 < 64
    decide
  | i + 1, h => by
    have h1 := lset_lt p i (by omega)
    unfold lset
    refine Nat.or_lt_two_pow (n := 6) h1 ?_
    split
    · exact Nat.pow_lt_pow_right (by decide) (by omega)
    · decide
theorem lset_s (p : Nat → Bool) (i : Nat) (hi : i < 6) (h : p i = true) : iOr (lset p i : Int) (iSl 1 (i : Int)) = (lset p (i + 1) : Int) := by
  have h1 := lset_lt p i (by omega)
  have h2 : 2 ^ i < 2 ^ 31 := Nat.pow_lt_pow_right (by decide) (by omega)
  rw [iSl_1 i (by omega), iOr_n (by omega) h2]
  show _ = (((lset p i ||| (if p i = true then 2 ^ i else 0)) : Nat) : Int)
  rw [if_pos h]
theorem lset_n (p : Nat → Bool) (i : Nat) (h : ¬ p i = true) : lset p (i + 1) = lset p i := by
  show lset p i ||| (if p i = true then 2 ^ i else 0) = _
  rw [if_neg h, Nat.or_zero]
theorem cSh_lt {c : Code} (h : ∀ x ∈ c, x.1 = 0 → x.2 < 20 → x.2 < 12) : cSh c < 4096 := by
  induction c with
  | nil => decide
  | cons x t ih =>
    unfold cSh
    refine Nat.or_lt_two_pow (n := 12) ?_ (ih (fun y hy => h y (List.mem_cons_of_mem _ hy)))
    split
    · rename_i hx
      have := h x List.mem_cons_self hx.1 hx.2
      exact Nat.pow_lt_pow_right (by decide) (by omega)
    · decide
theorem sp_X4_loavesWithRecipe {s : Nat} {rc : Nat → Code} (hs : ShS σ s) (hr : RSr σ s rc) (hQ : Q (some (Vi (lset (fun l => decide (rc l ≠ [])) 6 : Int))) σ) : WA G d k n mX4_loavesWithRecipe 0 [Va s, Vu, Vu] [] σ Q := by
  have hk := hs.1
  have hk3 : sk σ (s + 3) = (14, 6) := hs.2.2.2.1
  have hr3 : hR σ s 3 = some (s + 3) := hs.2.2.2.2.2.2.2.2.2.1
  have loop : ∀ r i : Nat, 6 - i = r → i ≤ 6 → WA G d k n mX4_loavesWithRecipe 4 [Va s, Vi (lset (fun l => decide (rc l ≠ [])) i : Int), Vi (i : Int)] [] σ Q := by
    intro r
    induction r using Nat.strongRecOn with
    | ind r ih =>
    intro i hr' hi
    refine ar_iload_n 5 rfl d_X4_loavesWithRecipe_4 rfl ?_
    refine ar_bipush 7 rfl d_X4_loavesWithRecipe_5 rfl ?_
    refine ar_icmp_ge 31 10 rfl rfl d_X4_loavesWithRecipe_7 (by omega) (by omega) (fun g7 => ?_) (fun g7 => ?_)
    · refine ar_iload_n 32 rfl d_X4_loavesWithRecipe_31 rfl ?_
      refine WA.ret (some (Vi _)) ⟨d_X4_loavesWithRecipe_32, rfl, Or.inl rfl⟩ ?_
      rw [show i = 6 by omega]
      exact hQ
    · refine ar_aload_n 11 rfl d_X4_loavesWithRecipe_10 rfl ?_
      refine ar_getA 14 rfl d_X4_loavesWithRecipe_11 fl_X4_20 rfl (by assumption) (by assumption) ?_
      refine ar_iload_n 15 rfl d_X4_loavesWithRecipe_14 rfl ?_
      refine ar_aald 16 rfl d_X4_loavesWithRecipe_15 (by assumption) (by omega) (by omega) ?_
      have hri := hr i (by omega)
      refine ar_ifnull 25 19 rfl rfl d_X4_loavesWithRecipe_16 (fun g16 => ?_) (fun a16 g16 => ?_)
      · have hn0 : rc i = [] := by
          rcases hri with e | ⟨e, r1, _, _, e2, _⟩
          · exact e.1
          · exact absurd (g16.symm.trans e2) (by simp)
        refine ar_inc_2 (y := ((i + 1 : Nat) : Int)) 28 rfl d_X4_loavesWithRecipe_25 rfl (by intro _ h; cases h) (by omega) ?_
        refine ar_goto 4 rfl d_X4_loavesWithRecipe_28 ?_
        have h9 := ih (6 - (i + 1)) (by omega) (i + 1) rfl (by omega)
        rw [lset_n _ i (by simp [hn0])] at h9
        exact h9
      · have hn0 : rc i ≠ [] := by
          rcases hri with e | ⟨e, _⟩
          · exact absurd (g16.symm.trans e.2) (by simp)
          · exact e
        refine ar_iload_n 20 rfl d_X4_loavesWithRecipe_19 rfl ?_
        refine ar_iconst 21 rfl d_X4_loavesWithRecipe_20 ?_
        refine ar_iload_n 22 rfl d_X4_loavesWithRecipe_21 rfl ?_
        refine ar_ishl 23 rfl d_X4_loavesWithRecipe_22 ?_
        refine ar_ior 24 rfl d_X4_loavesWithRecipe_23 ?_
        refine ar_top (lset_s _ i (by omega) (by simp [hn0])) ?_
        refine ar_ist_1 25 rfl d_X4_loavesWithRecipe_24 rfl (by intro _ h; cases h) ?_
        refine ar_inc_2 (y := ((i + 1 : Nat) : Int)) 28 rfl d_X4_loavesWithRecipe_25 rfl (by intro _ h; cases h) (by omega) ?_
        refine ar_goto 4 rfl d_X4_loavesWithRecipe_28 ?_
        exact ih (6 - (i + 1)) (by omega) (i + 1) rfl (by omega)
  refine ar_iconst 1 rfl d_X4_loavesWithRecipe_0 ?_
  refine ar_ist_1 2 rfl d_X4_loavesWithRecipe_1 rfl (by intro _ h; cases h) ?_
  refine ar_iconst 3 rfl d_X4_loavesWithRecipe_2 ?_
  refine ar_ist_2 4 rfl d_X4_loavesWithRecipe_3 rfl (by intro _ h; cases h) ?_
  exact loop 6 0 rfl (by omega)
theorem sp_X4_loavesNaming {s b : Nat} {rc : Nat → Code} (hs : ShS σ s) (hr : RSr σ s rc) (hb : b < 12) (hc : ∀ l x, l < 6 → x ∈ rc l → x.1 = 0 → x.2 < 20 → x.2 < 12) (hdp : 1 ≤ d) (hQ : Q (some (Vi (lset (fun l => (cSh (rc l)).testBit b) 6 : Int))) σ) : WA G d k n mX4_loavesNaming 0 [Va s, Vi (b : Int), Vu, Vu] [] σ Q := by
  have hk := hs.1
  have hk3 : sk σ (s + 3) = (14, 6) := hs.2.2.2.1
  have hr3 : hR σ s 3 = some (s + 3) := hs.2.2.2.2.2.2.2.2.2.1
  have loop : ∀ r i : Nat, 6 - i = r → i ≤ 6 → WA G d k n mX4_loavesNaming 4 [Va s, Vi (b : Int), Vi (lset (fun l => (cSh (rc l)).testBit b) i : Int), Vi (i : Int)] [] σ Q := by
    intro r
    induction r using Nat.strongRecOn with
    | ind r ih =>
    intro i hr' hi
    refine ar_iload_n 5 rfl d_X4_loavesNaming_4 rfl ?_
    refine ar_bipush 7 rfl d_X4_loavesNaming_5 rfl ?_
    refine ar_icmp_ge 48 10 rfl rfl d_X4_loavesNaming_7 (by omega) (by omega) (fun g7 => ?_) (fun g7 => ?_)
    · refine ar_iload_n 49 rfl d_X4_loavesNaming_48 rfl ?_
      refine WA.ret (some (Vi _)) ⟨d_X4_loavesNaming_49, rfl, Or.inl rfl⟩ ?_
      rw [show i = 6 by omega]
      exact hQ
    · refine ar_aload_n 11 rfl d_X4_loavesNaming_10 rfl ?_
      refine ar_getA 14 rfl d_X4_loavesNaming_11 fl_X4_20 rfl (by assumption) (by assumption) ?_
      refine ar_iload_n 15 rfl d_X4_loavesNaming_14 rfl ?_
      refine ar_aald 16 rfl d_X4_loavesNaming_15 (by assumption) (by omega) (by omega) ?_
      have hri := hr i (by omega)
      refine ar_ifnull 42 19 rfl rfl d_X4_loavesNaming_16 (fun g16 => ?_) (fun a16 g16 => ?_)
      · have hn0 : rc i = [] := by
          rcases hri with e | ⟨e, r1, _, _, e2, _⟩
          · exact e.1
          · exact absurd (g16.symm.trans e2) (by simp)
        refine ar_inc_3 (y := ((i + 1 : Nat) : Int)) 45 rfl d_X4_loavesNaming_42 rfl (by intro _ h; cases h) (by omega) ?_
        refine ar_goto 4 rfl d_X4_loavesNaming_45 ?_
        have h9 := ih (6 - (i + 1)) (by omega) (i + 1) rfl (by omega)
        rw [lset_n _ i (by simp [hn0, cSh])] at h9
        exact h9
      · obtain ⟨r1, hr1, hR1⟩ : ∃ r1, hR σ (s + 3) i = some r1 ∧ RRec σ r1 (rc i) := by
          rcases hri with e | ⟨e, r1, _, _, e2, e3⟩
          · exact absurd (g16.symm.trans e.2) (by simp)
          · exact ⟨r1, e2, e3⟩
        have hkr := hR1.1
        have hlt := cSh_lt (c := rc i) (fun x hx => hc i x (by omega) hx)
        refine ar_aload_n 20 rfl d_X4_loavesNaming_19 rfl ?_
        refine ar_getA 23 rfl d_X4_loavesNaming_20 fl_X4_20 rfl (by assumption) (by assumption) ?_
        refine ar_iload_n 24 rfl d_X4_loavesNaming_23 rfl ?_
        refine ar_aalA 25 rfl d_X4_loavesNaming_24 (by assumption) (by omega) (by omega) hr1 ?_
        refine ar_giv (y := ((cSh (rc i) : Nat) : Int)) 28 rfl d_X4_loavesNaming_25 fl_X4_63 rfl (by assumption) hR1.2.2.2.2.2.2.2.1 ?_
        refine ar_iload_n 29 rfl d_X4_loavesNaming_28 rfl ?_
        refine ar_callSN0 (M' := mX5_bitOf) (As := [_, _]) (ls' := [Vi _, Vi _]) 32 rfl d_X4_loavesNaming_29 ml_X4_66 mt_X5_bitOf rfl (Nat.le_of_ble_eq_true rfl) rfl (Nat.le_of_ble_eq_true rfl) (by omega) ?_
        refine sp_X5_bitOf (by omega) (by omega) ?_
        refine ar_iconst 33 rfl d_X4_loavesNaming_32 ?_
        refine ar_icmp_ne 42 36 rfl rfl d_X4_loavesNaming_33 (by first | omega | (split <;> omega)) (by first | omega | (split <;> omega)) (fun g33 => ?_) (fun g33 => ?_)
        · refine ar_inc_3 (y := ((i + 1 : Nat) : Int)) 45 rfl d_X4_loavesNaming_42 rfl (by intro _ h; cases h) (by omega) ?_
          refine ar_goto 4 rfl d_X4_loavesNaming_45 ?_
          have h9 := ih (6 - (i + 1)) (by omega) (i + 1) rfl (by omega)
          rw [lset_n _ i (by
            intro hbit
            have hbit : (cSh (rc i)).testBit b = true := hbit
            rw [hbit] at g33
            simp at g33)] at h9
          exact h9
        · refine ar_iload_n 37 rfl d_X4_loavesNaming_36 rfl ?_
          refine ar_iconst 38 rfl d_X4_loavesNaming_37 ?_
          refine ar_iload_n 39 rfl d_X4_loavesNaming_38 rfl ?_
          refine ar_ishl 40 rfl d_X4_loavesNaming_39 ?_
          refine ar_ior 41 rfl d_X4_loavesNaming_40 ?_
          refine ar_top (lset_s (fun l => (cSh (rc l)).testBit b) i (by omega) (by cases hbit : (cSh (rc i)).testBit b with
            | true => rfl
            | false => (rw [hbit] at g33; simp at g33))) ?_
          refine ar_ist_2 42 rfl d_X4_loavesNaming_41 rfl (by intro _ h; cases h) ?_
          refine ar_inc_3 (y := ((i + 1 : Nat) : Int)) 45 rfl d_X4_loavesNaming_42 rfl (by intro _ h; cases h) (by omega) ?_
          refine ar_goto 4 rfl d_X4_loavesNaming_45 ?_
          exact ih (6 - (i + 1)) (by omega) (i + 1) rfl (by omega)
  refine ar_iconst 1 rfl d_X4_loavesNaming_0 ?_
  refine ar_ist_2 2 rfl d_X4_loavesNaming_1 rfl (by intro _ h; cases h) ?_
  refine ar_iconst 3 rfl d_X4_loavesNaming_2 ?_
  refine ar_ist_3 4 rfl d_X4_loavesNaming_3 rfl (by intro _ h; cases h) ?_
  exact loop 6 0 rfl (by omega)
/-- what the reader has read: the orders, and the counts beside them -/
def RRd (σ : Sg) (c : Code) : Prop := hI σ 156 2 = (c.length : Int) ∧ hI σ 156 3 = cParts c ∧ hI σ 156 4 = ((cSh c : Nat) : Int) ∧ hI σ 156 5 = ((cLo c : Nat) : Int) ∧ ∀ i x, c[i]? = some x → hI σ 157 i = x.1 ∧ hI σ 158 i = x.2
theorem cI_al {σ : Sg} {a m : Nat} (hlt : a < sn σ) : ∀ b, b < sn σ → sk (cI (al σ 10 m) a 0 (sn σ) 0 m) b = sk σ b ∧ hI (cI (al σ 10 m) a 0 (sn σ) 0 m) b = hI σ b ∧ hR (cI (al σ 10 m) a 0 (sn σ) 0 m) b = hR σ b := by
  intro b hb
  refine ⟨?_, ?_, ?_⟩
  · show (if b = sn σ then _ else _) = _
    rw [if_neg (by omega)]
  · funext i
    rw [hI_c, if_neg (by omega)]
    show (if b = sn σ then _ else _) = _
    rw [if_neg (by omega)]
  · funext i
    show (if b = sn σ then _ else _) = _
    rw [if_neg (by omega)]
set_option maxHeartbeats 4000000 in
theorem sp_X3_init {r : Nat} {c : Code} (hk : (sk σ r).1 = 4) (hn : sn σ = r + 1) (hr : 652 ≤ r) (hsh : ShR σ) (hc : RRd σ c) (hcl : c.length < 60) (hk2 : 2 ≤ k) (hn2 : 120 ≤ n) (hdp : 2 ≤ d) (hQ : ∀ σ', RRec σ' r c → sn σ' = r + 3 → FrN r σ σ' → Q none σ') : WA G d k n mX3_init 0 [Va r, Va 156] [] σ Q := by
  obtain ⟨c2, c3, c4, c5, c6⟩ := hc
  obtain ⟨s1, s2, s3, s4, s5, s6, s7, s8, s9⟩ := hsh
  refine ar_aload_n 1 rfl d_X3_init_0 rfl ?_
  refine ar_oinit 4 rfl d_X3_init_1 ml_X3_1 oi_i oi_c (Nat.le_of_ble_eq_true rfl) (by omega) ?_
  refine ar_aload_n 5 rfl d_X3_init_4 rfl ?_
  refine ar_aload_n 6 rfl d_X3_init_5 rfl ?_
  refine ar_giv (y := (c.length : Int)) 9 rfl d_X3_init_6 fl_X3_7 rfl (by assumption) (by assumption) ?_
  refine ar_putIF 12 rfl d_X3_init_9 fl_X3_13 rfl rfl rfl rfl (by assumption) ?_
  refine ar_aload_n 13 rfl d_X3_init_12 rfl ?_
  refine ar_aload_n 14 rfl d_X3_init_13 rfl ?_
  refine ar_getA 17 rfl d_X3_init_14 fl_X3_16 rfl (by assumption) (by assumption) ?_
  refine ar_aload_n 18 rfl d_X3_init_17 rfl ?_
  refine ar_giv (y := (c.length : Int)) 21 rfl d_X3_init_18 fl_X3_13 rfl (by assumption) (by rw [hI_w, if_pos ⟨rfl, rfl⟩]) ?_
  refine ar_callS (M' := mJ7_copyOf_59c91) (As := [_, _]) (ls' := [Vr _, Vi _, Vu]) 1 60 (k - 1) (n - 60) 24 rfl d_X3_init_21 ml_X3_20 mt_J7_copyOf_59c91 rfl (Nat.le_of_ble_eq_true rfl) rfl (Nat.le_of_ble_eq_true rfl) (by omega) (by omega) (by omega) ?_
  refine sp_J7_copyOf_59c91 (m := c.length) (k0 := 0) (n0 := 0) s2 (by omega) hcl (by omega) (by omega) (by omega) (by show 157 < sn σ; omega) ?_
  have g1 := cI_al (σ := wI σ r 2 (c.length : Int)) (a := 157) (m := c.length) (by show 157 < sn σ; omega)
  have gn : sn (wI σ r 2 (c.length : Int)) = r + 1 := hn
  rw [gn] at g1 ⊢
  generalize hσ1 : cI (al (wI σ r 2 (c.length : Int)) 10 c.length) 157 0 (r + 1) 0 c.length = σ1 at g1 ⊢
  have n1 : sn σ1 = r + 2 := by rw [← hσ1]; show sn σ + 1 = _; omega
  have k1 : sk σ1 (r + 1) = (10, c.length) := by
    rw [← hσ1]
    show (if r + 1 = sn σ then (10, c.length) else _) = _
    rw [if_pos (by omega)]
  have v1 : ∀ i x, c[i]? = some x → hI σ1 (r + 1) i = x.1 := by
    intro i x hx
    have hi := (List.getElem?_eq_some_iff.mp hx).1
    rw [← hσ1, hI_c, if_pos (by omega)]
    show (if 157 = sn σ then 0 else hI (wI σ r 2 (c.length : Int)) 157 (0 + (i - 0))) = _
    rw [if_neg (by omega), hI_w, if_neg (by omega), Nat.zero_add, Nat.sub_zero]
    exact (c6 i x hx).1
  have hk1 : (sk σ1 r).1 = 4 := by rw [(g1 r (by omega)).1]; exact hk
  refine ar_putRF 27 rfl d_X3_init_24 fl_X3_26 (Or.inr ⟨_, rfl⟩) rfl rfl rfl hk1 ?_
  refine ar_aload_n 28 rfl d_X3_init_27 rfl ?_
  refine ar_aload_n 29 rfl d_X3_init_28 rfl ?_
  refine ar_getA 32 rfl d_X3_init_29 fl_X3_27 rfl (by rw [sk_wR, (g1 156 (by omega)).1]; exact s1) (by rw [hR_w, if_neg (by omega), (g1 156 (by omega)).2.2]; exact s7) ?_
  refine ar_aload_n 33 rfl d_X3_init_32 rfl ?_
  refine ar_giv (y := (c.length : Int)) 36 rfl d_X3_init_33 fl_X3_13 rfl hk1 (by rw [hIwR, (g1 r (by omega)).2.1, hI_w, if_pos ⟨rfl, rfl⟩]) ?_
  refine ar_callS (M' := mJ7_copyOf_59c91) (As := [_, _]) (ls' := [Vr _, Vi _, Vu]) 1 60 (k - 2) (n - 120) 39 rfl d_X3_init_36 ml_X3_20 mt_J7_copyOf_59c91 rfl (Nat.le_of_ble_eq_true rfl) rfl (Nat.le_of_ble_eq_true rfl) (by omega) (by omega) (by omega) ?_
  refine sp_J7_copyOf_59c91 (m := c.length) (k0 := 0) (n0 := 0) (a := 158) (N := 60) (by rw [sk_wR, (g1 158 (by omega)).1]; exact s3) (by omega) hcl (by omega) (by omega) (by omega) (by show 158 < sn σ1; omega) ?_
  have g2 := cI_al (σ := wR σ1 r 0 (some (r + 1))) (a := 158) (m := c.length) (by show 158 < sn σ1; omega)
  have gn2 : sn (wR σ1 r 0 (some (r + 1))) = r + 2 := n1
  rw [gn2] at g2 ⊢
  generalize hσ2 : cI (al (wR σ1 r 0 (some (r + 1))) 10 c.length) 158 0 (r + 2) 0 c.length = σ2 at g2 ⊢
  have n2 : sn σ2 = r + 3 := by rw [← hσ2]; show sn σ1 + 1 = _; omega
  have k2 : sk σ2 (r + 2) = (10, c.length) := by
    rw [← hσ2]
    show (if r + 2 = sn σ1 then (10, c.length) else _) = _
    rw [if_pos (by omega)]
  have v2 : ∀ i x, c[i]? = some x → hI σ2 (r + 2) i = x.2 := by
    intro i x hx
    have hi := (List.getElem?_eq_some_iff.mp hx).1
    rw [← hσ2, hI_c, if_pos (by omega)]
    show (if 158 = sn σ1 then 0 else hI σ1 158 (0 + (i - 0))) = _
    rw [if_neg (by omega), Nat.zero_add, Nat.sub_zero, (g1 158 (by omega)).2.1, hI_w, if_neg (by omega)]
    exact (c6 i x hx).2
  have hk2' : (sk σ2 r).1 = 4 := by rw [(g2 r (by omega)).1]; exact hk1
  have hall : ∀ b, b < r → sk σ2 b = sk σ b ∧ hI σ2 b = hI σ b ∧ hR σ2 b = hR σ b := by
    intro b hb
    refine ⟨?_, ?_, ?_⟩
    · rw [(g2 b (by omega)).1, sk_wR, (g1 b (by omega)).1]
      rfl
    · rw [(g2 b (by omega)).2.1]
      show hI σ1 b = _
      rw [(g1 b (by omega)).2.1]
      funext i
      rw [hI_w, if_neg (by omega)]
    · rw [(g2 b (by omega)).2.2]
      funext i
      rw [hR_w, if_neg (by omega), (g1 b (by omega)).2.2]
      rfl
  have h156 : (sk σ2 156).1 = 3 := by rw [(hall 156 (by omega)).1]; exact s1
  have i156 := (hall 156 (by omega)).2.1
  refine ar_putRF 42 rfl d_X3_init_39 fl_X3_30 (Or.inr ⟨_, rfl⟩) rfl rfl rfl hk2' ?_
  refine ar_aload_n 43 rfl d_X3_init_42 rfl ?_
  refine ar_aload_n 44 rfl d_X3_init_43 rfl ?_
  refine ar_giv (y := (cParts c)) 47 rfl d_X3_init_44 fl_X3_31 rfl h156 (by rw [hIwR, i156]; exact c3) ?_
  refine ar_putIF 50 rfl d_X3_init_47 fl_X3_34 rfl rfl rfl rfl hk2' ?_
  refine ar_aload_n 51 rfl d_X3_init_50 rfl ?_
  refine ar_aload_n 52 rfl d_X3_init_51 rfl ?_
  refine ar_giv (y := ((cSh c : Nat) : Int)) 55 rfl d_X3_init_52 fl_X3_35 rfl h156 (by rw [hI_w, if_neg (by omega), hIwR, i156]; exact c4) ?_
  refine ar_putIF 58 rfl d_X3_init_55 fl_X3_38 rfl rfl rfl rfl hk2' ?_
  refine ar_aload_n 59 rfl d_X3_init_58 rfl ?_
  refine ar_aload_n 60 rfl d_X3_init_59 rfl ?_
  refine ar_giv (y := ((cLo c : Nat) : Int)) 63 rfl d_X3_init_60 fl_X3_39 rfl h156 (by rw [hI_w, if_neg (by omega), hI_w, if_neg (by omega), hIwR, i156]; exact c5) ?_
  refine ar_putIF 66 rfl d_X3_init_63 fl_X3_42 rfl rfl rfl rfl hk2' ?_
  refine WA.ret none ⟨d_X3_init_66, rfl, rfl⟩ ?_
  refine hQ _ ?_ n2 ?_
  · have e0 : ∀ j, hI σ2 r j = hI (wI σ r 2 (c.length : Int)) r j := fun j => by rw [(g2 r (by omega)).2.1]; show hI σ1 r j = _; rw [(g1 r (by omega)).2.1]
    have e1 : hR σ2 r 0 = some (r + 1) := by rw [(g2 r (by omega)).2.2, hR_w, if_pos ⟨rfl, rfl⟩]
    have e2 : hI σ2 (r + 1) = hI σ1 (r + 1) := by rw [(g2 (r + 1) (by omega)).2.1]; rfl
    refine ⟨hk2', ?_, ?_, ?_, k2, ?_, ?_, ?_, ?_, fun i x hx => ⟨?_, ?_⟩⟩
    · simp only [hRwI, hR_w]
      rw [if_neg (by omega)]
      exact e1
    · simp [hRwI, hR_w]
    · simp only [sk_wI, sk_wR]
      rw [(g2 (r + 1) (by omega)).1]
      exact k1
    · simp only [hI_w, hIwR]
      rw [if_neg (by omega), if_neg (by omega), if_neg (by omega), e0, hI_w, if_pos ⟨rfl, rfl⟩]
    · simp [hI_w, hIwR]
    · simp [hI_w, hIwR]
    · simp [hI_w, hIwR]
    · simp only [hI_w, hIwR]
      rw [if_neg (by omega), if_neg (by omega), if_neg (by omega), e2]
      exact v1 i x hx
    · simp only [hI_w, hIwR]
      rw [if_neg (by omega), if_neg (by omega), if_neg (by omega)]
      exact v2 i x hx
  · exact ((((show FrN r σ σ2 from hall).tr (FrN.wR (by omega))).tr (FrN.wI (by omega))).tr (FrN.wI (by omega))).tr (FrN.wI (by omega))
end RECM
end
